section
-- ===== PART A: goes FIRST, ahead of the names: the tables' words, and 'selects' of the private methods out of them =====
/-- a private method of a class that the tables say can be made, by its rows of tables_1 -/
def lw_okq (q : MethodName × Nat) : Prop := (q.1.cls ≠ "java/lang/invoke/MethodHandle" ∧ q.1.cls ≠ "java/lang/invoke/VarHandle") ∧ Cond.instantiable q.1.cls q.2 ∈ tables_1 ∧ Cond.privateMethod q.1 ∈ tables_1 ∧ Cond.instanceMethod q.1 ∈ tables_1
theorem lw_p0 : lw_okq (⟨"VowelTorus$Board", "areAllUnlike", "()Z"⟩, 11) := ⟨⟨by decide +kernel, by decide +kernel⟩, List.mem_of_getElem? (i := 30) (by decide +kernel), List.mem_of_getElem? (i := 250) (by decide +kernel), List.mem_of_getElem? (i := 251) (by decide +kernel)⟩
theorem lw_p1 : lw_okq (⟨"VowelTorus$Board", "filledAim", "()J"⟩, 11) := ⟨⟨by decide +kernel, by decide +kernel⟩, List.mem_of_getElem? (i := 30) (by decide +kernel), List.mem_of_getElem? (i := 258) (by decide +kernel), List.mem_of_getElem? (i := 259) (by decide +kernel)⟩
theorem lw_p2 : lw_okq (⟨"VowelTorus$Board", "isVowelOn", "(II)Z"⟩, 11) := ⟨⟨by decide +kernel, by decide +kernel⟩, List.mem_of_getElem? (i := 30) (by decide +kernel), List.mem_of_getElem? (i := 294) (by decide +kernel), List.mem_of_getElem? (i := 295) (by decide +kernel)⟩
theorem lw_p3 : lw_okq (⟨"VowelTorus$Board", "vowelsOn", "(I)I"⟩, 11) := ⟨⟨by decide +kernel, by decide +kernel⟩, List.mem_of_getElem? (i := 30) (by decide +kernel), List.mem_of_getElem? (i := 316) (by decide +kernel), List.mem_of_getElem? (i := 317) (by decide +kernel)⟩
theorem lw_p4 : lw_okq (⟨"VowelTorus", "writeAll", "(J)I"⟩, 13) := ⟨⟨by decide +kernel, by decide +kernel⟩, List.mem_of_getElem? (i := 22) (by decide +kernel), List.mem_of_getElem? (i := 324) (by decide +kernel), List.mem_of_getElem? (i := 325) (by decide +kernel)⟩
theorem lw_p5 : lw_okq (⟨"VowelTorus", "fewestByHalves", "()I"⟩, 13) := ⟨⟨by decide +kernel, by decide +kernel⟩, List.mem_of_getElem? (i := 22) (by decide +kernel), List.mem_of_getElem? (i := 359) (by decide +kernel), List.mem_of_getElem? (i := 360) (by decide +kernel)⟩
theorem lw_p6 : lw_okq (⟨"VowelTorus$Halfway", "takeGoalsBack", "(LVowelTorus$Board;)V"⟩, 8) := ⟨⟨by decide +kernel, by decide +kernel⟩, List.mem_of_getElem? (i := 103) (by decide +kernel), List.mem_of_getElem? (i := 367) (by decide +kernel), List.mem_of_getElem? (i := 368) (by decide +kernel)⟩
theorem lw_p7 : lw_okq (⟨"VowelTorus$Halfway", "addGoal", "(JJ)V"⟩, 8) := ⟨⟨by decide +kernel, by decide +kernel⟩, List.mem_of_getElem? (i := 103) (by decide +kernel), List.mem_of_getElem? (i := 375) (by decide +kernel), List.mem_of_getElem? (i := 376) (by decide +kernel)⟩
theorem lw_p8 : lw_okq (⟨"VowelTorus$Halfway", "addBoard", "(JI)V"⟩, 8) := ⟨⟨by decide +kernel, by decide +kernel⟩, List.mem_of_getElem? (i := 103) (by decide +kernel), List.mem_of_getElem? (i := 398) (by decide +kernel), List.mem_of_getElem? (i := 399) (by decide +kernel)⟩
theorem lw_p9 : lw_okq (⟨"VowelTorus$Halfway", "spread", "(LVowelTorus$Board;II)V"⟩, 8) := ⟨⟨by decide +kernel, by decide +kernel⟩, List.mem_of_getElem? (i := 103) (by decide +kernel), List.mem_of_getElem? (i := 402) (by decide +kernel), List.mem_of_getElem? (i := 403) (by decide +kernel)⟩
theorem lw_p10 : lw_okq (⟨"VowelTorus$Halfway", "meet", "(IIIII)Z"⟩, 8) := ⟨⟨by decide +kernel, by decide +kernel⟩, List.mem_of_getElem? (i := 103) (by decide +kernel), List.mem_of_getElem? (i := 406) (by decide +kernel), List.mem_of_getElem? (i := 407) (by decide +kernel)⟩
theorem lw_p11 : lw_okq (⟨"VowelTorus$Halfway", "isMet", "(JII)Z"⟩, 8) := ⟨⟨by decide +kernel, by decide +kernel⟩, List.mem_of_getElem? (i := 103) (by decide +kernel), List.mem_of_getElem? (i := 410) (by decide +kernel), List.mem_of_getElem? (i := 411) (by decide +kernel)⟩
theorem lw_p12 : lw_okq (⟨"VowelTorus", "fewestByAll", "()I"⟩, 13) := ⟨⟨by decide +kernel, by decide +kernel⟩, List.mem_of_getElem? (i := 22) (by decide +kernel), List.mem_of_getElem? (i := 414) (by decide +kernel), List.mem_of_getElem? (i := 415) (by decide +kernel)⟩
theorem lw_p13 : lw_okq (⟨"VowelTorus", "change", "(III)V"⟩, 13) := ⟨⟨by decide +kernel, by decide +kernel⟩, List.mem_of_getElem? (i := 22) (by decide +kernel), List.mem_of_getElem? (i := 466) (by decide +kernel), List.mem_of_getElem? (i := 467) (by decide +kernel)⟩
theorem lw_p14 : lw_okq (⟨"VowelTorus", "judge", "(III)I"⟩, 13) := ⟨⟨by decide +kernel, by decide +kernel⟩, List.mem_of_getElem? (i := 22) (by decide +kernel), List.mem_of_getElem? (i := 470) (by decide +kernel), List.mem_of_getElem? (i := 471) (by decide +kernel)⟩
theorem lw_p15 : lw_okq (⟨"VowelTorus", "judgeSign", "(IIJI)I"⟩, 13) := ⟨⟨by decide +kernel, by decide +kernel⟩, List.mem_of_getElem? (i := 22) (by decide +kernel), List.mem_of_getElem? (i := 477) (by decide +kernel), List.mem_of_getElem? (i := 478) (by decide +kernel)⟩
def lw_privs_1 : List (MethodName × Nat) := [(⟨"VowelTorus$Board", "areAllUnlike", "()Z"⟩, 11), (⟨"VowelTorus$Board", "filledAim", "()J"⟩, 11), (⟨"VowelTorus$Board", "isVowelOn", "(II)Z"⟩, 11), (⟨"VowelTorus$Board", "vowelsOn", "(I)I"⟩, 11), (⟨"VowelTorus", "writeAll", "(J)I"⟩, 13), (⟨"VowelTorus", "fewestByHalves", "()I"⟩, 13), (⟨"VowelTorus$Halfway", "takeGoalsBack", "(LVowelTorus$Board;)V"⟩, 8), (⟨"VowelTorus$Halfway", "addGoal", "(JJ)V"⟩, 8), (⟨"VowelTorus$Halfway", "addBoard", "(JI)V"⟩, 8), (⟨"VowelTorus$Halfway", "spread", "(LVowelTorus$Board;II)V"⟩, 8), (⟨"VowelTorus$Halfway", "meet", "(IIIII)Z"⟩, 8), (⟨"VowelTorus$Halfway", "isMet", "(JII)Z"⟩, 8), (⟨"VowelTorus", "fewestByAll", "()I"⟩, 13), (⟨"VowelTorus", "change", "(III)V"⟩, 13), (⟨"VowelTorus", "judge", "(III)I"⟩, 13), (⟨"VowelTorus", "judgeSign", "(IIJI)I"⟩, 13)]
theorem lw_r1 : ∀ q ∈ lw_privs_1, lw_okq q := List.forall_mem_cons.mpr ⟨lw_p0, List.forall_mem_cons.mpr ⟨lw_p1, List.forall_mem_cons.mpr ⟨lw_p2, List.forall_mem_cons.mpr ⟨lw_p3, List.forall_mem_cons.mpr ⟨lw_p4, List.forall_mem_cons.mpr ⟨lw_p5, List.forall_mem_cons.mpr ⟨lw_p6, List.forall_mem_cons.mpr ⟨lw_p7, List.forall_mem_cons.mpr ⟨lw_p8, List.forall_mem_cons.mpr ⟨lw_p9, List.forall_mem_cons.mpr ⟨lw_p10, List.forall_mem_cons.mpr ⟨lw_p11, List.forall_mem_cons.mpr ⟨lw_p12, List.forall_mem_cons.mpr ⟨lw_p13, List.forall_mem_cons.mpr ⟨lw_p14, List.forall_mem_cons.mpr ⟨lw_p15, fun _ h => absurd h List.not_mem_nil⟩⟩⟩⟩⟩⟩⟩⟩⟩⟩⟩⟩⟩⟩⟩⟩
theorem lw_p16 : lw_okq (⟨"VowelTorus", "refuse", "(II)I"⟩, 13) := ⟨⟨by decide +kernel, by decide +kernel⟩, List.mem_of_getElem? (i := 22) (by decide +kernel), List.mem_of_getElem? (i := 485) (by decide +kernel), List.mem_of_getElem? (i := 486) (by decide +kernel)⟩
theorem lw_p17 : lw_okq (⟨"VowelTorus", "judgeTurn", "(I)I"⟩, 13) := ⟨⟨by decide +kernel, by decide +kernel⟩, List.mem_of_getElem? (i := 22) (by decide +kernel), List.mem_of_getElem? (i := 489) (by decide +kernel), List.mem_of_getElem? (i := 490) (by decide +kernel)⟩
theorem lw_p18 : lw_okq (⟨"VowelTorus", "judgeSwap", "(II)I"⟩, 13) := ⟨⟨by decide +kernel, by decide +kernel⟩, List.mem_of_getElem? (i := 22) (by decide +kernel), List.mem_of_getElem? (i := 497) (by decide +kernel), List.mem_of_getElem? (i := 498) (by decide +kernel)⟩
theorem lw_p19 : lw_okq (⟨"VowelTorus", "judgeScramble", "(II)I"⟩, 13) := ⟨⟨by decide +kernel, by decide +kernel⟩, List.mem_of_getElem? (i := 22) (by decide +kernel), List.mem_of_getElem? (i := 505) (by decide +kernel), List.mem_of_getElem? (i := 506) (by decide +kernel)⟩
theorem lw_p20 : lw_okq (⟨"java/lang/Throwable", "fillInStackTrace", "(I)Ljava/lang/Throwable;"⟩, 6) := ⟨⟨by decide +kernel, by decide +kernel⟩, List.mem_of_getElem? (i := 554) (by decide +kernel), List.mem_of_getElem? (i := 552) (by decide +kernel), List.mem_of_getElem? (i := 553) (by decide +kernel)⟩
theorem lw_p21 : lw_okq (⟨"VowelTorus$History", "at", "(I)LVowelTorus$Board;"⟩, 3) := ⟨⟨by decide +kernel, by decide +kernel⟩, List.mem_of_getElem? (i := 83) (by decide +kernel), List.mem_of_getElem? (i := 620) (by decide +kernel), List.mem_of_getElem? (i := 621) (by decide +kernel)⟩
theorem lw_p22 : lw_okq (⟨"VowelTorus", "carryOut", "(III)V"⟩, 13) := ⟨⟨by decide +kernel, by decide +kernel⟩, List.mem_of_getElem? (i := 22) (by decide +kernel), List.mem_of_getElem? (i := 629) (by decide +kernel), List.mem_of_getElem? (i := 630) (by decide +kernel)⟩
theorem lw_p23 : lw_okq (⟨"VowelTorus$Board", "makeTurn", "(I)V"⟩, 11) := ⟨⟨by decide +kernel, by decide +kernel⟩, List.mem_of_getElem? (i := 30) (by decide +kernel), List.mem_of_getElem? (i := 643) (by decide +kernel), List.mem_of_getElem? (i := 644) (by decide +kernel)⟩
theorem lw_p24 : lw_okq (⟨"VowelTorus", "judgeStep", "()I"⟩, 13) := ⟨⟨by decide +kernel, by decide +kernel⟩, List.mem_of_getElem? (i := 22) (by decide +kernel), List.mem_of_getElem? (i := 732) (by decide +kernel), List.mem_of_getElem? (i := 733) (by decide +kernel)⟩
theorem lw_p25 : lw_okq (⟨"VowelTorus$Orders", "readOrder", "()Z"⟩, 7) := ⟨⟨by decide +kernel, by decide +kernel⟩, List.mem_of_getElem? (i := 153) (by decide +kernel), List.mem_of_getElem? (i := 947) (by decide +kernel), List.mem_of_getElem? (i := 948) (by decide +kernel)⟩
theorem lw_p26 : lw_okq (⟨"VowelTorus$Orders", "peek", "()C"⟩, 7) := ⟨⟨by decide +kernel, by decide +kernel⟩, List.mem_of_getElem? (i := 153) (by decide +kernel), List.mem_of_getElem? (i := 951) (by decide +kernel), List.mem_of_getElem? (i := 952) (by decide +kernel)⟩
theorem lw_p27 : lw_okq (⟨"VowelTorus$Orders", "takeNumber", "()I"⟩, 7) := ⟨⟨by decide +kernel, by decide +kernel⟩, List.mem_of_getElem? (i := 153) (by decide +kernel), List.mem_of_getElem? (i := 958) (by decide +kernel), List.mem_of_getElem? (i := 959) (by decide +kernel)⟩
theorem lw_p28 : lw_okq (⟨"VowelTorus$Orders", "takeDigit", "()I"⟩, 7) := ⟨⟨by decide +kernel, by decide +kernel⟩, List.mem_of_getElem? (i := 153) (by decide +kernel), List.mem_of_getElem? (i := 962) (by decide +kernel), List.mem_of_getElem? (i := 963) (by decide +kernel)⟩
theorem lw_p29 : lw_okq (⟨"VowelTorus$Orders", "take", "(C)Z"⟩, 7) := ⟨⟨by decide +kernel, by decide +kernel⟩, List.mem_of_getElem? (i := 153) (by decide +kernel), List.mem_of_getElem? (i := 966) (by decide +kernel), List.mem_of_getElem? (i := 967) (by decide +kernel)⟩
theorem lw_p30 : lw_okq (⟨"VowelTorus$Orders", "takeOther", "(I)I"⟩, 7) := ⟨⟨by decide +kernel, by decide +kernel⟩, List.mem_of_getElem? (i := 153) (by decide +kernel), List.mem_of_getElem? (i := 970) (by decide +kernel), List.mem_of_getElem? (i := 971) (by decide +kernel)⟩
theorem lw_p31 : lw_okq (⟨"VowelTorus$Orders", "takeCode", "(I)I"⟩, 7) := ⟨⟨by decide +kernel, by decide +kernel⟩, List.mem_of_getElem? (i := 153) (by decide +kernel), List.mem_of_getElem? (i := 974) (by decide +kernel), List.mem_of_getElem? (i := 975) (by decide +kernel)⟩
def lw_privs_2 : List (MethodName × Nat) := [(⟨"VowelTorus", "refuse", "(II)I"⟩, 13), (⟨"VowelTorus", "judgeTurn", "(I)I"⟩, 13), (⟨"VowelTorus", "judgeSwap", "(II)I"⟩, 13), (⟨"VowelTorus", "judgeScramble", "(II)I"⟩, 13), (⟨"java/lang/Throwable", "fillInStackTrace", "(I)Ljava/lang/Throwable;"⟩, 6), (⟨"VowelTorus$History", "at", "(I)LVowelTorus$Board;"⟩, 3), (⟨"VowelTorus", "carryOut", "(III)V"⟩, 13), (⟨"VowelTorus$Board", "makeTurn", "(I)V"⟩, 11), (⟨"VowelTorus", "judgeStep", "()I"⟩, 13), (⟨"VowelTorus$Orders", "readOrder", "()Z"⟩, 7), (⟨"VowelTorus$Orders", "peek", "()C"⟩, 7), (⟨"VowelTorus$Orders", "takeNumber", "()I"⟩, 7), (⟨"VowelTorus$Orders", "takeDigit", "()I"⟩, 7), (⟨"VowelTorus$Orders", "take", "(C)Z"⟩, 7), (⟨"VowelTorus$Orders", "takeOther", "(I)I"⟩, 7), (⟨"VowelTorus$Orders", "takeCode", "(I)I"⟩, 7)]
theorem lw_r2 : ∀ q ∈ lw_privs_2, lw_okq q := List.forall_mem_cons.mpr ⟨lw_p16, List.forall_mem_cons.mpr ⟨lw_p17, List.forall_mem_cons.mpr ⟨lw_p18, List.forall_mem_cons.mpr ⟨lw_p19, List.forall_mem_cons.mpr ⟨lw_p20, List.forall_mem_cons.mpr ⟨lw_p21, List.forall_mem_cons.mpr ⟨lw_p22, List.forall_mem_cons.mpr ⟨lw_p23, List.forall_mem_cons.mpr ⟨lw_p24, List.forall_mem_cons.mpr ⟨lw_p25, List.forall_mem_cons.mpr ⟨lw_p26, List.forall_mem_cons.mpr ⟨lw_p27, List.forall_mem_cons.mpr ⟨lw_p28, List.forall_mem_cons.mpr ⟨lw_p29, List.forall_mem_cons.mpr ⟨lw_p30, List.forall_mem_cons.mpr ⟨lw_p31, fun _ h => absurd h List.not_mem_nil⟩⟩⟩⟩⟩⟩⟩⟩⟩⟩⟩⟩⟩⟩⟩⟩
theorem lw_p32 : lw_okq (⟨"VowelTorus$Orders", "add", "(III)V"⟩, 7) := ⟨⟨by decide +kernel, by decide +kernel⟩, List.mem_of_getElem? (i := 153) (by decide +kernel), List.mem_of_getElem? (i := 979) (by decide +kernel), List.mem_of_getElem? (i := 980) (by decide +kernel)⟩
theorem lw_p33 : lw_okq (⟨"VowelTorus", "carryOutAll", "()I"⟩, 13) := ⟨⟨by decide +kernel, by decide +kernel⟩, List.mem_of_getElem? (i := 22) (by decide +kernel), List.mem_of_getElem? (i := 983) (by decide +kernel), List.mem_of_getElem? (i := 984) (by decide +kernel)⟩
theorem lw_p34 : lw_okq (⟨"VowelTorusModel", "lays", "(II)V"⟩, 21) := ⟨⟨by decide +kernel, by decide +kernel⟩, List.mem_of_getElem? (i := 1067) (by decide +kernel), List.mem_of_getElem? (i := 1073) (by decide +kernel), List.mem_of_getElem? (i := 1074) (by decide +kernel)⟩
theorem lw_p35 : lw_okq (⟨"VowelTorusModel", "looksBack", "()V"⟩, 21) := ⟨⟨by decide +kernel, by decide +kernel⟩, List.mem_of_getElem? (i := 1067) (by decide +kernel), List.mem_of_getElem? (i := 1149) (by decide +kernel), List.mem_of_getElem? (i := 1150) (by decide +kernel)⟩
theorem lw_p36 : lw_okq (⟨"VowelTorusModel", "boards", "(II)I"⟩, 21) := ⟨⟨by decide +kernel, by decide +kernel⟩, List.mem_of_getElem? (i := 1067) (by decide +kernel), List.mem_of_getElem? (i := 1156) (by decide +kernel), List.mem_of_getElem? (i := 1157) (by decide +kernel)⟩
theorem lw_p37 : lw_okq (⟨"VowelTorusModel", "fails", "(I)I"⟩, 21) := ⟨⟨by decide +kernel, by decide +kernel⟩, List.mem_of_getElem? (i := 1067) (by decide +kernel), List.mem_of_getElem? (i := 1163) (by decide +kernel), List.mem_of_getElem? (i := 1164) (by decide +kernel)⟩
theorem lw_p38 : lw_okq (⟨"VowelTorusModel", "places", "()I"⟩, 21) := ⟨⟨by decide +kernel, by decide +kernel⟩, List.mem_of_getElem? (i := 1067) (by decide +kernel), List.mem_of_getElem? (i := 1167) (by decide +kernel), List.mem_of_getElem? (i := 1168) (by decide +kernel)⟩
theorem lw_p39 : lw_okq (⟨"VowelTorusModel", "done", "(I)I"⟩, 21) := ⟨⟨by decide +kernel, by decide +kernel⟩, List.mem_of_getElem? (i := 1067) (by decide +kernel), List.mem_of_getElem? (i := 1171) (by decide +kernel), List.mem_of_getElem? (i := 1172) (by decide +kernel)⟩
theorem lw_p40 : lw_okq (⟨"VowelTorusModel", "kept", "(I)I"⟩, 21) := ⟨⟨by decide +kernel, by decide +kernel⟩, List.mem_of_getElem? (i := 1067) (by decide +kernel), List.mem_of_getElem? (i := 1175) (by decide +kernel), List.mem_of_getElem? (i := 1176) (by decide +kernel)⟩
theorem lw_p41 : lw_okq (⟨"VowelTorusModel", "puts", "(II)I"⟩, 21) := ⟨⟨by decide +kernel, by decide +kernel⟩, List.mem_of_getElem? (i := 1067) (by decide +kernel), List.mem_of_getElem? (i := 1183) (by decide +kernel), List.mem_of_getElem? (i := 1184) (by decide +kernel)⟩
theorem lw_p42 : lw_okq (⟨"VowelTorusModel", "isPlace", "(I)Z"⟩, 21) := ⟨⟨by decide +kernel, by decide +kernel⟩, List.mem_of_getElem? (i := 1067) (by decide +kernel), List.mem_of_getElem? (i := 1187) (by decide +kernel), List.mem_of_getElem? (i := 1188) (by decide +kernel)⟩
theorem lw_p43 : lw_okq (⟨"VowelTorusModel", "tells", "(III)I"⟩, 21) := ⟨⟨by decide +kernel, by decide +kernel⟩, List.mem_of_getElem? (i := 1067) (by decide +kernel), List.mem_of_getElem? (i := 1194) (by decide +kernel), List.mem_of_getElem? (i := 1195) (by decide +kernel)⟩
theorem lw_p44 : lw_okq (⟨"VowelTorusModel", "refused", "(III)I"⟩, 21) := ⟨⟨by decide +kernel, by decide +kernel⟩, List.mem_of_getElem? (i := 1067) (by decide +kernel), List.mem_of_getElem? (i := 1198) (by decide +kernel), List.mem_of_getElem? (i := 1199) (by decide +kernel)⟩
theorem lw_p45 : lw_okq (⟨"VowelTorusModel", "goals", "(II)I"⟩, 21) := ⟨⟨by decide +kernel, by decide +kernel⟩, List.mem_of_getElem? (i := 1067) (by decide +kernel), List.mem_of_getElem? (i := 1209) (by decide +kernel), List.mem_of_getElem? (i := 1210) (by decide +kernel)⟩
theorem lw_p46 : lw_okq (⟨"VowelTorusModel", "turnsOne", "(I)I"⟩, 21) := ⟨⟨by decide +kernel, by decide +kernel⟩, List.mem_of_getElem? (i := 1067) (by decide +kernel), List.mem_of_getElem? (i := 1217) (by decide +kernel), List.mem_of_getElem? (i := 1218) (by decide +kernel)⟩
theorem lw_p47 : lw_okq (⟨"VowelTorusModel", "isTurn", "(I)Z"⟩, 21) := ⟨⟨by decide +kernel, by decide +kernel⟩, List.mem_of_getElem? (i := 1067) (by decide +kernel), List.mem_of_getElem? (i := 1221) (by decide +kernel), List.mem_of_getElem? (i := 1222) (by decide +kernel)⟩
def lw_privs_3 : List (MethodName × Nat) := [(⟨"VowelTorus$Orders", "add", "(III)V"⟩, 7), (⟨"VowelTorus", "carryOutAll", "()I"⟩, 13), (⟨"VowelTorusModel", "lays", "(II)V"⟩, 21), (⟨"VowelTorusModel", "looksBack", "()V"⟩, 21), (⟨"VowelTorusModel", "boards", "(II)I"⟩, 21), (⟨"VowelTorusModel", "fails", "(I)I"⟩, 21), (⟨"VowelTorusModel", "places", "()I"⟩, 21), (⟨"VowelTorusModel", "done", "(I)I"⟩, 21), (⟨"VowelTorusModel", "kept", "(I)I"⟩, 21), (⟨"VowelTorusModel", "puts", "(II)I"⟩, 21), (⟨"VowelTorusModel", "isPlace", "(I)Z"⟩, 21), (⟨"VowelTorusModel", "tells", "(III)I"⟩, 21), (⟨"VowelTorusModel", "refused", "(III)I"⟩, 21), (⟨"VowelTorusModel", "goals", "(II)I"⟩, 21), (⟨"VowelTorusModel", "turnsOne", "(I)I"⟩, 21), (⟨"VowelTorusModel", "isTurn", "(I)Z"⟩, 21)]
theorem lw_r3 : ∀ q ∈ lw_privs_3, lw_okq q := List.forall_mem_cons.mpr ⟨lw_p32, List.forall_mem_cons.mpr ⟨lw_p33, List.forall_mem_cons.mpr ⟨lw_p34, List.forall_mem_cons.mpr ⟨lw_p35, List.forall_mem_cons.mpr ⟨lw_p36, List.forall_mem_cons.mpr ⟨lw_p37, List.forall_mem_cons.mpr ⟨lw_p38, List.forall_mem_cons.mpr ⟨lw_p39, List.forall_mem_cons.mpr ⟨lw_p40, List.forall_mem_cons.mpr ⟨lw_p41, List.forall_mem_cons.mpr ⟨lw_p42, List.forall_mem_cons.mpr ⟨lw_p43, List.forall_mem_cons.mpr ⟨lw_p44, List.forall_mem_cons.mpr ⟨lw_p45, List.forall_mem_cons.mpr ⟨lw_p46, List.forall_mem_cons.mpr ⟨lw_p47, fun _ h => absurd h List.not_mem_nil⟩⟩⟩⟩⟩⟩⟩⟩⟩⟩⟩⟩⟩⟩⟩⟩
theorem lw_p48 : lw_okq (⟨"VowelTorusModel", "lines", "()I"⟩, 21) := ⟨⟨by decide +kernel, by decide +kernel⟩, List.mem_of_getElem? (i := 1067) (by decide +kernel), List.mem_of_getElem? (i := 1225) (by decide +kernel), List.mem_of_getElem? (i := 1226) (by decide +kernel)⟩
theorem lw_p49 : lw_okq (⟨"VowelTorusModel", "isOpen", "(I)Z"⟩, 21) := ⟨⟨by decide +kernel, by decide +kernel⟩, List.mem_of_getElem? (i := 1067) (by decide +kernel), List.mem_of_getElem? (i := 1229) (by decide +kernel), List.mem_of_getElem? (i := 1230) (by decide +kernel)⟩
theorem lw_p50 : lw_okq (⟨"VowelTorusModel", "makesByHand", "(I)I"⟩, 21) := ⟨⟨by decide +kernel, by decide +kernel⟩, List.mem_of_getElem? (i := 1067) (by decide +kernel), List.mem_of_getElem? (i := 1233) (by decide +kernel), List.mem_of_getElem? (i := 1234) (by decide +kernel)⟩
theorem lw_p51 : lw_okq (⟨"VowelTorusModel", "homes", "()I"⟩, 21) := ⟨⟨by decide +kernel, by decide +kernel⟩, List.mem_of_getElem? (i := 1067) (by decide +kernel), List.mem_of_getElem? (i := 1237) (by decide +kernel), List.mem_of_getElem? (i := 1238) (by decide +kernel)⟩
theorem lw_p52 : lw_okq (⟨"VowelTorusModel", "tries", "()V"⟩, 21) := ⟨⟨by decide +kernel, by decide +kernel⟩, List.mem_of_getElem? (i := 1067) (by decide +kernel), List.mem_of_getElem? (i := 1241) (by decide +kernel), List.mem_of_getElem? (i := 1242) (by decide +kernel)⟩
theorem lw_p53 : lw_okq (⟨"VowelTorusModel", "homeTried", "()I"⟩, 21) := ⟨⟨by decide +kernel, by decide +kernel⟩, List.mem_of_getElem? (i := 1067) (by decide +kernel), List.mem_of_getElem? (i := 1245) (by decide +kernel), List.mem_of_getElem? (i := 1246) (by decide +kernel)⟩
theorem lw_p54 : lw_okq (⟨"VowelTorusModel", "makes", "(I)I"⟩, 21) := ⟨⟨by decide +kernel, by decide +kernel⟩, List.mem_of_getElem? (i := 1067) (by decide +kernel), List.mem_of_getElem? (i := 1249) (by decide +kernel), List.mem_of_getElem? (i := 1250) (by decide +kernel)⟩
theorem lw_p55 : lw_okq (⟨"VowelTorusModel", "turnsTried", "(I)V"⟩, 21) := ⟨⟨by decide +kernel, by decide +kernel⟩, List.mem_of_getElem? (i := 1067) (by decide +kernel), List.mem_of_getElem? (i := 1253) (by decide +kernel), List.mem_of_getElem? (i := 1254) (by decide +kernel)⟩
theorem lw_p56 : lw_okq (⟨"VowelTorusModel", "goes", "(II)I"⟩, 21) := ⟨⟨by decide +kernel, by decide +kernel⟩, List.mem_of_getElem? (i := 1067) (by decide +kernel), List.mem_of_getElem? (i := 1257) (by decide +kernel), List.mem_of_getElem? (i := 1258) (by decide +kernel)⟩
theorem lw_p57 : lw_okq (⟨"VowelTorusModel", "takesTried", "()V"⟩, 21) := ⟨⟨by decide +kernel, by decide +kernel⟩, List.mem_of_getElem? (i := 1067) (by decide +kernel), List.mem_of_getElem? (i := 1261) (by decide +kernel), List.mem_of_getElem? (i := 1262) (by decide +kernel)⟩
theorem lw_p58 : lw_okq (⟨"VowelTorusModel", "swaps", "(II)I"⟩, 21) := ⟨⟨by decide +kernel, by decide +kernel⟩, List.mem_of_getElem? (i := 1067) (by decide +kernel), List.mem_of_getElem? (i := 1269) (by decide +kernel), List.mem_of_getElem? (i := 1270) (by decide +kernel)⟩
theorem lw_p59 : lw_okq (⟨"VowelTorusModel", "bars", "(I)I"⟩, 21) := ⟨⟨by decide +kernel, by decide +kernel⟩, List.mem_of_getElem? (i := 1067) (by decide +kernel), List.mem_of_getElem? (i := 1277) (by decide +kernel), List.mem_of_getElem? (i := 1278) (by decide +kernel)⟩
theorem lw_p60 : lw_okq (⟨"VowelTorusModel", "isLine", "(I)Z"⟩, 21) := ⟨⟨by decide +kernel, by decide +kernel⟩, List.mem_of_getElem? (i := 1067) (by decide +kernel), List.mem_of_getElem? (i := 1281) (by decide +kernel), List.mem_of_getElem? (i := 1282) (by decide +kernel)⟩
theorem lw_p61 : lw_okq (⟨"VowelTorusModel", "scrambles", "(II)I"⟩, 21) := ⟨⟨by decide +kernel, by decide +kernel⟩, List.mem_of_getElem? (i := 1067) (by decide +kernel), List.mem_of_getElem? (i := 1289) (by decide +kernel), List.mem_of_getElem? (i := 1290) (by decide +kernel)⟩
theorem lw_p62 : lw_okq (⟨"VowelTorusModel", "shortest", "()I"⟩, 21) := ⟨⟨by decide +kernel, by decide +kernel⟩, List.mem_of_getElem? (i := 1067) (by decide +kernel), List.mem_of_getElem? (i := 1297) (by decide +kernel), List.mem_of_getElem? (i := 1298) (by decide +kernel)⟩
theorem lw_p63 : lw_okq (⟨"VowelTorusModel", "leads", "(II)Z"⟩, 21) := ⟨⟨by decide +kernel, by decide +kernel⟩, List.mem_of_getElem? (i := 1067) (by decide +kernel), List.mem_of_getElem? (i := 1301) (by decide +kernel), List.mem_of_getElem? (i := 1302) (by decide +kernel)⟩
def lw_privs_4 : List (MethodName × Nat) := [(⟨"VowelTorusModel", "lines", "()I"⟩, 21), (⟨"VowelTorusModel", "isOpen", "(I)Z"⟩, 21), (⟨"VowelTorusModel", "makesByHand", "(I)I"⟩, 21), (⟨"VowelTorusModel", "homes", "()I"⟩, 21), (⟨"VowelTorusModel", "tries", "()V"⟩, 21), (⟨"VowelTorusModel", "homeTried", "()I"⟩, 21), (⟨"VowelTorusModel", "makes", "(I)I"⟩, 21), (⟨"VowelTorusModel", "turnsTried", "(I)V"⟩, 21), (⟨"VowelTorusModel", "goes", "(II)I"⟩, 21), (⟨"VowelTorusModel", "takesTried", "()V"⟩, 21), (⟨"VowelTorusModel", "swaps", "(II)I"⟩, 21), (⟨"VowelTorusModel", "bars", "(I)I"⟩, 21), (⟨"VowelTorusModel", "isLine", "(I)Z"⟩, 21), (⟨"VowelTorusModel", "scrambles", "(II)I"⟩, 21), (⟨"VowelTorusModel", "shortest", "()I"⟩, 21), (⟨"VowelTorusModel", "leads", "(II)Z"⟩, 21)]
theorem lw_r4 : ∀ q ∈ lw_privs_4, lw_okq q := List.forall_mem_cons.mpr ⟨lw_p48, List.forall_mem_cons.mpr ⟨lw_p49, List.forall_mem_cons.mpr ⟨lw_p50, List.forall_mem_cons.mpr ⟨lw_p51, List.forall_mem_cons.mpr ⟨lw_p52, List.forall_mem_cons.mpr ⟨lw_p53, List.forall_mem_cons.mpr ⟨lw_p54, List.forall_mem_cons.mpr ⟨lw_p55, List.forall_mem_cons.mpr ⟨lw_p56, List.forall_mem_cons.mpr ⟨lw_p57, List.forall_mem_cons.mpr ⟨lw_p58, List.forall_mem_cons.mpr ⟨lw_p59, List.forall_mem_cons.mpr ⟨lw_p60, List.forall_mem_cons.mpr ⟨lw_p61, List.forall_mem_cons.mpr ⟨lw_p62, List.forall_mem_cons.mpr ⟨lw_p63, fun _ h => absurd h List.not_mem_nil⟩⟩⟩⟩⟩⟩⟩⟩⟩⟩⟩⟩⟩⟩⟩⟩
theorem lw_p64 : lw_okq (⟨"VowelTorusModel", "isOutOfReach", "()Z"⟩, 21) := ⟨⟨by decide +kernel, by decide +kernel⟩, List.mem_of_getElem? (i := 1067) (by decide +kernel), List.mem_of_getElem? (i := 1313) (by decide +kernel), List.mem_of_getElem? (i := 1314) (by decide +kernel)⟩
theorem lw_p65 : lw_okq (⟨"VowelTorusModel", "lacksLetters", "()Z"⟩, 21) := ⟨⟨by decide +kernel, by decide +kernel⟩, List.mem_of_getElem? (i := 1067) (by decide +kernel), List.mem_of_getElem? (i := 1317) (by decide +kernel), List.mem_of_getElem? (i := 1318) (by decide +kernel)⟩
theorem lw_p66 : lw_okq (⟨"VowelTorusModel", "timesOf", "(II)I"⟩, 21) := ⟨⟨by decide +kernel, by decide +kernel⟩, List.mem_of_getElem? (i := 1067) (by decide +kernel), List.mem_of_getElem? (i := 1321) (by decide +kernel), List.mem_of_getElem? (i := 1322) (by decide +kernel)⟩
theorem lw_p67 : lw_okq (⟨"VowelTorusModel", "unlike", "()I"⟩, 21) := ⟨⟨by decide +kernel, by decide +kernel⟩, List.mem_of_getElem? (i := 1067) (by decide +kernel), List.mem_of_getElem? (i := 1325) (by decide +kernel), List.mem_of_getElem? (i := 1326) (by decide +kernel)⟩
theorem lw_p68 : lw_okq (⟨"VowelTorusModel", "swapsAreOdd", "()Z"⟩, 21) := ⟨⟨by decide +kernel, by decide +kernel⟩, List.mem_of_getElem? (i := 1067) (by decide +kernel), List.mem_of_getElem? (i := 1329) (by decide +kernel), List.mem_of_getElem? (i := 1330) (by decide +kernel)⟩
theorem lw_p69 : lw_okq (⟨"VowelTorusModel", "steps", "()I"⟩, 21) := ⟨⟨by decide +kernel, by decide +kernel⟩, List.mem_of_getElem? (i := 1067) (by decide +kernel), List.mem_of_getElem? (i := 1341) (by decide +kernel), List.mem_of_getElem? (i := 1342) (by decide +kernel)⟩
theorem lw_p70 : lw_okq (⟨"VowelTorusModel", "barredLines", "()I"⟩, 21) := ⟨⟨by decide +kernel, by decide +kernel⟩, List.mem_of_getElem? (i := 1067) (by decide +kernel), List.mem_of_getElem? (i := 1361) (by decide +kernel), List.mem_of_getElem? (i := 1362) (by decide +kernel)⟩
theorem lw_p71 : lw_okq (⟨"VowelTorusModel", "homeBehind", "(I)I"⟩, 21) := ⟨⟨by decide +kernel, by decide +kernel⟩, List.mem_of_getElem? (i := 1067) (by decide +kernel), List.mem_of_getElem? (i := 1373) (by decide +kernel), List.mem_of_getElem? (i := 1374) (by decide +kernel)⟩
theorem lw_p72 : lw_okq (⟨"VowelTorusModel", "stepsBetween", "(III)I"⟩, 21) := ⟨⟨by decide +kernel, by decide +kernel⟩, List.mem_of_getElem? (i := 1067) (by decide +kernel), List.mem_of_getElem? (i := 1389) (by decide +kernel), List.mem_of_getElem? (i := 1390) (by decide +kernel)⟩
theorem lw_p73 : lw_okq (⟨"VowelTorusModel", "isSinging", "(I)Z"⟩, 21) := ⟨⟨by decide +kernel, by decide +kernel⟩, List.mem_of_getElem? (i := 1067) (by decide +kernel), List.mem_of_getElem? (i := 1400) (by decide +kernel), List.mem_of_getElem? (i := 1401) (by decide +kernel)⟩
theorem lw_p74 : lw_okq (⟨"VowelTorusModel", "vowels", "(I)I"⟩, 21) := ⟨⟨by decide +kernel, by decide +kernel⟩, List.mem_of_getElem? (i := 1067) (by decide +kernel), List.mem_of_getElem? (i := 1404) (by decide +kernel), List.mem_of_getElem? (i := 1405) (by decide +kernel)⟩
theorem lw_p75 : lw_okq (⟨"VowelTorusModel", "lengthOf", "(I)I"⟩, 21) := ⟨⟨by decide +kernel, by decide +kernel⟩, List.mem_of_getElem? (i := 1067) (by decide +kernel), List.mem_of_getElem? (i := 1408) (by decide +kernel), List.mem_of_getElem? (i := 1409) (by decide +kernel)⟩
theorem lw_p76 : lw_okq (⟨"VowelTorusModel", "isVowelOn", "(II)Z"⟩, 21) := ⟨⟨by decide +kernel, by decide +kernel⟩, List.mem_of_getElem? (i := 1067) (by decide +kernel), List.mem_of_getElem? (i := 1412) (by decide +kernel), List.mem_of_getElem? (i := 1413) (by decide +kernel)⟩
theorem lw_p77 : lw_okq (⟨"VowelTorusModel", "placeOn", "(II)I"⟩, 21) := ⟨⟨by decide +kernel, by decide +kernel⟩, List.mem_of_getElem? (i := 1067) (by decide +kernel), List.mem_of_getElem? (i := 1416) (by decide +kernel), List.mem_of_getElem? (i := 1417) (by decide +kernel)⟩
theorem lw_p78 : lw_okq (⟨"VowelTorusModel", "writesAll", "(I)I"⟩, 21) := ⟨⟨by decide +kernel, by decide +kernel⟩, List.mem_of_getElem? (i := 1067) (by decide +kernel), List.mem_of_getElem? (i := 1435) (by decide +kernel), List.mem_of_getElem? (i := 1436) (by decide +kernel)⟩
theorem lw_p79 : lw_okq (⟨"VowelTorusModel", "writes", "(I)V"⟩, 21) := ⟨⟨by decide +kernel, by decide +kernel⟩, List.mem_of_getElem? (i := 1067) (by decide +kernel), List.mem_of_getElem? (i := 1439) (by decide +kernel), List.mem_of_getElem? (i := 1440) (by decide +kernel)⟩
def lw_privs_5 : List (MethodName × Nat) := [(⟨"VowelTorusModel", "isOutOfReach", "()Z"⟩, 21), (⟨"VowelTorusModel", "lacksLetters", "()Z"⟩, 21), (⟨"VowelTorusModel", "timesOf", "(II)I"⟩, 21), (⟨"VowelTorusModel", "unlike", "()I"⟩, 21), (⟨"VowelTorusModel", "swapsAreOdd", "()Z"⟩, 21), (⟨"VowelTorusModel", "steps", "()I"⟩, 21), (⟨"VowelTorusModel", "barredLines", "()I"⟩, 21), (⟨"VowelTorusModel", "homeBehind", "(I)I"⟩, 21), (⟨"VowelTorusModel", "stepsBetween", "(III)I"⟩, 21), (⟨"VowelTorusModel", "isSinging", "(I)Z"⟩, 21), (⟨"VowelTorusModel", "vowels", "(I)I"⟩, 21), (⟨"VowelTorusModel", "lengthOf", "(I)I"⟩, 21), (⟨"VowelTorusModel", "isVowelOn", "(II)Z"⟩, 21), (⟨"VowelTorusModel", "placeOn", "(II)I"⟩, 21), (⟨"VowelTorusModel", "writesAll", "(I)I"⟩, 21), (⟨"VowelTorusModel", "writes", "(I)V"⟩, 21)]
theorem lw_r5 : ∀ q ∈ lw_privs_5, lw_okq q := List.forall_mem_cons.mpr ⟨lw_p64, List.forall_mem_cons.mpr ⟨lw_p65, List.forall_mem_cons.mpr ⟨lw_p66, List.forall_mem_cons.mpr ⟨lw_p67, List.forall_mem_cons.mpr ⟨lw_p68, List.forall_mem_cons.mpr ⟨lw_p69, List.forall_mem_cons.mpr ⟨lw_p70, List.forall_mem_cons.mpr ⟨lw_p71, List.forall_mem_cons.mpr ⟨lw_p72, List.forall_mem_cons.mpr ⟨lw_p73, List.forall_mem_cons.mpr ⟨lw_p74, List.forall_mem_cons.mpr ⟨lw_p75, List.forall_mem_cons.mpr ⟨lw_p76, List.forall_mem_cons.mpr ⟨lw_p77, List.forall_mem_cons.mpr ⟨lw_p78, List.forall_mem_cons.mpr ⟨lw_p79, fun _ h => absurd h List.not_mem_nil⟩⟩⟩⟩⟩⟩⟩⟩⟩⟩⟩⟩⟩⟩⟩⟩
theorem lw_p80 : lw_okq (⟨"VowelTorusModel", "readsOrder", "(I)V"⟩, 21) := ⟨⟨by decide +kernel, by decide +kernel⟩, List.mem_of_getElem? (i := 1067) (by decide +kernel), List.mem_of_getElem? (i := 1463) (by decide +kernel), List.mem_of_getElem? (i := 1464) (by decide +kernel)⟩
theorem lw_p81 : lw_okq (⟨"VowelTorusModel", "here", "()I"⟩, 21) := ⟨⟨by decide +kernel, by decide +kernel⟩, List.mem_of_getElem? (i := 1067) (by decide +kernel), List.mem_of_getElem? (i := 1467) (by decide +kernel), List.mem_of_getElem? (i := 1468) (by decide +kernel)⟩
theorem lw_p82 : lw_okq (⟨"VowelTorusModel", "figures", "(I)I"⟩, 21) := ⟨⟨by decide +kernel, by decide +kernel⟩, List.mem_of_getElem? (i := 1067) (by decide +kernel), List.mem_of_getElem? (i := 1471) (by decide +kernel), List.mem_of_getElem? (i := 1472) (by decide +kernel)⟩
theorem lw_p83 : lw_okq (⟨"VowelTorusModel", "readsSign", "(Z)I"⟩, 21) := ⟨⟨by decide +kernel, by decide +kernel⟩, List.mem_of_getElem? (i := 1067) (by decide +kernel), List.mem_of_getElem? (i := 1475) (by decide +kernel), List.mem_of_getElem? (i := 1476) (by decide +kernel)⟩
theorem lw_p84 : lw_okq (⟨"VowelTorusModel", "needs", "(I)V"⟩, 21) := ⟨⟨by decide +kernel, by decide +kernel⟩, List.mem_of_getElem? (i := 1067) (by decide +kernel), List.mem_of_getElem? (i := 1479) (by decide +kernel), List.mem_of_getElem? (i := 1480) (by decide +kernel)⟩
theorem lw_p85 : lw_okq (⟨"VowelTorusModel", "does", "(I)I"⟩, 21) := ⟨⟨by decide +kernel, by decide +kernel⟩, List.mem_of_getElem? (i := 1067) (by decide +kernel), List.mem_of_getElem? (i := 1483) (by decide +kernel), List.mem_of_getElem? (i := 1484) (by decide +kernel)⟩
theorem lw_p86 : lw_okq (⟨"VowelTorusModel", "farFromHome", "(I)I"⟩, 21) := ⟨⟨by decide +kernel, by decide +kernel⟩, List.mem_of_getElem? (i := 1067) (by decide +kernel), List.mem_of_getElem? (i := 1507) (by decide +kernel), List.mem_of_getElem? (i := 1508) (by decide +kernel)⟩
def lw_privs_6 : List (MethodName × Nat) := [(⟨"VowelTorusModel", "readsOrder", "(I)V"⟩, 21), (⟨"VowelTorusModel", "here", "()I"⟩, 21), (⟨"VowelTorusModel", "figures", "(I)I"⟩, 21), (⟨"VowelTorusModel", "readsSign", "(Z)I"⟩, 21), (⟨"VowelTorusModel", "needs", "(I)V"⟩, 21), (⟨"VowelTorusModel", "does", "(I)I"⟩, 21), (⟨"VowelTorusModel", "farFromHome", "(I)I"⟩, 21)]
theorem lw_r6 : ∀ q ∈ lw_privs_6, lw_okq q := List.forall_mem_cons.mpr ⟨lw_p80, List.forall_mem_cons.mpr ⟨lw_p81, List.forall_mem_cons.mpr ⟨lw_p82, List.forall_mem_cons.mpr ⟨lw_p83, List.forall_mem_cons.mpr ⟨lw_p84, List.forall_mem_cons.mpr ⟨lw_p85, List.forall_mem_cons.mpr ⟨lw_p86, fun _ h => absurd h List.not_mem_nil⟩⟩⟩⟩⟩⟩⟩
def lw_privs : List (MethodName × Nat) := lw_privs_1 ++ (lw_privs_2 ++ (lw_privs_3 ++ (lw_privs_4 ++ (lw_privs_5 ++ (lw_privs_6)))))
def lw_tbl : List Cond := k2_sels lw_privs ++ tables_1
theorem lw_privs_ok : ∀ q ∈ lw_privs, lw_okq q := by
  show ∀ q ∈ lw_privs_1 ++ (lw_privs_2 ++ (lw_privs_3 ++ (lw_privs_4 ++ (lw_privs_5 ++ (lw_privs_6))))), lw_okq q
  exact List.forall_mem_append.mpr ⟨lw_r1, List.forall_mem_append.mpr ⟨lw_r2, List.forall_mem_append.mpr ⟨lw_r3, List.forall_mem_append.mpr ⟨lw_r4, List.forall_mem_append.mpr ⟨lw_r5, lw_r6⟩⟩⟩⟩⟩
/-- the streams that the claim lets the run draw from -/
abbrev lw_cs : List Choice := [Jvm.Choice.named "NaN.bits"]
theorem lw_bits : nanBits ∈ lw_cs := by first | decide | exact List.mem_cons_self | simp [lw_cs, nanBits]
-- ===== end of PART A
end
section
/-! ===== BEGIN words of one list among another's, by their places ===== -/
theorem goodIn_r {big : List Cond} (ws : List Cond) (ps : List Nat) (hp : ws = ps.filterMap (fun i => big[i]?)) (h : ws.all goodWord = true) : GoodIn big ws := by
  intro w hw
  have h1 := List.all_eq_true.mp h w hw
  rw [hp] at hw
  obtain ⟨i, -, hi⟩ := List.mem_filterMap.mp hw
  have hm : w ∈ big := by first | exact List.mem_of_getElem? hi | exact List.getElem?_mem hi
  exact ⟨hm, good_of_word h1⟩
theorem goodIn_app {big a b : List Cond} (ha : GoodIn big a) (hb : GoodIn big b) : GoodIn big (a ++ b) := fun w h => (List.mem_append.mp h).elim (ha w) (hb w)
theorem goodIn_ca {big a b : List Cond} {c : Cond} (ha : GoodIn big (c :: a)) (hb : GoodIn big b) : GoodIn big (c :: (a ++ b)) := fun w h => (List.mem_cons.mp h).elim (fun e => ha w (List.mem_cons.mpr (Or.inl e))) (fun h => (List.mem_append.mp h).elim (fun h => ha w (List.mem_cons.mpr (Or.inr h))) (hb w))
theorem goodIn_sub {big ws : List Cond} (hm : ∀ w ∈ ws, w ∈ big) (h : ws.all goodWord = true) : GoodIn big ws := fun w hw => ⟨hm w hw, good_of_word (List.all_eq_true.mp h w hw)⟩
/-! ===== END ===== -/
/-! ===== BEGIN exceptions that leave a method, and their catching by the caller (launches without stack traces) ===== -/
section VXA
/-! The laws vx_back, vx_callV, vx_callS, vx_callSW, vx_throw0, vx_throwS follow proofs of the library, with one case more: JvmDerived/Free/Laws.lean (Back.of_free), Shelf42/LK1.lean (callV, callS), Shelf/KitTraced.lean (throwNew0V, throwNewS). -/
/-- where a method has thrown q: the class by its name, the cell, what was written, the world -/
def vx_T (XC : String → State → State → Prop) (st : State) (q : Addr) (t : State) (mc ms : Nat) (free : Addr → Prop) : Prop :=
  ∃ (E : String) (ce : Cell) (L : List Loc), XC E st t ∧ t.heap[q]? = some ce ∧ ce.vm = .none ∧ st.vm.findClass E = some ce.cls ∧ st.WarmedH t.vm ∧ st.sameButNew ({ t with vm := st.vm } : State) L mc ms ∧ ∀ z ∈ L, free z.base
def vx_Q (Qc : Array Value → State → Outcome → State → Prop) (XC : String → State → State → Prop) (mc ms : Nat) (free : Addr → Prop) : Array Value → State → Outcome → State → Prop := fun a st o t =>
  (Qc a st o t ∧ ∃ L, FrameEnd st o t L mc ms ∧ ∀ q ∈ L, free q.base) ∨ ∃ q, o = .threw q ∧ vx_T XC st q t mc ms free
/-- a callee that returns or throws -/
def vx_Met (l : Launch) (y : MethodName) (ws : List Cond) (rm : Room) (Pc : Array Value → State → Prop) (Qc : Array Value → State → Outcome → State → Prop) (XC : String → State → State → Prop) (mc ms : Nat) (free : Addr → Prop) : Prop :=
  MetFree l y (headSpec ws rm) Pc (fun _ _ _ _ _ => True) (vx_Q Qc XC mc ms free)
def vx_Post (XC : String → State → State → Prop) (mc ms : Nat) (free : Addr → Prop) : Pt → Array Value → Addr → Pt → Prop := fun A a q B =>
  ∃ (g : JFrame) (mk : MethodId) (t : State) (L : List Loc) (E : String) (ce : Cell), B.U.heap = t.heap ∧ B.U.vm = t.vm ∧ XC E (A.U.calling g mk a) t ∧ t.heap[q]? = some ce ∧ ce.vm = .none ∧ A.U.vm.findClass E = some ce.cls ∧ B.locs = A.locs ++ L ∧ (∀ z ∈ L, free z.base) ∧ B.cells = A.cells + mc ∧ B.slots = A.slots + ms
def vx_Back (l : Launch) (R : Room) (p : Program) (e : Env) (below : List Frame) (s : State) (sargs : Array Value) (y : MethodName) (len W9 : Nat)
    (Pre : Pt → Array Value → Prop) (Post : Pt → Array Value → Option Value → Pt → Prop) (PostX : Pt → Array Value → Addr → Pt → Prop) : Prop :=
  ∀ (m : MethodId) (meth : Method) (c : Code) (A : Pt) (g : JFrame) (ig : Instr) (mk : MethodId) (a : Array Value),
    Stand p l e R s m sargs below meth c A.U A.locs A.cells A.slots → g.method = m → g.locals.size = c.maxLocals → decode c.code g.pc = .ok (ig, len) →
    2 * g.monitorRoom + (g.stack.map fun v => v.category).sum ≤ W9 → A.U.methodNamed? y = some mk → Pre A a →
    (∃ (v : Option Value) (B : Pt), Stand p l e R s m sargs below meth c B.U B.locs B.cells B.slots ∧ Post A a v B ∧
      Steps p.tables e below (doInvoke e (A.U.setTop g) [] mk a).1 (B.U.setTop { g with pc := g.pc + len, stack := v.toList ++ g.stack })) ∨
    (∃ (q : Addr) (B : Pt), Stand p l e R s m sargs below meth c B.U B.locs B.cells B.slots ∧ PostX A a q B ∧
      Steps p.tables e below (doInvoke e (A.U.setTop g) [] mk a).1 ((B.U.setTop g).pushFrame (.throwing q)))
section Payer
variable {l : Launch} {R : Room} {p : Program} {e : Env} {below : List Frame} {s : State} {sargs : Array Value} {y : MethodName} {len W9 : Nat}
theorem vx_back {ws : List Cond} {rm : Room} {Pc : Array Value → State → Prop} {Qc : Array Value → State → Outcome → State → Prop} {XC : String → State → State → Prop} {mc ms : Nat} {free : Addr → Prop} {bytes : ByteArray} {maxL : Nat} {ret : Option FieldType}
    (hM : vx_Met l y ws rm Pc Qc XC mc ms free) (hblind : FrameBlind Pc) (hrc : rm.cells = mc) (hrs : rm.slots = ms)
    (hframes : rm.frames + 1 ≤ R.frames) (hlocals : W9 + (maxL + 11) + rm.locals ≤ R.locals)
    (hws : ∀ w ∈ ws, ∀ a' U, s.WarmedH U.vm → w.before a' U = true) (hcode : Cond.code y bytes maxL ret ∈ ws) (hinit : ∀ a' U, s.WarmedH U.vm → (Cond.initialized y.cls).before a' U = true) :
    vx_Back l R p e below s sargs y len W9 (PreOf R mc ms Pc) (PostOf Qc mc ms free) (vx_Post XC mc ms free) := by
  intro m meth c A g ig mk a X hg hsize hdg hW hn hp
  have h1 : (headSpec ws rm).pre.before a A.U = true := atoms_intro fun w hw => hws w hw _ _ X.warmed
  have h2 : (Cond.code y bytes maxL ret).before a A.U = true := hws _ hcode _ _ X.warmed
  have h3 : (Cond.initialized y.cls).before a A.U = true := hinit _ _ X.warmed
  have h4 : A.cells + (headSpec ws rm).room.cells ≤ R.cells := by rw [show (headSpec ws rm).room.cells = mc from hrc]; exact hp.1
  have h5 : A.slots + (headSpec ws rm).room.slots ≤ R.slots := by rw [show (headSpec ws rm).room.slots = ms from hrs]; exact hp.2.1
  have hPc : Pc a (A.U.calling g mk a) := hblind _ _ _ _ hp.2.2
  obtain ⟨U, Ls, c0, s0⟩ := A
  dsimp only [Pt.U, Pt.locs, Pt.cells, Pt.slots] at h1 h2 h3 h4 h5 X hn hPc ⊢
  obtain ⟨methY, cY, hmY, hcY, -, hlY, -, -, -, -⟩ := Cond.code_spec hn h2
  obtain ⟨kY, hkY, -⟩ := className_of_methodNamed hn
  have hinitY : kY.init = .initialized := Cond.initialized_spec (findClass_of_methodNamed hn) hkY h3
  have h : At U g.method c below := by rw [hg]; exact X.here
  have hlocals9 : W9 + (maxL + 11) + (headSpec ws rm).room.locals ≤ R.locals := hlocals
  have happ : (headSpec ws rm).appliesLoose y e.platform (U.calling g mk a) = true :=
    Spec.appliesLoose_calling (g := g) h hdg hn hkY hinitY
      (X.room_calling (g := g) (R' := (headSpec ws rm).room) hsize hmY hcY hframes (by rw [hlY]; omega) h4 h5) h1
  obtain ⟨mid, hmid⟩ := h.above
  have hfr : (U.setTop g).frames = (.java g :: mid) ++ below := by rw [State.frames_setTop' g h.top, hmid]; rfl
  obtain ⟨o, s₂, hsteps, -, hend, hq⟩ := Steps.callFree hM p X.admits X.cas X.clock (acts := []) hfr happ hPc trivial
  have hq' : vx_Q Qc XC mc ms free a (U.calling g mk a) o s₂ := hq
  rw [State.frames_setTop' g h.top] at hend
  obtain ⟨g₀, hg0⟩ := Option.isSome_iff_exists.mp h.top
  obtain ⟨r, hr⟩ := State.topJava?_eq_some.mp hg0
  have hr' : (({ U with heap := s₂.heap, slotsUsed := s₂.slotsUsed } : State).setVm s₂.vm).frames = .java g₀ :: r := hr
  rcases hq' with ⟨hqc, L, hfe, hL⟩ | ⟨q, rfl, E, ce, L, hx, hce, hcv, hcl, hW₂, hsm, hL⟩
  · obtain ⟨⟨v, rfl⟩, hW₂, e2, q2, q3, q4, q5, q6⟩ := id hfe
    have e3 : s₂ = ({ (U.calling g mk a).setFrames s₂.frames with heap := s₂.heap, slotsUsed := s₂.slotsUsed } : State).setVm s₂.vm := by
      have : s₂ = ({ s₂ with vm := (U.calling g mk a).vm } : State).setVm s₂.vm := rfl
      rw [e2] at this
      exact this
    obtain ⟨c₂, i₂, len₂, hc₂, hd₂, hf₂⟩ := hend
    have hW' : U.WarmedH s₂.vm := hW₂
    have hcc : c₂ = c := by
      have h1 : s₂.code? g.method = U.code? g.method := by
        rw [State.code?_eq, State.code?_eq, hW'.alike.method?]
      exact Option.some.inj (hc₂.symm.trans (h1.trans h.code))
    subst hcc
    have hlen : len₂ = len := by rw [hdg] at hd₂; cases hd₂; rfl
    subst hlen
    have hs₂ : s₂ = (({ U with heap := s₂.heap, slotsUsed := s₂.slotsUsed } : State).setVm s₂.vm).setTop { g with pc := g.pc + len₂, stack := v.toList ++ g.stack } := by
      refine e3.trans ?_
      rw [hf₂, State.calling_eq h.top, State.setFrames_setFrames, State.setTop_of_frames _ hr', hr]
      rfl
    have hsame : U.sameButNew ({ U with heap := s₂.heap, slotsUsed := s₂.slotsUsed } : State) L mc ms := by
      refine ⟨?_, q2, q3, q4, q5, q6⟩
      obtain ⟨t, ht, -⟩ := State.frames_cons hr
      show ({ U with heap := s₂.heap, slotsUsed := s₂.slotsUsed } : State) = { U.setFrames U.frames with heap := s₂.heap, slotsUsed := s₂.slotsUsed }
      rw [State.setFrames_self ht]
    subst hg
    refine Or.inl ⟨v, ⟨(({ U with heap := s₂.heap, slotsUsed := s₂.slotsUsed } : State).setVm s₂.vm), Ls ++ L, c0 + mc, s0 + ms⟩,
      ⟨X.admits, X.cas, X.clock, X.frames, X.room, X.hears, X.method, X.code, (X.here.setHeapUsed s₂.heap s₂.slotsUsed).setVm hW'.alike, X.tail, State.WarmedH.trans X.warmed hW', X.limits, X.bytes, X.same.trans (hsame.setVm s.vm)⟩,
      ⟨g, mk, s₂, L, rfl, rfl, hqc, rfl, hL, rfl, rfl⟩, ?_⟩
    show Steps p.tables e below _ ((({ U with heap := s₂.heap, slotsUsed := s₂.slotsUsed } : State).setVm s₂.vm).setTop { g with pc := g.pc + len₂, stack := v.toList ++ g.stack })
    rw [← hs₂]
    exact hsteps
  · obtain ⟨e2, q2, q3, q4, q5, q6⟩ := id hsm
    have e3 : s₂ = ({ (U.calling g mk a).setFrames s₂.frames with heap := s₂.heap, slotsUsed := s₂.slotsUsed } : State).setVm s₂.vm := by
      have : s₂ = ({ s₂ with vm := (U.calling g mk a).vm } : State).setVm s₂.vm := rfl
      rw [e2] at this
      exact this
    have hf₂ : s₂.frames = .throwing q :: .java g :: U.frames.tail := hend
    have hW' : U.WarmedH s₂.vm := hW₂
    have hs₂ : s₂ = ((({ U with heap := s₂.heap, slotsUsed := s₂.slotsUsed } : State).setVm s₂.vm).setTop g).pushFrame (.throwing q) := by
      refine e3.trans ?_
      rw [hf₂, State.calling_eq h.top, State.setFrames_setFrames, State.pushFrame, State.frames_setTop _ hr', State.setTop_of_frames _ hr', State.setFrames_setFrames, hr]
      rfl
    have hsame : U.sameButNew ({ U with heap := s₂.heap, slotsUsed := s₂.slotsUsed } : State) L mc ms := by
      refine ⟨?_, q2, q3, q4, q5, q6⟩
      obtain ⟨t, ht, -⟩ := State.frames_cons hr
      show ({ U with heap := s₂.heap, slotsUsed := s₂.slotsUsed } : State) = { U.setFrames U.frames with heap := s₂.heap, slotsUsed := s₂.slotsUsed }
      rw [State.setFrames_self ht]
    subst hg
    refine Or.inr ⟨q, ⟨(({ U with heap := s₂.heap, slotsUsed := s₂.slotsUsed } : State).setVm s₂.vm), Ls ++ L, c0 + mc, s0 + ms⟩,
      ⟨X.admits, X.cas, X.clock, X.frames, X.room, X.hears, X.method, X.code, (X.here.setHeapUsed s₂.heap s₂.slotsUsed).setVm hW'.alike, X.tail, State.WarmedH.trans X.warmed hW', X.limits, X.bytes, X.same.trans (hsame.setVm s.vm)⟩,
      ⟨g, mk, s₂, L, E, ce, rfl, rfl, hx, hce, hcv, hcl, rfl, hL, rfl, rfl⟩, ?_⟩
    show Steps p.tables e below _ (((({ U with heap := s₂.heap, slotsUsed := s₂.slotsUsed } : State).setVm s₂.vm).setTop g).pushFrame (.throwing q))
    rw [← hs₂]
    exact hsteps
end Payer
section Calls
variable {p : Program} {l : Launch} {e : Env} {R : Room} {s : State} {m : MethodId} {args : Array Value} {below : List Frame} {meth : Method} {c : Code} {T : State} {locs : List Loc} {cells slots : Nat}
theorem vx_callV (X : Stand p l e R s m args below meth c T locs cells slots) (hexec : p.tables.exec = Jvm.exec) {own C : String} {index : Nat} {y : MethodName} {bytes : ByteArray} {maxL : Nat} {ret : Option FieldType}
    (hown : s.vm.findClass own = some m.cls) (hlink : (Cond.methodLink own index y).before args s = true) (hinst : (Cond.instanceMethod y).before args s = true) (hsel : (Cond.selects C y y).before args s = true)
    (hcode : (Cond.code y bytes maxL ret).before args s = true) (hy : y.cls ≠ "java/lang/invoke/MethodHandle" ∧ y.cls ≠ "java/lang/invoke/VarHandle")
    {W9 : Nat} {Pre : Pt → Array Value → Prop} {Post : Pt → Array Value → Option Value → Pt → Prop} {PostX : Pt → Array Value → Addr → Pt → Prop} (hK : vx_Back l R p e below s args y 3 W9 Pre Post PostX)
    {b : Addr} {cellB : Cell} (hcell : T.heap[b]? = some cellB) (hobj : cellB.vm.isStatics = false) (hcls : s.vm.findClass C = some cellB.cls)
    {g : JFrame} (hg : g.method = m) (hsize : g.locals.size = c.maxLocals) {argsL rest : List Value} (hlen : ∀ sig, parseMethodDescriptor y.desc = some sig → argsL.length = sig.parameters.length)
    (hstack : g.stack = argsL.reverse ++ .ref b :: rest) (hW : 2 * g.monitorRoom + (rest.map fun v => v.category).sum ≤ W9) (hdg : decode c.code g.pc = .ok (.invokevirtual index, 3))
    (hpre : ∀ vm₁, s.WarmedH vm₁ → Pre ⟨T.setVm vm₁, locs, cells, slots⟩ (Value.ref b :: argsL).toArray) :
    (∃ (v : Option Value) (vm₁ : Vm) (B : Pt), s.WarmedH vm₁ ∧ Stand p l e R s m args below meth c B.U B.locs B.cells B.slots ∧ Post ⟨T.setVm vm₁, locs, cells, slots⟩ (Value.ref b :: argsL).toArray v B ∧
      ∀ target, Steps p.tables e below (B.U.setTop { g with pc := g.pc + 3, stack := v.toList ++ rest }) target → Steps p.tables e below (T.setTop g) target) ∨
    (∃ (q : Addr) (vm₁ : Vm) (B : Pt), s.WarmedH vm₁ ∧ Stand p l e R s m args below meth c B.U B.locs B.cells B.slots ∧ PostX ⟨T.setVm vm₁, locs, cells, slots⟩ (Value.ref b :: argsL).toArray q B ∧
      Steps p.tables e below (T.setTop g) ((B.U.setTop { g with stack := rest }).pushFrame (.throwing q))) := by
  obtain ⟨mk, methM, hnamed, hmethM, hstM, habM⟩ := Cond.instanceMethod_spec hinst
  obtain ⟨methM', cM, hmethM', -, -, -, -, -, -, hsigM⟩ := Cond.code_spec hnamed hcode
  cases hmethM.symm.trans hmethM'
  obtain ⟨c2, r2, m2, q1, q2, q3, q4, kP, hkP, hkPi⟩ := Cond.selects_spec hsel
  cases hcls.symm.trans q1
  cases (State.methodFound?_of_named hnamed hy).symm.trans q2
  cases hnamed.symm.trans q3
  have hselP : selectMethod e.platform s.vm cellB.cls mk = .method mk := by rw [Launch.admits_selectMethod X.admits]; exact q4
  obtain ⟨vm₁, X₁, hstep₁⟩ := X.invokevirtual hexec hown hlink hnamed hmethM hstM hkP hkPi hy (a := b) (cell := cellB) hcell
    (fun z h => by rw [h] at hobj; cases hobj) hselP hmethM habM hkP hkPi (g := g) hg (argsL := argsL) (rest := rest) (hlen _ hsigM) hstack hdg
  rcases hK m meth c ⟨T.setVm vm₁, locs, cells, slots⟩ { g with stack := rest } (.invokevirtual index) mk (Value.ref b :: argsL).toArray X₁ hg hsize hdg hW (X₁.named hnamed) (hpre vm₁ X₁.warmed) with ⟨v, B, X', hpost, hsteps⟩ | ⟨q, B, X', hpost, hsteps⟩
  · exact Or.inl ⟨v, vm₁, B, X₁.warmed, X', hpost, fun target h => hstep₁ _ fun acts => by rw [doInvoke_state]; exact hsteps.trans h⟩
  · exact Or.inr ⟨q, vm₁, B, X₁.warmed, X', hpost, hstep₁ _ fun acts => by rw [doInvoke_state]; exact hsteps⟩
theorem vx_callS (X : Stand p l e R s m args below meth c T locs cells slots) (hexec : p.tables.exec = Jvm.exec) {own : String} {index : Nat} {y : MethodName} {bytes : ByteArray} {maxL : Nat} {ret : Option FieldType}
    (hown : s.vm.findClass own = some m.cls) (hlink : (Cond.methodLink own index y).before args s = true) (hstat : (Cond.static y).before args s = true) (hinit : (Cond.initialized y.cls).before args s = true)
    (hcode : (Cond.code y bytes maxL ret).before args s = true) (hy : y.cls ≠ "java/lang/invoke/MethodHandle" ∧ y.cls ≠ "java/lang/invoke/VarHandle")
    {W9 : Nat} {Pre : Pt → Array Value → Prop} {Post : Pt → Array Value → Option Value → Pt → Prop} {PostX : Pt → Array Value → Addr → Pt → Prop} (hK : vx_Back l R p e below s args y 3 W9 Pre Post PostX)
    {g : JFrame} (hg : g.method = m) (hsize : g.locals.size = c.maxLocals) {argsL rest : List Value} (hlen : ∀ sig, parseMethodDescriptor y.desc = some sig → argsL.length = sig.parameters.length)
    (hstack : g.stack = argsL.reverse ++ rest) (hW : 2 * g.monitorRoom + (rest.map fun v => v.category).sum ≤ W9) (hdg : decode c.code g.pc = .ok (.invokestatic index, 3))
    (hpre : ∀ vm₁, s.WarmedH vm₁ → Pre ⟨T.setVm vm₁, locs, cells, slots⟩ argsL.toArray) :
    (∃ (v : Option Value) (vm₁ : Vm) (B : Pt), s.WarmedH vm₁ ∧ Stand p l e R s m args below meth c B.U B.locs B.cells B.slots ∧ Post ⟨T.setVm vm₁, locs, cells, slots⟩ argsL.toArray v B ∧
      ∀ target, Steps p.tables e below (B.U.setTop { g with pc := g.pc + 3, stack := v.toList ++ rest }) target → Steps p.tables e below (T.setTop g) target) ∨
    (∃ (q : Addr) (vm₁ : Vm) (B : Pt), s.WarmedH vm₁ ∧ Stand p l e R s m args below meth c B.U B.locs B.cells B.slots ∧ PostX ⟨T.setVm vm₁, locs, cells, slots⟩ argsL.toArray q B ∧
      Steps p.tables e below (T.setTop g) ((B.U.setTop { g with stack := rest }).pushFrame (.throwing q))) := by
  obtain ⟨mk, hnamed⟩ := Cond.code_named hcode
  obtain ⟨methM, cM, hmethM, -, -, -, -, -, -, hsigM⟩ := Cond.code_spec hnamed hcode
  have hstatic : methM.isStatic = true := Cond.static_spec hnamed hmethM hstat
  obtain ⟨kP, hkP, -⟩ := className_of_methodNamed hnamed
  have hinitP : kP.init = .initialized := Cond.initialized_spec (findClass_of_methodNamed hnamed) hkP hinit
  obtain ⟨vm₁, X₁, hstep₁⟩ := X.invokestatic hexec hown hlink hnamed hmethM hstatic hkP hinitP hy (g := g) hg (argsL := argsL) (rest := rest) (hlen _ hsigM) hstack hdg
  rcases hK m meth c ⟨T.setVm vm₁, locs, cells, slots⟩ { g with stack := rest } (.invokestatic index) mk argsL.toArray X₁ hg hsize hdg hW (X₁.named hnamed) (hpre vm₁ X₁.warmed) with ⟨v, B, X', hpost, hsteps⟩ | ⟨q, B, X', hpost, hsteps⟩
  · exact Or.inl ⟨v, vm₁, B, X₁.warmed, X', hpost, fun target h => hstep₁ _ fun acts => by rw [doInvoke_state]; exact hsteps.trans h⟩
  · exact Or.inr ⟨q, vm₁, B, X₁.warmed, X', hpost, hstep₁ _ fun acts => by rw [doInvoke_state]; exact hsteps⟩
end Calls
theorem vx_cls {s : State} {T : State} {vm₁ : Vm} {E : String} {k : ClassId} (hW : s.WarmedH vm₁) (h : (T.setVm vm₁).vm.findClass E = some k) : s.vm.findClass E = some k := by
  have h1 : vm₁.findClass E = some k := h
  rw [hW.alike.findClass] at h1
  exact h1
/-- the method's frame g, with q thrown over it -/
def vx_W (p : Program) (l : Launch) (e : Env) (R : Room) (s : State) (m : MethodId) (args : Array Value) (below : List Frame) (meth : Method) (c : Code) (H : Heap) (locs : List Loc) (cells slots : Nat) (Q : State → Prop) (g : JFrame) (q : Addr) : Prop :=
  ∀ T : State, T.heap = H → Stand p l e R s m args below meth c T locs cells slots → ∃ t, Steps p.tables e below ((T.setTop g).pushFrame (.throwing q)) t ∧ Q t
def vx_Run (p : Program) (l : Launch) (e : Env) (R : Room) (s : State) (m : MethodId) (args : Array Value) (below : List Frame) (meth : Method) (c : Code) (H : Heap) (locs : List Loc) (cells slots mc ms : Nat) (g : JFrame) (rest : List Value) (Qa : State → Outcome → State → Prop) (XC : String → State → State → Prop) (free : Addr → Prop) : Prop :=
  ∀ T : State, T.heap = H → Stand p l e R s m args below meth c T locs cells slots →
    (∃ (v : Option Value) (st₀ t T' : State) (L : List Loc), st₀.heap = H ∧ Stand p l e R s m args below meth c T' (locs ++ L) (cells + mc) (slots + ms) ∧ (∀ q ∈ L, free q.base) ∧ T'.heap = t.heap ∧ T'.vm = t.vm ∧ Qa st₀ (.returned v) t ∧
      Goes p e below T g T' { g with pc := g.pc + 3, stack := v.toList ++ rest }) ∨
    (∃ (q : Addr) (st₀ t T' : State) (L : List Loc) (E : String) (ce : Cell), st₀.heap = H ∧ Stand p l e R s m args below meth c T' (locs ++ L) (cells + mc) (slots + ms) ∧ (∀ z ∈ L, free z.base) ∧ T'.heap = t.heap ∧ T'.vm = t.vm ∧ XC E st₀ t ∧ t.heap[q]? = some ce ∧ ce.vm = .none ∧ s.vm.findClass E = some ce.cls ∧
      Steps p.tables e below (T.setTop g) ((T'.setTop { g with stack := rest }).pushFrame (.throwing q)))
def vx_X {S : Type} (px : S → Prop) (B : String → S → State → Prop) (A : Nat → Prop) : String → State → State → Prop := fun E st t => ∃ u : S, px u ∧ B E u t ∧ va_F A st t
section Runs
variable {p : Program} {l : Launch} {e : Env} {R : Room} {s : State} {m : MethodId} {args : Array Value} {below : List Frame} {meth : Method} {c : Code} {H : Heap} {locs : List Loc} {cells slots : Nat}
variable {y : MethodName} {bytes cc : ByteArray} {maxL nL mc ms n index : Nat} {ret : Option FieldType} {ws : List Cond} {rm : Room} {Pc : Array Value → State → Prop} {Qc : Array Value → State → Outcome → State → Prop} {XC : String → State → State → Prop} {free : Addr → Prop} {Ts : List Cond} {own C : String} {b : Addr} {As rest : List Value} {g : JFrame}
theorem vx_callBack (cb : CallB R s args own index y bytes maxL ret ws rm mc ms n) (hM : vx_Met l y ws rm Pc Qc XC mc ms free) (hbl : FrameBlind Pc) : vx_Back l R p e below s args y 3 8 (PreOf R mc ms Pc) (PostOf Qc mc ms free) (vx_Post XC mc ms free) := by
  obtain ⟨hrc, hrs, hfr, hlo, hws, hcw, -, hini, -⟩ := cb
  exact vx_back (bytes := bytes) (maxL := maxL) (ret := ret) hM hbl hrc hrs hfr hlo hws hcw (fun a' U hW => word_at hW (Or.inl (by first | rfl | simp [Cond.onTables, Cond.keeps, Cond.steady])) hini)
theorem vx_runV (S : CallFix p m c cc nL s args Ts own) (hM : vx_Met l y ws rm Pc Qc XC mc ms free) (cw : CallW R s args own C index y bytes maxL ret ws rm mc ms n) (hp : PreV s H C b Pc As)
    (hg : g.method = m) (hn : As.length = n) (hsize : g.locals.size = nL) (hstack : g.stack = As.reverse ++ .ref b :: rest) (hW : 2 * g.monitorRoom + (rest.map fun v => v.category).sum ≤ 8) (hdg : decode cc g.pc = .ok (.invokevirtual index, 3)) (hf : cells + mc ≤ R.cells ∧ slots + ms ≤ R.slots) :
    vx_Run p l e R s m args below meth c H locs cells slots mc ms g rest (Qc (Value.ref b :: As).toArray) XC free := by
  have hK : vx_Back l R p e below s args y 3 8 (PreOf R mc ms Pc) (PostOf Qc mc ms free) (vx_Post XC mc ms free) := vx_callBack cw.1 hM hp.1
  obtain ⟨⟨-, -, -, -, -, -, hcode, -, hy, hlen, hl⟩, hin, hse⟩ := cw
  obtain ⟨hx, hb, hml, ho, -⟩ := S
  obtain ⟨-, ⟨cellB, hcB, hoB, hclB⟩, hPc⟩ := hp
  intro T hT X
  rcases vx_callV X hx (C := C) (bytes := bytes) (maxL := maxL) (ret := ret) ho hl hin hse hcode hy hK (by rw [hT]; exact hcB) hoB hclB hg (hsize.trans hml.symm) (argsL := As) (rest := rest) (fun sig h => hn.trans (hlen sig h)) hstack hW (by rw [hb]; exact hdg)
    (fun vm₁ hW₁ => ⟨hf.1, hf.2, hPc (T.setVm vm₁) hT hW₁⟩) with ⟨v, vm₁, ⟨U', l2, c2, s2⟩, hW₁, X', ⟨g', mk, t, L, e1, e2, hq, h1, hL, h2, h3⟩, st⟩ | ⟨q, vm₁, ⟨U', l2, c2, s2⟩, hW₁, X', ⟨g', mk, t, L, E, ce, e1, e2, hq, hce, hcv, hcl, h1, hL, h2, h3⟩, st⟩
  · dsimp only [Pt.U, Pt.locs, Pt.cells, Pt.slots] at X' e1 e2 h1 h2 h3 st
    subst h1; subst h2; subst h3
    exact Or.inl ⟨v, (T.setVm vm₁).calling g' mk (Value.ref b :: As).toArray, t, U', L, hT, X', hL, e1, e2, hq, st⟩
  · dsimp only [Pt.U, Pt.locs, Pt.cells, Pt.slots] at X' e1 e2 h1 h2 h3 st hcl
    subst h1; subst h2; subst h3
    exact Or.inr ⟨q, (T.setVm vm₁).calling g' mk (Value.ref b :: As).toArray, t, U', L, E, ce, hT, X', hL, e1, e2, hq, hce, hcv, vx_cls hW₁ hcl, st⟩
theorem vx_runS (S : CallFix p m c cc nL s args Ts own) (hM : vx_Met l y ws rm Pc Qc XC mc ms free) (cw : CallB R s args own index y bytes maxL ret ws rm mc ms n ∧ (Cond.static y).before args s = true) (hp : PreS s H Pc As)
    (hg : g.method = m) (hn : As.length = n) (hsize : g.locals.size = nL) (hstack : g.stack = As.reverse ++ rest) (hW : 2 * g.monitorRoom + (rest.map fun v => v.category).sum ≤ 8) (hdg : decode cc g.pc = .ok (.invokestatic index, 3)) (hf : cells + mc ≤ R.cells ∧ slots + ms ≤ R.slots) :
    vx_Run p l e R s m args below meth c H locs cells slots mc ms g rest (Qc As.toArray) XC free := by
  have hK : vx_Back l R p e below s args y 3 8 (PreOf R mc ms Pc) (PostOf Qc mc ms free) (vx_Post XC mc ms free) := vx_callBack cw.1 hM hp.1
  obtain ⟨⟨-, -, -, -, -, -, hcode, hini, hy, hlen, hl⟩, hstt⟩ := cw
  obtain ⟨hx, hb, hml, ho, -⟩ := S
  intro T hT X
  rcases vx_callS X hx (bytes := bytes) (maxL := maxL) (ret := ret) ho hl hstt hini hcode hy hK hg (hsize.trans hml.symm) (argsL := As) (rest := rest) (fun sig h => hn.trans (hlen sig h)) hstack hW (by rw [hb]; exact hdg)
    (fun vm₁ hW₁ => ⟨hf.1, hf.2, hp.2 (T.setVm vm₁) hT hW₁⟩) with ⟨v, vm₁, ⟨U', l2, c2, s2⟩, hW₁, X', ⟨g', mk, t, L, e1, e2, hq, h1, hL, h2, h3⟩, st⟩ | ⟨q, vm₁, ⟨U', l2, c2, s2⟩, hW₁, X', ⟨g', mk, t, L, E, ce, e1, e2, hq, hce, hcv, hcl, h1, hL, h2, h3⟩, st⟩
  · dsimp only [Pt.U, Pt.locs, Pt.cells, Pt.slots] at X' e1 e2 h1 h2 h3 st
    subst h1; subst h2; subst h3
    exact Or.inl ⟨v, (T.setVm vm₁).calling g' mk As.toArray, t, U', L, hT, X', hL, e1, e2, hq, st⟩
  · dsimp only [Pt.U, Pt.locs, Pt.cells, Pt.slots] at X' e1 e2 h1 h2 h3 st hcl
    subst h1; subst h2; subst h3
    exact Or.inr ⟨q, (T.setVm vm₁).calling g' mk As.toArray, t, U', L, E, ce, hT, X', hL, e1, e2, hq, hce, hcv, vx_cls hW₁ hcl, st⟩
end Runs
section Rows
variable {p : Program} {l : Launch} {e : Env} {R : Room} {s : State} {m : MethodId} {args : Array Value} {below : List Frame} {meth : Method} {c : Code} {H : Heap} {locs : List Loc} {cells slots : Nat} {Q : State → Prop}
variable {mc ms : Nat} {free : Addr → Prop} {A0 A1 : Nat → Prop} {H0 : Heap} {a : Array Value} {pc : Nat} {ls : Array Slot} {st0 rest : List Value}
theorem vx_keep {st₀ t T' : State} {L : List Loc} (h0 : st₀.heap = H) (e1 : T'.heap = t.heap) (hS : va_S A0 H0 H locs) (hA : ∀ q, q < H.size → A1 q → A0 q) (hf : ∀ q, free q → A0 q) (hL : ∀ q ∈ L, free q.base) (hF : va_F A1 st₀ t) :
    H.size ≤ T'.heap.size ∧ (∀ q : Nat, q < H.size → ¬ A1 q → T'.heap[q]? = H[q]?) ∧ va_S A0 H0 T'.heap (locs ++ L) := by
  obtain ⟨hz, hk⟩ := hF
  rw [h0] at hz hk
  exact ⟨by rw [e1]; exact hz, fun q h1 h2 => by rw [e1]; exact hk q h1 h2,
    ⟨Nat.le_trans hS.1 (by rw [e1]; exact hz), fun q h1 h2 => by rw [e1, hk q (Nat.lt_of_lt_of_le h1 hS.1) (fun z => h2 (hA q (Nat.lt_of_lt_of_le h1 hS.1) z))]; exact hS.2.1 q h1 h2, fun q hq => by
      rcases List.mem_append.mp hq with h | h
      · exact hS.2.2 q h
      · exact hf _ (hL q h)⟩⟩
theorem vx_calli {S SX : Type} {post : Int32 → S → Prop} {px : SX → Prop} {B : S → State → Prop} {BX : String → SX → State → Prop} {AX : Nat → Prop} (hr : vx_Run p l e R s m args below meth c H locs cells slots mc ms (F0 m pc ls st0) rest (va_Qi post B A1 a) (vx_X px BX AX) free) (hS : va_S A0 H0 H locs) (hA : ∀ q, q < H.size → A1 q → A0 q) (hf : ∀ q, free q → A0 q) (hAX : ∀ q, q < H.size → AX q → A0 q)
    (kx : ∀ (E : String) (ce : Cell) (q9 : Addr) (u : SX) (t : State) (H1 : Heap) (locs1 : List Loc), t.heap = H1 → s.vm.Alike t.vm → px u → BX E u t → H.size ≤ H1.size → (∀ q : Nat, q < H.size → ¬ AX q → H1[q]? = H[q]?) → va_S A0 H0 H1 locs1 → H1[q9]? = some ce → ce.vm = .none → s.vm.findClass E = some ce.cls → vx_W p l e R s m args below meth c H1 locs1 (cells + mc) (slots + ms) Q (F0 m pc ls rest) q9)
    (kk : ∀ (r : Int32) (u : S) (t : State) (H1 : Heap) (locs1 : List Loc), t.heap = H1 → s.vm.Alike t.vm → post r u → B u t → H.size ≤ H1.size → (∀ q : Nat, q < H.size → ¬ A1 q → H1[q]? = H[q]?) → va_S A0 H0 H1 locs1 → W p l e R s m args below meth c H1 locs1 (cells + mc) (slots + ms) Q (F0 m (pc + 3) ls (.int r :: rest))) : W p l e R s m args below meth c H locs cells slots Q (F0 m pc ls st0) := by
  intro T hT X
  rcases hr T hT X with ⟨v, st₀, t, T', L, h0, X', hL, e1, e2, ⟨⟨r, u, hv, hp, hb⟩, hF⟩, st⟩ | ⟨q, st₀, t, T', L, E, ce, h0, X', hL, e1, e2, ⟨u, hp, hb, hF⟩, hce, hcv, hcl, st⟩
  · cases hv
    obtain ⟨k1, k2, k3⟩ := vx_keep h0 e1 hS hA hf hL hF
    obtain ⟨t2, a1, b1⟩ := kk r u t T'.heap (locs ++ L) e1.symm (by rw [← e2]; exact X'.warmed.alike) hp hb k1 k2 k3 T' rfl X'
    exact ⟨t2, st t2 a1, b1⟩
  · obtain ⟨k1, k2, k3⟩ := vx_keep h0 e1 hS hAX hf hL hF
    obtain ⟨t2, a1, b1⟩ := kx E ce q u t T'.heap (locs ++ L) e1.symm (by rw [← e2]; exact X'.warmed.alike) hp hb k1 k2 k3 (by rw [e1]; exact hce) hcv hcl T' rfl X'
    exact ⟨t2, st.trans a1, b1⟩
theorem vx_calll {S SX : Type} {post : Int64 → S → Prop} {px : SX → Prop} {B : S → State → Prop} {BX : String → SX → State → Prop} {AX : Nat → Prop} (hr : vx_Run p l e R s m args below meth c H locs cells slots mc ms (F0 m pc ls st0) rest (va_Ql post B A1 a) (vx_X px BX AX) free) (hS : va_S A0 H0 H locs) (hA : ∀ q, q < H.size → A1 q → A0 q) (hf : ∀ q, free q → A0 q) (hAX : ∀ q, q < H.size → AX q → A0 q)
    (kx : ∀ (E : String) (ce : Cell) (q9 : Addr) (u : SX) (t : State) (H1 : Heap) (locs1 : List Loc), t.heap = H1 → s.vm.Alike t.vm → px u → BX E u t → H.size ≤ H1.size → (∀ q : Nat, q < H.size → ¬ AX q → H1[q]? = H[q]?) → va_S A0 H0 H1 locs1 → H1[q9]? = some ce → ce.vm = .none → s.vm.findClass E = some ce.cls → vx_W p l e R s m args below meth c H1 locs1 (cells + mc) (slots + ms) Q (F0 m pc ls rest) q9)
    (kk : ∀ (r : Int64) (u : S) (t : State) (H1 : Heap) (locs1 : List Loc), t.heap = H1 → s.vm.Alike t.vm → post r u → B u t → H.size ≤ H1.size → (∀ q : Nat, q < H.size → ¬ A1 q → H1[q]? = H[q]?) → va_S A0 H0 H1 locs1 → W p l e R s m args below meth c H1 locs1 (cells + mc) (slots + ms) Q (F0 m (pc + 3) ls (.long r :: rest))) : W p l e R s m args below meth c H locs cells slots Q (F0 m pc ls st0) := by
  intro T hT X
  rcases hr T hT X with ⟨v, st₀, t, T', L, h0, X', hL, e1, e2, ⟨⟨r, u, hv, hp, hb⟩, hF⟩, st⟩ | ⟨q, st₀, t, T', L, E, ce, h0, X', hL, e1, e2, ⟨u, hp, hb, hF⟩, hce, hcv, hcl, st⟩
  · cases hv
    obtain ⟨k1, k2, k3⟩ := vx_keep h0 e1 hS hA hf hL hF
    obtain ⟨t2, a1, b1⟩ := kk r u t T'.heap (locs ++ L) e1.symm (by rw [← e2]; exact X'.warmed.alike) hp hb k1 k2 k3 T' rfl X'
    exact ⟨t2, st t2 a1, b1⟩
  · obtain ⟨k1, k2, k3⟩ := vx_keep h0 e1 hS hAX hf hL hF
    obtain ⟨t2, a1, b1⟩ := kx E ce q u t T'.heap (locs ++ L) e1.symm (by rw [← e2]; exact X'.warmed.alike) hp hb k1 k2 k3 (by rw [e1]; exact hce) hcv hcl T' rfl X'
    exact ⟨t2, st.trans a1, b1⟩
theorem vx_callf {S SX : Type} {post : UInt32 → S → Prop} {px : SX → Prop} {B : S → State → Prop} {BX : String → SX → State → Prop} {AX : Nat → Prop} (hr : vx_Run p l e R s m args below meth c H locs cells slots mc ms (F0 m pc ls st0) rest (va_Qf post B A1 a) (vx_X px BX AX) free) (hS : va_S A0 H0 H locs) (hA : ∀ q, q < H.size → A1 q → A0 q) (hf : ∀ q, free q → A0 q) (hAX : ∀ q, q < H.size → AX q → A0 q)
    (kx : ∀ (E : String) (ce : Cell) (q9 : Addr) (u : SX) (t : State) (H1 : Heap) (locs1 : List Loc), t.heap = H1 → s.vm.Alike t.vm → px u → BX E u t → H.size ≤ H1.size → (∀ q : Nat, q < H.size → ¬ AX q → H1[q]? = H[q]?) → va_S A0 H0 H1 locs1 → H1[q9]? = some ce → ce.vm = .none → s.vm.findClass E = some ce.cls → vx_W p l e R s m args below meth c H1 locs1 (cells + mc) (slots + ms) Q (F0 m pc ls rest) q9)
    (kk : ∀ (r : UInt32) (u : S) (t : State) (H1 : Heap) (locs1 : List Loc), t.heap = H1 → s.vm.Alike t.vm → post r u → B u t → H.size ≤ H1.size → (∀ q : Nat, q < H.size → ¬ A1 q → H1[q]? = H[q]?) → va_S A0 H0 H1 locs1 → W p l e R s m args below meth c H1 locs1 (cells + mc) (slots + ms) Q (F0 m (pc + 3) ls (.float r :: rest))) : W p l e R s m args below meth c H locs cells slots Q (F0 m pc ls st0) := by
  intro T hT X
  rcases hr T hT X with ⟨v, st₀, t, T', L, h0, X', hL, e1, e2, ⟨⟨r, u, hv, hp, hb⟩, hF⟩, st⟩ | ⟨q, st₀, t, T', L, E, ce, h0, X', hL, e1, e2, ⟨u, hp, hb, hF⟩, hce, hcv, hcl, st⟩
  · cases hv
    obtain ⟨k1, k2, k3⟩ := vx_keep h0 e1 hS hA hf hL hF
    obtain ⟨t2, a1, b1⟩ := kk r u t T'.heap (locs ++ L) e1.symm (by rw [← e2]; exact X'.warmed.alike) hp hb k1 k2 k3 T' rfl X'
    exact ⟨t2, st t2 a1, b1⟩
  · obtain ⟨k1, k2, k3⟩ := vx_keep h0 e1 hS hAX hf hL hF
    obtain ⟨t2, a1, b1⟩ := kx E ce q u t T'.heap (locs ++ L) e1.symm (by rw [← e2]; exact X'.warmed.alike) hp hb k1 k2 k3 (by rw [e1]; exact hce) hcv hcl T' rfl X'
    exact ⟨t2, st.trans a1, b1⟩
theorem vx_calld {S SX : Type} {post : UInt64 → S → Prop} {px : SX → Prop} {B : S → State → Prop} {BX : String → SX → State → Prop} {AX : Nat → Prop} (hr : vx_Run p l e R s m args below meth c H locs cells slots mc ms (F0 m pc ls st0) rest (va_Qd post B A1 a) (vx_X px BX AX) free) (hS : va_S A0 H0 H locs) (hA : ∀ q, q < H.size → A1 q → A0 q) (hf : ∀ q, free q → A0 q) (hAX : ∀ q, q < H.size → AX q → A0 q)
    (kx : ∀ (E : String) (ce : Cell) (q9 : Addr) (u : SX) (t : State) (H1 : Heap) (locs1 : List Loc), t.heap = H1 → s.vm.Alike t.vm → px u → BX E u t → H.size ≤ H1.size → (∀ q : Nat, q < H.size → ¬ AX q → H1[q]? = H[q]?) → va_S A0 H0 H1 locs1 → H1[q9]? = some ce → ce.vm = .none → s.vm.findClass E = some ce.cls → vx_W p l e R s m args below meth c H1 locs1 (cells + mc) (slots + ms) Q (F0 m pc ls rest) q9)
    (kk : ∀ (r : UInt64) (u : S) (t : State) (H1 : Heap) (locs1 : List Loc), t.heap = H1 → s.vm.Alike t.vm → post r u → B u t → H.size ≤ H1.size → (∀ q : Nat, q < H.size → ¬ A1 q → H1[q]? = H[q]?) → va_S A0 H0 H1 locs1 → W p l e R s m args below meth c H1 locs1 (cells + mc) (slots + ms) Q (F0 m (pc + 3) ls (.double r :: rest))) : W p l e R s m args below meth c H locs cells slots Q (F0 m pc ls st0) := by
  intro T hT X
  rcases hr T hT X with ⟨v, st₀, t, T', L, h0, X', hL, e1, e2, ⟨⟨r, u, hv, hp, hb⟩, hF⟩, st⟩ | ⟨q, st₀, t, T', L, E, ce, h0, X', hL, e1, e2, ⟨u, hp, hb, hF⟩, hce, hcv, hcl, st⟩
  · cases hv
    obtain ⟨k1, k2, k3⟩ := vx_keep h0 e1 hS hA hf hL hF
    obtain ⟨t2, a1, b1⟩ := kk r u t T'.heap (locs ++ L) e1.symm (by rw [← e2]; exact X'.warmed.alike) hp hb k1 k2 k3 T' rfl X'
    exact ⟨t2, st t2 a1, b1⟩
  · obtain ⟨k1, k2, k3⟩ := vx_keep h0 e1 hS hAX hf hL hF
    obtain ⟨t2, a1, b1⟩ := kx E ce q u t T'.heap (locs ++ L) e1.symm (by rw [← e2]; exact X'.warmed.alike) hp hb k1 k2 k3 (by rw [e1]; exact hce) hcv hcl T' rfl X'
    exact ⟨t2, st.trans a1, b1⟩
theorem vx_callv {S SX : Type} {post : S → Prop} {px : SX → Prop} {B : S → State → Prop} {BX : String → SX → State → Prop} {AX : Nat → Prop} (hr : vx_Run p l e R s m args below meth c H locs cells slots mc ms (F0 m pc ls st0) rest (va_Qv post B A1 a) (vx_X px BX AX) free) (hS : va_S A0 H0 H locs) (hA : ∀ q, q < H.size → A1 q → A0 q) (hf : ∀ q, free q → A0 q) (hAX : ∀ q, q < H.size → AX q → A0 q)
    (kx : ∀ (E : String) (ce : Cell) (q9 : Addr) (u : SX) (t : State) (H1 : Heap) (locs1 : List Loc), t.heap = H1 → s.vm.Alike t.vm → px u → BX E u t → H.size ≤ H1.size → (∀ q : Nat, q < H.size → ¬ AX q → H1[q]? = H[q]?) → va_S A0 H0 H1 locs1 → H1[q9]? = some ce → ce.vm = .none → s.vm.findClass E = some ce.cls → vx_W p l e R s m args below meth c H1 locs1 (cells + mc) (slots + ms) Q (F0 m pc ls rest) q9)
    (kk : ∀ (u : S) (t : State) (H1 : Heap) (locs1 : List Loc), t.heap = H1 → s.vm.Alike t.vm → post u → B u t → H.size ≤ H1.size → (∀ q : Nat, q < H.size → ¬ A1 q → H1[q]? = H[q]?) → va_S A0 H0 H1 locs1 → W p l e R s m args below meth c H1 locs1 (cells + mc) (slots + ms) Q (F0 m (pc + 3) ls (rest))) : W p l e R s m args below meth c H locs cells slots Q (F0 m pc ls st0) := by
  intro T hT X
  rcases hr T hT X with ⟨v, st₀, t, T', L, h0, X', hL, e1, e2, ⟨⟨u, hv, hp, hb⟩, hF⟩, st⟩ | ⟨q, st₀, t, T', L, E, ce, h0, X', hL, e1, e2, ⟨u, hp, hb, hF⟩, hce, hcv, hcl, st⟩
  · cases hv
    obtain ⟨k1, k2, k3⟩ := vx_keep h0 e1 hS hA hf hL hF
    obtain ⟨t2, a1, b1⟩ := kk u t T'.heap (locs ++ L) e1.symm (by rw [← e2]; exact X'.warmed.alike) hp hb k1 k2 k3 T' rfl X'
    exact ⟨t2, st t2 a1, b1⟩
  · obtain ⟨k1, k2, k3⟩ := vx_keep h0 e1 hS hAX hf hL hF
    obtain ⟨t2, a1, b1⟩ := kx E ce q u t T'.heap (locs ++ L) e1.symm (by rw [← e2]; exact X'.warmed.alike) hp hb k1 k2 k3 (by rw [e1]; exact hce) hcv hcl T' rfl X'
    exact ⟨t2, st.trans a1, b1⟩
/-- caught by the row x of this method's table; the rows ahead don't take it -/
theorem vx_catch {own name : String} {E : String} {ce : Cell} {q : Addr} (hown : s.vm.findClass own = some m.cls) (pre : List ExceptionTableEntry) (x : ExceptionTableEntry) (suf : List ExceptionTableEntry) (hsplit : c.exceptionTable.toList = pre ++ x :: suf)
    (hpass : ∀ z ∈ pre, covers z pc = false ∨ (z.catchType ≠ 0 ∧ ∃ nm : String, (Cond.classLink own z.catchType nm).before args s = true ∧ va_Nc E nm s)) (hx : covers x pc = true) (h0 : x.catchType ≠ 0)
    (hlink : (Cond.classLink own x.catchType name).before args s = true) (hcast : (Cond.castable E name).before args s = true) (hcell : H[q]? = some ce) (hv : ce.vm = .none) (hcl : s.vm.findClass E = some ce.cls)
    (kk : W p l e R s m args below meth c H locs cells slots Q (F0 m x.handlerPc ls [.ref q])) : vx_W p l e R s m args below meth c H locs cells slots Q (F0 m pc ls rest) q := by
  intro T hT X
  have hpl : e.platform.magicAccessors = ({} : Platform).magicAccessors := by rw [X.admits.platform]
  obtain ⟨c3, c4, hc3, hc4, hasg⟩ := Cond.castable_spec hcast
  cases Option.some.inj (hc3.symm.trans hcl)
  obtain ⟨c5, hc5, hcl5⟩ := Cond.classLink_spec hown hlink e.platform hpl
  cases Option.some.inj (hc4.symm.trans hc5)
  obtain ⟨vm', X', st⟩ := X.thenCaughtThrough q (g := F0 m pc ls rest) rfl (Steps.refl _) (by rw [hT]; exact hcell) (by rw [hv]; rfl) (by obtain ⟨k9, h9, -⟩ := Vm.findClass_spec hcl; exact ⟨k9, h9⟩) pre x suf hsplit
    (fun z hz => by
      rcases hpass z hz with h | ⟨hz0, nm, hl1, hn1⟩
      · exact Or.inl h
      · obtain ⟨c6, hc6, hcl6⟩ := Cond.classLink_spec hown hl1 e.platform hpl
        obtain ⟨a8, b8, h1, h2, h3⟩ := hn1
        cases Option.some.inj (h1.symm.trans hcl)
        cases Option.some.inj (h2.symm.trans hc6)
        exact Or.inr ⟨hz0, _, hcl6, h3⟩) hx (Or.inr ⟨h0, c4, hcl5, hasg⟩)
  obtain ⟨t, a1, b1⟩ := kk (T.setVm vm') hT X'
  exact ⟨t, st.trans a1, b1⟩
end Rows
section Ends
variable {p : Program} {l : Launch} {e : Env} {R : Room} {s : State} {m : MethodId} {args : Array Value} {below : List Frame} {meth : Method} {c : Code} {H : Heap} {locs : List Loc} {cells slots : Nat} {Q : State → Prop}
variable {mc ms : Nat} {free : Addr → Prop} {A0 A1 : Nat → Prop} {H0 : Heap} {a : Array Value} {ls : Array Slot} {st0 rest : List Value}
variable {Qc : Array Value → State → Outcome → State → Prop} {XC : String → State → State → Prop}
/-- what a body that may throw owes at its end -/
def vx_MQ (below : List Frame) (Qc : Array Value → State → Outcome → State → Prop) (XC : String → State → State → Prop) (a : Array Value) (s : State) (mc ms : Nat) (free : Addr → Prop) : State → Prop := fun t =>
  ∃ o, t.status = .running ∧ Ended t below o ∧ vx_Q Qc XC mc ms free a s o t
theorem vx_ret {g : JFrame} {mc ms : Nat} (k : W p l e R s m args below meth c H locs cells slots (MQ below Qc args s mc ms free) g) : W p l e R s m args below meth c H locs cells slots (vx_MQ below Qc XC args s mc ms free) g := by
  intro T hT X
  obtain ⟨t, a1, o, b1, b2, b3, b4⟩ := k T hT X
  exact ⟨t, a1, o, b1, b2, Or.inl ⟨b3, b4⟩⟩
/-- not caught here: it goes on to the caller -/
theorem vx_widen {g : JFrame} {q : Addr} {k n : Nat} (h1 : cells ≤ k) (h2 : slots ≤ n) (kk : vx_W p l e R s m args below meth c H locs k n Q g q) : vx_W p l e R s m args below meth c H locs cells slots Q g q := fun T hT X => kk T hT (stand_widen X h1 h2)
theorem vx_out {pc : Nat} {E : String} {ce : Cell} {q : Addr} {mc ms : Nat} (hout : ∀ x ∈ c.exceptionTable.toList, covers x pc = false) (hlocks : meth.locks = false) (hcell : H[q]? = some ce) (hv : ce.vm = .none) (hcl : s.vm.findClass E = some ce.cls)
    (hx : ∀ t : State, t.heap = H → s.vm.Alike t.vm → XC E s t) (hf : ∀ z ∈ locs, free z.base) (hc : cells ≤ mc) (hs : slots ≤ ms) :
    vx_W p l e R s m args below meth c H locs cells slots (vx_MQ below Qc XC args s mc ms free) (F0 m pc ls rest) q := by
  intro T hT X
  obtain ⟨st1, hrun, hend, hW, hsm⟩ := X.leaveThrown q (g := F0 m pc ls rest) rfl rfl rfl hout hlocks
  have hcell9 : (T.setFrames (.throwing q :: below)).heap[q]? = some ce := by
    show T.heap[q]? = some ce
    rw [hT]; exact hcell
  exact ⟨_, st1, .threw q, hrun, hend, Or.inr ⟨q, rfl, E, ce, locs, hx _ hT hW.alike, hcell9, hv, hcl, hW, hsm.mono hc hs, hf⟩⟩
theorem vx_frame {U : State} {k n : Nat} (h : s.sameButNew ({ U with vm := s.vm } : State) locs k n) : s.heap.size ≤ U.heap.size ∧ ∀ q : Nat, q < s.heap.size → (∀ z ∈ locs, z.base ≠ q) → U.heap[q]? = s.heap[q]? := by
  obtain ⟨-, h2, -, -, -, h6⟩ := h
  refine ⟨h2, fun q hq hz => ?_⟩
  obtain ⟨c9, e1, e2, e3, e4⟩ := h6 q _ (Array.getElem?_eq_getElem hq)
  have hs : c9.slots = (s.heap[q]).slots := Array.ext_getElem? fun i => e4 i fun hm => hz _ hm rfl
  have h9 : c9 = s.heap[q] := by
    rw [hs] at e2
    exact e2
  have e5 : U.heap[q]? = some c9 := e1
  rw [e5, h9, Array.getElem?_eq_getElem hq]
/-- the words of a throw but the four that speak of the heap -/
def vx_no (w : Cond) : Bool := decide (w ≠ .isRef (.static Bundle.tN "UNASSIGNED_STACK" Bundle.steD)) && decide (w ≠ .isRef (.static Bundle.tN "SUPPRESSED_SENTINEL" Bundle.listD)) && decide (w ≠ .laysStatic Bundle.tN "UNASSIGNED_STACK" Bundle.steD) && decide (w ≠ .laysStatic Bundle.tN "SUPPRESSED_SENTINEL" Bundle.listD)
def vx_at0 (own : String) (ic : Nat) (X : String) (names : List String) : List Cond := (Bundle.ownAtoms0 own ic X names).filter vx_no
def vx_atS (own : String) (ic : Nat) (X : String) (names : List String) : List Cond := (Bundle.ownAtoms own ic X names).filter vx_no
/-- a word that the tables alone decide, or a good one -/
def vx_ot (w : Cond) : Bool := w.onTables || goodWord w
theorem vx_ot_at {args a' : Array Value} {s U : State} {w : Cond} (hW : s.WarmedH U.vm) (hvm : s.vm = U.vm) (hg : vx_ot w = true) (h : w.before args s = true) : w.before a' U = true := by
  simp only [vx_ot, Bool.or_eq_true] at hg
  rcases hg with hg | hg
  · exact va_tabs hg hvm h
  · exact word_at hW (good_of_word hg) h
/-- a list's words: the good ones out of the method's own list, the others by premises of their own -/
theorem vx_hat {args : Array Value} {s : State} {L B : List Cond} (h1 : ∀ w ∈ L.filter goodWord, w.before args s = true) (h2 : ∀ w ∈ L.filter (fun w => !goodWord w), w ∈ B) (h3 : ∀ w ∈ B, w.before args s = true) : ∀ w ∈ L, w.before args s = true := by
  intro w hw
  by_cases g : goodWord w = true
  · exact h1 w (List.mem_filter.mpr ⟨hw, g⟩)
  · refine h3 w (h2 w (List.mem_filter.mpr ⟨hw, ?_⟩))
    show (!goodWord w) = true
    cases hgw : goodWord w
    · rfl
    · exact absurd hgw g
theorem vx_c {args : Array Value} {s : State} {w : Cond} {B : List Cond} (h : w.before args s = true) (t : ∀ w ∈ B, w.before args s = true) : ∀ w' ∈ w :: B, w'.before args s = true := fun w' h' => (List.mem_cons.mp h').elim (fun e => by rw [e]; exact h) (t w')
theorem vx_n {args : Array Value} {s : State} : ∀ w ∈ ([] : List Cond), w.before args s = true := fun _ h => nomatch h
theorem vx_own {args : Array Value} {s : State} {L : List Cond} (h1 : ∀ w ∈ L.filter vx_no, w.before args s = true)
    (hU : (Cond.isRef (.static Bundle.tN "UNASSIGNED_STACK" Bundle.steD)).before args s = true) (hN : (Cond.isRef (.static Bundle.tN "SUPPRESSED_SENTINEL" Bundle.listD)).before args s = true)
    (lU : (Cond.laysStatic Bundle.tN "UNASSIGNED_STACK" Bundle.steD).before args s = true) (lN : (Cond.laysStatic Bundle.tN "SUPPRESSED_SENTINEL" Bundle.listD).before args s = true) : ∀ w ∈ L, w.before args s = true := by
  intro w hw
  by_cases e1 : w = .isRef (.static Bundle.tN "UNASSIGNED_STACK" Bundle.steD)
  · rw [e1]; exact hU
  · by_cases e2 : w = .isRef (.static Bundle.tN "SUPPRESSED_SENTINEL" Bundle.listD)
    · rw [e2]; exact hN
    · by_cases e3 : w = .laysStatic Bundle.tN "UNASSIGNED_STACK" Bundle.steD
      · rw [e3]; exact lU
      · by_cases e4 : w = .laysStatic Bundle.tN "SUPPRESSED_SENTINEL" Bundle.listD
        · rw [e4]; exact lN
        · exact h1 w (List.mem_filter.mpr ⟨hw, by unfold vx_no; rw [decide_eq_true e1, decide_eq_true e2, decide_eq_true e3, decide_eq_true e4]; rfl⟩)
/-- where a static field lies, its class's statics cell in H -/
def vx_L (C n d : String) (A : Nat → Prop) (U : State) (H : Heap) : Prop := ∃ (c : ClassId) (k : Class) (i : Nat) (f : Field) (a : Nat) (cell : Cell), U.vm.findClass C = some c ∧ U.fieldFound? C n d = some (c, k, i, f) ∧ f.isStatic = true ∧ k.statics = some a ∧ H[a]? = some cell ∧ cell.vm.isStatics = true ∧ cell.cls = c ∧ f.slot < cell.slots.size ∧ k.staticTypes[f.slot]? = some f.type ∧ ¬ A a
theorem vx_L.moved {C n d : String} {A : Nat → Prop} {u U : State} {H : Heap} (hvm : u.vm.Alike U.vm) (h : vx_L C n d A u H) : vx_L C n d A U H := by
  obtain ⟨c, k, i, f, a, cell, h1, h2, h3, h4, h5, h6, h7, h8, h9, h10⟩ := h
  obtain ⟨k', hi', he⟩ := State.fieldFound?_setVm hvm h2
  exact ⟨c, k', i, f, a, cell, by rw [hvm.findClass]; exact h1, hi', h3, by rw [he]; exact h4, h5, h6, h7, h8, by rw [he]; exact h9, h10⟩
theorem vx_L.kept {C n d : String} {A : Nat → Prop} {U : State} {H H1 : Heap} (h : vx_L C n d A U H) (hq : ∀ a : Nat, a < H.size → ¬ A a → H1[a]? = H[a]?) : vx_L C n d A U H1 := by
  obtain ⟨c, k, i, f, a, cell, h1, h2, h3, h4, h5, h6, h7, h8, h9, h10⟩ := h
  exact ⟨c, k, i, f, a, cell, h1, h2, h3, h4, by rw [hq a (Array.getElem?_eq_some_iff.mp h5).1 h10]; exact h5, h6, h7, h8, h9, h10⟩
theorem vx_L.narrow {C n d : String} {A B : Nat → Prop} {U : State} {H : Heap} (h : vx_L C n d A U H) (hAB : ∀ q, B q → A q) : vx_L C n d B U H := by
  obtain ⟨c, k, i, f, a, cell, h1, h2, h3, h4, h5, h6, h7, h8, h9, h10⟩ := h
  exact ⟨c, k, i, f, a, cell, h1, h2, h3, h4, h5, h6, h7, h8, h9, fun z => h10 (hAB _ z)⟩
theorem vx_L.word {C n d : String} {A : Nat → Prop} {s : State} {args : Array Value} (h : vx_L C n d A s s.heap) : (Cond.laysStatic C n d).before args s = true := by
  obtain ⟨c, k, i, f, a, cell, h1, h2, h3, h4, h5, h6, h7, h8, h9, -⟩ := h
  show (Cond.laysStatic C n d).holds args s none s [] = true
  exact Cond.laysStatic_of h1 h2 h3 h4 h5 h6 h7 h8 h9
/-- .. and what it holds: null or some reference -/
def vx_Zq (C n d : String) (A : Nat → Prop) (U : State) (H : Heap) : Prop := va_Zq C n d A U H ∧ vx_L C n d A U H
theorem vx_Zq.moved {C n d : String} {A : Nat → Prop} {u U : State} {H : Heap} (hvm : u.vm.Alike U.vm) (h : vx_Zq C n d A u H) : vx_Zq C n d A U H := ⟨va_Zq.moved hvm h.1, vx_L.moved hvm h.2⟩
theorem vx_Zq.kept {C n d : String} {A : Nat → Prop} {U : State} {H H1 : Heap} (h : vx_Zq C n d A U H) (hq : ∀ a : Nat, a < H.size → ¬ A a → H1[a]? = H[a]?) : vx_Zq C n d A U H1 := ⟨va_Zq.kept h.1 hq, vx_L.kept h.2 hq⟩
theorem vx_Zq.narrow {C n d : String} {A B : Nat → Prop} {U : State} {H : Heap} (h : vx_Zq C n d A U H) (hAB : ∀ q, B q → A q) : vx_Zq C n d B U H := ⟨va_Zq.narrow h.1 hAB, vx_L.narrow h.2 hAB⟩
theorem vx_Zqof {args : Array Value} {s : State} {C n d : String} {A : Nat → Prop} (hl : (Cond.laysStatic C n d).before args s = true) (hini : (Cond.initialized C).before args s = true) (h : (Cond.isRef (.static C n d)).before args s = true) (hA : ∀ a : Nat, a < s.heap.size → ¬ A a) : vx_Zq C n d A s s.heap := by
  refine ⟨va_Zqof hl hini h hA, ?_⟩
  obtain ⟨c, k, i, f, a, cell, h1, h2, h3, h4, h5, h6, h7, h8, h9⟩ := Cond.laysStatic_spec hl
  exact ⟨c, k, i, f, a, cell, h1, h2, h3, h4, h5, h6, h7, h8, h9, hA a (Array.getElem?_eq_some_iff.mp h5).1⟩
theorem vx_isRef {C n d : String} {v : Value} {A : Nat → Prop} {s : State} {args : Array Value} (h : va_Z C n d v A s s.heap) (hv : v.isRef = true) : (Cond.isRef (.static C n d)).before args s = true := by
  obtain ⟨cf, kf, fi, f, a, cell, h1, h2, h3, h4, h5, h6, h7, -⟩ := h
  have he : (Term.static C n d).eval args s none [] s = some v := by
    simp [Term.eval, State.fieldNamed?, h1, h2, h4, h5, h6, h7]
  simp only [Cond.before, Cond.holds, Cond.value, he]
  cases v <;> simp_all [Value.isRef]
theorem vx_isRefq {C n d : String} {A : Nat → Prop} {s : State} {args : Array Value} (h : va_Zq C n d A s s.heap) : (Cond.isRef (.static C n d)).before args s = true := by
  rcases h with h | ⟨t, h⟩
  · exact vx_isRef h rfl
  · exact vx_isRef h rfl
/-- the same frame, seen from here: as if the method were called anew in this heap -/
theorem vx_rebase {T : State} (X : Stand p l e R s m args below meth c T locs cells slots) {R' : Room} (hf : R'.frames ≤ R.frames) (hl : R'.locals ≤ R.locals) (hc : cells + R'.cells ≤ R.cells) (hs : slots + R'.slots ≤ R.slots) :
    Stand p l e R' ((T.setVm s.vm).setFrames (.invoking m args :: below)) m args below meth c T [] 0 0 := by
  have htop : (T.setVm s.vm).topJava?.isSome := X.here.top
  have hF : ((T.setVm s.vm).setFrames (.invoking m args :: below)).frames = .invoking m args :: below := State.frames_setFrames _ (State.cur_lt_of_top htop)
  obtain ⟨g₀, hg0⟩ := Option.isSome_iff_exists.mp htop
  obtain ⟨r, hr⟩ := State.topJava?_eq_some.mp hg0
  have hl9 : e.platform.stackLimits (T.setVm s.vm).me = e.platform.stackLimits s.me := X.limits
  have hb9 : (T.setVm s.vm).me.stackBytes = s.me.stackBytes := X.bytes
  refine ⟨X.admits, X.cas, X.clock, hF, ?_, X.hears, X.method, X.code, X.here, X.tail, X.warmed, ?_, ?_, ?_⟩
  · have h := X.room
    have hU : ((T.setVm s.vm).setFrames (.invoking m args :: below)).localsInUse = s.localsInUse := by
      rw [State.localsInUse_invoking hF (meth := meth) (c := c) X.method X.code, State.localsInUse_invoking X.frames X.method X.code]
    simp only [State.hasRoom, Bool.and_eq_true, decide_eq_true_eq] at h ⊢
    obtain ⟨⟨⟨⟨h1, h2, h3, h4, h5, h6⟩, h7⟩, h8⟩, h9⟩ := h
    rw [X.frames, List.length_cons] at h2 h3
    have q1 := X.heapSize
    have q2 := X.used
    simp only [hF, hU, List.length_cons, State.stackLimits_setFrames, State.stackBytes_setFrames, hl9, hb9]
    refine ⟨⟨⟨⟨by omega, by omega, by omega, by omega, by omega, h6⟩, ?_⟩, ?_⟩, X.book⟩
    · show T.heap.size + R'.cells ≤ e.platform.maxCells
      omega
    · show T.slotsUsed + R'.slots ≤ e.platform.maxSlots
      omega
  · rw [State.stackLimits_setFrames]; rfl
  · rw [State.stackBytes_setFrames]; rfl
  · refine ⟨?_, Nat.le_refl _, Nat.le_refl _, ?_, ?_, fun a c9 h9 => ⟨c9, h9, rfl, rfl, fun _ _ => rfl⟩⟩
    · obtain ⟨t, ht, -⟩ := State.frames_cons hr
      show T.setVm s.vm = { ((T.setVm s.vm).setFrames (.invoking m args :: below)).setFrames (T.setVm s.vm).frames with heap := T.heap, slotsUsed := T.slotsUsed }
      rw [State.setFrames_setFrames, State.setFrames_self ht]
      rfl
    · show T.slotsUsed = T.slotsUsed + ((T.heap.toList.drop T.heap.size).map (·.slots.size)).sum
      rw [List.drop_eq_nil_of_le (Nat.le_of_eq Array.length_toList)]
      rfl
    · show ((T.heap.toList.drop T.heap.size).map (·.slots.size)).sum ≤ 0
      rw [List.drop_eq_nil_of_le (Nat.le_of_eq Array.length_toList)]
      exact Nat.le_refl _
/-- 'throw new E()': new; dup; invokespecial; athrow -/
theorem vx_throw0 {cc : ByteArray} {pc : Nat} (hexec : p.tables.exec = Jvm.exec) (hb : c.code = cc) (hl : l.stackTraces = false) {own cls : String} {names : List String} {ik ic mc ms : Nat} {A : Nat → Prop}
    (hown : s.vm.findClass own = some m.cls) (hcls : Bundle.fit cls = true) (hnames : ∀ n ∈ names, Bundle.fit n = true)
    (hk : (Cond.classLink own ik cls).before args s = true) (hini : (Cond.initialized cls).before args s = true) (hat : ∀ w ∈ vx_at0 own ic cls names, w.before args s = true)
    (hgood : ∀ w ∈ Cond.classLink own ik cls :: Cond.initialized cls :: vx_at0 own ic cls names, vx_ot w = true)
    (hU : vx_Zq Bundle.tN "UNASSIGNED_STACK" Bundle.steD A s s.heap) (hN : vx_Zq Bundle.tN "SUPPRESSED_SENTINEL" Bundle.listD A s s.heap) (hS : va_S A s.heap H locs) (hsize : ls.size = c.maxLocals)
    (d0 : decode cc pc = .ok (.new ik, 3)) (d3 : decode cc (pc + 3) = .ok (.dup, 1)) (d4 : decode cc (pc + 4) = .ok (.invokespecial ic, 3)) (d7 : decode cc (pc + 7) = .ok (.athrow, 1))
    (hout : ∀ x ∈ c.exceptionTable.toList, covers x (pc + 7) = false)
    (hRframes : names.length + 3 < R.frames) (hRlocals : (rest.map fun v => v.category).sum + (13 * (names.length + 1) + 42) ≤ R.locals) (hRcells : cells + 1 ≤ R.cells) (hRslots : slots + 6 ≤ R.slots) (hlocks : meth.locks = false)
    (hx : ∀ t : State, s.vm.Alike t.vm → H.size ≤ t.heap.size → (∀ q : Nat, q < H.size → t.heap[q]? = H[q]?) → XC cls s t)
    (hf : ∀ z ∈ locs, free z.base) (hc : cells + 1 ≤ mc) (hs : slots + 6 ≤ ms) :
    W p l e R s m args below meth c H locs cells slots (vx_MQ below Qc XC args s mc ms free) (F0 m pc ls rest) := by
  intro T hT X
  have htr : e.platform.stackTraces = false := (show e.platform.stackTraces = l.stackTraces by rw [X.admits.platform]).trans hl
  have Y := vx_rebase X (R' := { frames := R.frames, locals := R.locals, cells := 1, slots := 6 }) (Nat.le_refl _) (Nat.le_refl _) hRcells hRslots
  obtain ⟨s', hA⟩ : ∃ z, z = (T.setVm s.vm).setFrames (.invoking m args :: below) := ⟨_, rfl⟩
  rw [← hA] at Y
  have hvm : s'.vm = s.vm := by rw [hA]; rfl
  have hhp : s'.heap = H := by rw [hA]; exact hT
  have hW0 : s.WarmedH s'.vm := by rw [hvm]; exact State.WarmedH.refl s
  have hat' : ∀ w ∈ vx_at0 own ic cls names, w.before args s' = true := fun w hw => vx_ot_at hW0 hvm.symm (hgood w (List.mem_cons_of_mem _ (List.mem_cons_of_mem _ hw))) (hat w hw)
  have hk' : (Cond.classLink own ik cls).before args s' = true := vx_ot_at hW0 hvm.symm (hgood _ List.mem_cons_self) hk
  have hini' : (Cond.initialized cls).before args s' = true := vx_ot_at hW0 hvm.symm (hgood _ (List.mem_cons_of_mem _ List.mem_cons_self)) hini
  have hU' : vx_Zq Bundle.tN "UNASSIGNED_STACK" Bundle.steD A s' s'.heap := by rw [hhp]; exact vx_Zq.moved hW0.alike (hU.kept hS.2.1)
  have hN' : vx_Zq Bundle.tN "SUPPRESSED_SENTINEL" Bundle.listD A s' s'.heap := by rw [hhp]; exact vx_Zq.moved hW0.alike (hN.kept hS.2.1)
  have h : ∀ w ∈ Bundle.ownAtoms0 own ic cls names, w.before args s' = true := vx_own hat' (vx_isRefq hU'.1) (vx_isRefq hN'.1) hU'.2.word hN'.2.word
  have hown' : s'.vm.findClass own = some m.cls := by rw [hvm]; exact hown
  have hins : (Cond.instantiable cls 6).before args s' = true := h _ (by simp [Bundle.ownAtoms0])
  obtain ⟨vm₁, cX, kX, hfX, hkX, -, -, X₁, st1⟩ := Y.newCold hexec (own := own) (C := cls) (index := ik) (n := 6) hown' hk' hins hini'
    (g := F0 m pc ls rest) rfl (by rw [hb]; exact d0) (Nat.le_refl _) (Nat.le_refl _)
  generalize hT1 : (T.setVm vm₁).pushCell { cls := cX, slots := kX.instanceTypes.map defaultValue, vm := .none } = T1 at X₁ st1
  have hcat : (Value.ref T.heap.size).category = 1 := rfl
  have hcellA : T1.heap[T.heap.size]? = some (freshCell cX kX) := by rw [← hT1]; exact State.heap_pushCell_size _ _
  have d3' : decode c.code (pc + 3) = .ok (.dup, 1) := by rw [hb]; exact d3
  obtain ⟨U, hsteps, hrun, hend, hW, hsame, ce, hce, hO⟩ := X₁.ctorThrow0 hexec htr (own := own) (cls := cls) (names := names) (ic := ic) hown' hcls hnames h (fun x hx => nomatch hx) hfX hkX hcellA (by rw [hhp, hT]; exact Nat.le_refl _)
    (g := { method := m, pc := pc + 4, locals := ls, stack := .ref T.heap.size :: .ref T.heap.size :: rest, locked := none }) rfl hsize rfl rfl (rest := rest) rfl
    (by rw [hb]; exact d4) (by rw [hb]; exact d7) hout hRframes (by simp only [List.map_cons, List.sum_cons, hcat]; omega) hlocks
  obtain ⟨f1, f2⟩ := vx_frame hsame
  rw [hhp] at f1 f2
  have hWs : s.WarmedH U.vm := State.WarmedH.trans hW0 hW
  have hcl : s.vm.findClass cls = some ce.cls := by
    have h9 := hO.cls
    rw [hvm] at h9
    exact h9
  have hall : s.sameButNew ({ U with vm := s.vm } : State) locs mc ms := by
    subst hA
    obtain ⟨e1, e2⟩ := hsame
    rw [State.setFrames_setFrames] at e1
    have h2 : (T.setVm s.vm).sameButNew ({ U with vm := s.vm } : State) [] (0 + 1) (0 + 6) := ⟨e1, e2⟩
    have h3 := X.same.trans h2
    rw [List.append_nil] at h3
    exact h3.mono hc hs
  refine ⟨U, ?_, .threw T.heap.size, hrun, hend, Or.inr ⟨T.heap.size, rfl, cls, ce, locs, hx U hWs.alike f1 (fun q hq => f2 q hq (fun z hz => nomatch hz)), hce, hO.vm, hcl, hWs, hall, hf⟩⟩
  refine st1 _ ?_
  show Steps p.tables e below (T1.setTop { method := m, pc := pc + 3, locals := ls, stack := .ref T.heap.size :: rest, locked := none }) _
  jvm_step X₁.here [X₁.here.top, hexec, d3', Value.category]
  exact hsteps
/-- 'throw new E("text")': new; dup; ldc; invokespecial; athrow -/
theorem vx_throwS {cc : ByteArray} {pc : Nat} (hexec : p.tables.exec = Jvm.exec) (hb : c.code = cc) (hl : l.stackTraces = false) {own cls text : String} {names : List String} {ik is ic mc ms sa : Nat} {A : Nat → Prop}
    (hown : s.vm.findClass own = some m.cls) (hcls : Bundle.fit cls = true) (hnames : ∀ n ∈ names, Bundle.fit n = true)
    (hk : (Cond.classLink own ik cls).before args s = true) (hini : (Cond.initialized cls).before args s = true) (hstr : vk_R own is text sa s) (hat : ∀ w ∈ vx_atS own ic cls names, w.before args s = true)
    (hgood : ∀ w ∈ Cond.classLink own ik cls :: Cond.initialized cls :: vx_atS own ic cls names, vx_ot w = true)
    (hU : vx_Zq Bundle.tN "UNASSIGNED_STACK" Bundle.steD A s s.heap) (hN : vx_Zq Bundle.tN "SUPPRESSED_SENTINEL" Bundle.listD A s s.heap) (hS : va_S A s.heap H locs) (hsize : ls.size = c.maxLocals)
    (d0 : decode cc pc = .ok (.new ik, 3)) (d3 : decode cc (pc + 3) = .ok (.dup, 1)) (d4 : decode cc (pc + 4) = .ok (.ldc is, 2)) (d6 : decode cc (pc + 6) = .ok (.invokespecial ic, 3)) (d9 : decode cc (pc + 9) = .ok (.athrow, 1))
    (hout : ∀ x ∈ c.exceptionTable.toList, covers x (pc + 9) = false)
    (hRframes : names.length + 3 < R.frames) (hRlocals : (rest.map fun v => v.category).sum + (13 * (names.length + 1) + 43) ≤ R.locals) (hRcells : cells + 1 ≤ R.cells) (hRslots : slots + 6 ≤ R.slots) (hlocks : meth.locks = false)
    (hx : ∀ t : State, s.vm.Alike t.vm → H.size ≤ t.heap.size → (∀ q : Nat, q < H.size → t.heap[q]? = H[q]?) → XC cls s t)
    (hf : ∀ z ∈ locs, free z.base) (hc : cells + 1 ≤ mc) (hs : slots + 6 ≤ ms) :
    W p l e R s m args below meth c H locs cells slots (vx_MQ below Qc XC args s mc ms free) (F0 m pc ls rest) := by
  intro T hT X
  have htr : e.platform.stackTraces = false := (show e.platform.stackTraces = l.stackTraces by rw [X.admits.platform]).trans hl
  have Y := vx_rebase X (R' := { frames := R.frames, locals := R.locals, cells := 1, slots := 6 }) (Nat.le_refl _) (Nat.le_refl _) hRcells hRslots
  obtain ⟨s', hA⟩ : ∃ z, z = (T.setVm s.vm).setFrames (.invoking m args :: below) := ⟨_, rfl⟩
  rw [← hA] at Y
  have hvm : s'.vm = s.vm := by rw [hA]; rfl
  have hhp : s'.heap = H := by rw [hA]; exact hT
  have hW0 : s.WarmedH s'.vm := by rw [hvm]; exact State.WarmedH.refl s
  have hat' : ∀ w ∈ vx_atS own ic cls names, w.before args s' = true := fun w hw => vx_ot_at hW0 hvm.symm (hgood w (List.mem_cons_of_mem _ (List.mem_cons_of_mem _ hw))) (hat w hw)
  have hk' : (Cond.classLink own ik cls).before args s' = true := vx_ot_at hW0 hvm.symm (hgood _ List.mem_cons_self) hk
  have hini' : (Cond.initialized cls).before args s' = true := vx_ot_at hW0 hvm.symm (hgood _ (List.mem_cons_of_mem _ List.mem_cons_self)) hini
  have hU' : vx_Zq Bundle.tN "UNASSIGNED_STACK" Bundle.steD A s' s'.heap := by rw [hhp]; exact vx_Zq.moved hW0.alike (hU.kept hS.2.1)
  have hN' : vx_Zq Bundle.tN "SUPPRESSED_SENTINEL" Bundle.listD A s' s'.heap := by rw [hhp]; exact vx_Zq.moved hW0.alike (hN.kept hS.2.1)
  have h : ∀ w ∈ Bundle.ownAtoms own ic cls names, w.before args s' = true := vx_own hat' (vx_isRefq hU'.1) (vx_isRefq hN'.1) hU'.2.word hN'.2.word
  have hown' : s'.vm.findClass own = some m.cls := by rw [hvm]; exact hown
  have hins : (Cond.instantiable cls 6).before args s' = true := h _ (by simp [Bundle.ownAtoms])
  obtain ⟨vm₁, cX, kX, hfX, hkX, -, -, X₁, st1⟩ := Y.newCold hexec (own := own) (C := cls) (index := ik) (n := 6) hown' hk' hins hini'
    (g := F0 m pc ls rest) rfl (by rw [hb]; exact d0) (Nat.le_refl _) (Nat.le_refl _)
  generalize hT1 : (T.setVm vm₁).pushCell { cls := cX, slots := kX.instanceTypes.map defaultValue, vm := .none } = T1 at X₁ st1
  have hcat : (Value.ref T.heap.size).category = 1 := rfl
  have hcellA : T1.heap[T.heap.size]? = some (freshCell cX kX) := by rw [← hT1]; exact State.heap_pushCell_size _ _
  have d3' : decode c.code (pc + 3) = .ok (.dup, 1) := by rw [hb]; exact d3
  have d4' : decode c.code (pc + 4) = .ok (.ldc is, 2) := by rw [hb]; exact d4
  have hstr' : vk_R own is text sa s' := vk_R.warm hW0 hstr
  obtain ⟨U, hsteps, hrun, hend, hW, hsame, ce, hce, hO⟩ := X₁.ctorThrowS hexec htr (own := own) (cls := cls) (names := names) (ic := ic) hown' hcls hnames h (fun x hx => nomatch hx) hfX hkX hcellA (by rw [hhp, hT]; exact Nat.le_refl _) (msg := .ref sa) rfl
    (g := { method := m, pc := pc + 6, locals := ls, stack := .ref sa :: .ref T.heap.size :: .ref T.heap.size :: rest, locked := none }) rfl hsize rfl rfl (rest := rest) rfl
    (by rw [hb]; exact d6) (by rw [hb]; exact d9) hout hRframes (by simp only [List.map_cons, List.sum_cons, hcat]; omega) hlocks
  obtain ⟨f1, f2⟩ := vx_frame hsame
  rw [hhp] at f1 f2
  have hWs : s.WarmedH U.vm := State.WarmedH.trans hW0 hW
  have hcl : s.vm.findClass cls = some ce.cls := by
    have h9 := hO.cls
    rw [hvm] at h9
    exact h9
  have hall : s.sameButNew ({ U with vm := s.vm } : State) locs mc ms := by
    subst hA
    obtain ⟨e1, e2⟩ := hsame
    rw [State.setFrames_setFrames] at e1
    have h2 : (T.setVm s.vm).sameButNew ({ U with vm := s.vm } : State) [] (0 + 1) (0 + 6) := ⟨e1, e2⟩
    have h3 := X.same.trans h2
    rw [List.append_nil] at h3
    exact h3.mono hc hs
  refine ⟨U, ?_, .threw T.heap.size, hrun, hend, Or.inr ⟨T.heap.size, rfl, cls, ce, locs, hx U hWs.alike f1 (fun q hq => f2 q hq (fun z hz => nomatch hz)), hce, hO.vm, hcl, hWs, hall, hf⟩⟩
  refine st1 _ ?_
  show Steps p.tables e below (T1.setTop { method := m, pc := pc + 3, locals := ls, stack := .ref T.heap.size :: rest, locked := none }) _
  jvm_step X₁.here [X₁.here.top, hexec, d3', Value.category]
  exact X₁.ldcString hexec (own := own) (text := text) (index := is) (a := sa) hown' hstr'.1 hstr'.2
    (g := { method := m, pc := pc + 4, locals := ls, stack := .ref T.heap.size :: .ref T.heap.size :: rest, locked := none }) rfl d4' _ hsteps
/-- 'throw new E("text")', the text by a wide index -/
theorem vx_throwSW {cc : ByteArray} {pc : Nat} (hexec : p.tables.exec = Jvm.exec) (hb : c.code = cc) (hl : l.stackTraces = false) {own cls text : String} {names : List String} {ik is ic mc ms sa : Nat} {A : Nat → Prop}
    (hown : s.vm.findClass own = some m.cls) (hcls : Bundle.fit cls = true) (hnames : ∀ n ∈ names, Bundle.fit n = true)
    (hk : (Cond.classLink own ik cls).before args s = true) (hini : (Cond.initialized cls).before args s = true) (hstr : vk_R own is text sa s) (hat : ∀ w ∈ vx_atS own ic cls names, w.before args s = true)
    (hgood : ∀ w ∈ Cond.classLink own ik cls :: Cond.initialized cls :: vx_atS own ic cls names, vx_ot w = true)
    (hU : vx_Zq Bundle.tN "UNASSIGNED_STACK" Bundle.steD A s s.heap) (hN : vx_Zq Bundle.tN "SUPPRESSED_SENTINEL" Bundle.listD A s s.heap) (hS : va_S A s.heap H locs) (hsize : ls.size = c.maxLocals)
    (d0 : decode cc pc = .ok (.new ik, 3)) (d3 : decode cc (pc + 3) = .ok (.dup, 1)) (d4 : decode cc (pc + 4) = .ok (.ldc_w is, 3)) (d7 : decode cc (pc + 7) = .ok (.invokespecial ic, 3)) (d10 : decode cc (pc + 10) = .ok (.athrow, 1))
    (hout : ∀ x ∈ c.exceptionTable.toList, covers x (pc + 10) = false)
    (hRframes : names.length + 3 < R.frames) (hRlocals : (rest.map fun v => v.category).sum + (13 * (names.length + 1) + 43) ≤ R.locals) (hRcells : cells + 1 ≤ R.cells) (hRslots : slots + 6 ≤ R.slots) (hlocks : meth.locks = false)
    (hx : ∀ t : State, s.vm.Alike t.vm → H.size ≤ t.heap.size → (∀ q : Nat, q < H.size → t.heap[q]? = H[q]?) → XC cls s t)
    (hf : ∀ z ∈ locs, free z.base) (hc : cells + 1 ≤ mc) (hs : slots + 6 ≤ ms) :
    W p l e R s m args below meth c H locs cells slots (vx_MQ below Qc XC args s mc ms free) (F0 m pc ls rest) := by
  intro T hT X
  have htr : e.platform.stackTraces = false := (show e.platform.stackTraces = l.stackTraces by rw [X.admits.platform]).trans hl
  have Y := vx_rebase X (R' := { frames := R.frames, locals := R.locals, cells := 1, slots := 6 }) (Nat.le_refl _) (Nat.le_refl _) hRcells hRslots
  obtain ⟨s', hA⟩ : ∃ z, z = (T.setVm s.vm).setFrames (.invoking m args :: below) := ⟨_, rfl⟩
  rw [← hA] at Y
  have hvm : s'.vm = s.vm := by rw [hA]; rfl
  have hhp : s'.heap = H := by rw [hA]; exact hT
  have hW0 : s.WarmedH s'.vm := by rw [hvm]; exact State.WarmedH.refl s
  have hat' : ∀ w ∈ vx_atS own ic cls names, w.before args s' = true := fun w hw => vx_ot_at hW0 hvm.symm (hgood w (List.mem_cons_of_mem _ (List.mem_cons_of_mem _ hw))) (hat w hw)
  have hk' : (Cond.classLink own ik cls).before args s' = true := vx_ot_at hW0 hvm.symm (hgood _ List.mem_cons_self) hk
  have hini' : (Cond.initialized cls).before args s' = true := vx_ot_at hW0 hvm.symm (hgood _ (List.mem_cons_of_mem _ List.mem_cons_self)) hini
  have hU' : vx_Zq Bundle.tN "UNASSIGNED_STACK" Bundle.steD A s' s'.heap := by rw [hhp]; exact vx_Zq.moved hW0.alike (hU.kept hS.2.1)
  have hN' : vx_Zq Bundle.tN "SUPPRESSED_SENTINEL" Bundle.listD A s' s'.heap := by rw [hhp]; exact vx_Zq.moved hW0.alike (hN.kept hS.2.1)
  have h : ∀ w ∈ Bundle.ownAtoms own ic cls names, w.before args s' = true := vx_own hat' (vx_isRefq hU'.1) (vx_isRefq hN'.1) hU'.2.word hN'.2.word
  have hown' : s'.vm.findClass own = some m.cls := by rw [hvm]; exact hown
  have hins : (Cond.instantiable cls 6).before args s' = true := h _ (by simp [Bundle.ownAtoms])
  obtain ⟨vm₁, cX, kX, hfX, hkX, -, -, X₁, st1⟩ := Y.newCold hexec (own := own) (C := cls) (index := ik) (n := 6) hown' hk' hins hini'
    (g := F0 m pc ls rest) rfl (by rw [hb]; exact d0) (Nat.le_refl _) (Nat.le_refl _)
  generalize hT1 : (T.setVm vm₁).pushCell { cls := cX, slots := kX.instanceTypes.map defaultValue, vm := .none } = T1 at X₁ st1
  have hcat : (Value.ref T.heap.size).category = 1 := rfl
  have hcellA : T1.heap[T.heap.size]? = some (freshCell cX kX) := by rw [← hT1]; exact State.heap_pushCell_size _ _
  have d3' : decode c.code (pc + 3) = .ok (.dup, 1) := by rw [hb]; exact d3
  have d4' : decode c.code (pc + 4) = .ok (.ldc_w is, 3) := by rw [hb]; exact d4
  have hstr' : vk_R own is text sa s' := vk_R.warm hW0 hstr
  obtain ⟨U, hsteps, hrun, hend, hW, hsame, ce, hce, hO⟩ := X₁.ctorThrowS hexec htr (own := own) (cls := cls) (names := names) (ic := ic) hown' hcls hnames h (fun x hx => nomatch hx) hfX hkX hcellA (by rw [hhp, hT]; exact Nat.le_refl _) (msg := .ref sa) rfl
    (g := { method := m, pc := pc + 7, locals := ls, stack := .ref sa :: .ref T.heap.size :: .ref T.heap.size :: rest, locked := none }) rfl hsize rfl rfl (rest := rest) rfl
    (by rw [hb]; exact d7) (by rw [hb]; exact d10) hout hRframes (by simp only [List.map_cons, List.sum_cons, hcat]; omega) hlocks
  obtain ⟨f1, f2⟩ := vx_frame hsame
  rw [hhp] at f1 f2
  have hWs : s.WarmedH U.vm := State.WarmedH.trans hW0 hW
  have hcl : s.vm.findClass cls = some ce.cls := by
    have h9 := hO.cls
    rw [hvm] at h9
    exact h9
  have hall : s.sameButNew ({ U with vm := s.vm } : State) locs mc ms := by
    subst hA
    obtain ⟨e1, e2⟩ := hsame
    rw [State.setFrames_setFrames] at e1
    have h2 : (T.setVm s.vm).sameButNew ({ U with vm := s.vm } : State) [] (0 + 1) (0 + 6) := ⟨e1, e2⟩
    have h3 := X.same.trans h2
    rw [List.append_nil] at h3
    exact h3.mono hc hs
  refine ⟨U, ?_, .threw T.heap.size, hrun, hend, Or.inr ⟨T.heap.size, rfl, cls, ce, locs, hx U hWs.alike f1 (fun q hq => f2 q hq (fun z hz => nomatch hz)), hce, hO.vm, hcl, hWs, hall, hf⟩⟩
  refine st1 _ ?_
  show Steps p.tables e below (T1.setTop { method := m, pc := pc + 3, locals := ls, stack := .ref T.heap.size :: rest, locked := none }) _
  jvm_step X₁.here [X₁.here.top, hexec, d3', Value.category]
  exact X₁.ldcStringW hexec (own := own) (text := text) (index := is) (a := sa) hown' hstr'.1 hstr'.2
    (g := { method := m, pc := pc + 4, locals := ls, stack := .ref T.heap.size :: .ref T.heap.size :: rest, locked := none }) rfl d4' _ hsteps
end Ends
section Bodies
variable {l : Launch}
theorem vx_ofW {y : MethodName} {ws ws' : List Cond} {rm : Room} {Pc : Array Value → State → Prop} {Qc : Array Value → State → Outcome → State → Prop} {XC : String → State → State → Prop} {mc ms : Nat} {free : Addr → Prop} {cc : ByteArray} {maxL : Nat} {ret : Option FieldType}
    (hy : plainName y.cls = true) (hw : ws = Cond.code y cc maxL ret :: ws')
    (body : ∀ p e s m args below meth c s₁, BodyLoose p l y (headSpec ws rm) cc maxL ret e s m args below meth c s₁ → c.maxLocals = maxL → (∀ x ∈ c.exceptionTable.toList, False) → Pc args s →
      W p l e (headSpec ws rm).room s m args below meth c s.heap [] 0 0 (vx_MQ below Qc XC args s mc ms free) (entryFrame m args maxL)) : vx_Met l y ws rm Pc Qc XC mc ms free := by
  refine MetFree.of_bodyS (code := cc) (maxLocals := maxL) (ret := ret) hy ?_ ?_
  · intro args s m h hn
    obtain ⟨meth, c, h1, h2, h3, h4, h5, h6, -, -⟩ := Cond.code_spec hn (atoms_spec (ws := ws) h _ (by rw [hw]; exact List.mem_cons_self))
    exact ⟨meth, c, h1, h2, h3, h4, h5, h6⟩
  · intro p e s m args below meth c s₁ B hml hP _
    have hh0 : s₁.heap = s.heap := by rw [B.state]; rfl
    have ht : ∀ x ∈ c.exceptionTable.toList, False := by
      obtain ⟨meth9, c9, h1, h2, -, -, -, -, h7, -⟩ := Cond.code_spec B.named (atoms_spec (ws := ws) B.pre _ (by rw [hw]; exact List.mem_cons_self))
      cases Option.some.inj (h1.symm.trans B.method)
      cases Option.some.inj (h2.symm.trans (Stand.of_body B).code)
      intro x hx
      rw [Array.isEmpty_iff.mp h7] at hx
      cases hx
    obtain ⟨t, a1, o, b1, b2, b3⟩ := body p e s m args below meth c s₁ B hml ht hP s₁ hh0 (Stand.of_body B)
    exact ⟨t, o, a1, b1, b2, b3⟩
/-- the table of a body with handlers -/
theorem vx_table {p : Program} {x y : MethodName} {S : Spec} {cc bytes : ByteArray} {maxL maxL' : Nat} {ret ret' : Option FieldType} {e : Env} {s s₁ : State} {m : MethodId} {args : Array Value} {below : List Frame} {meth : Method} {c : Code} {hh : List (Nat × Nat × Nat × Nat)}
    (B : BodyLoose p l y S cc maxL ret e s m args below meth c s₁) (h : (Cond.codeWith y bytes maxL' ret' hh).before args s = true) : c.exceptionTable.toList = tableOf hh := by
  obtain ⟨m9, meth9, c9, hn9, h1, h2, -, -, h6, -⟩ := Cond.codeWith_spec h
  cases Option.some.inj (hn9.symm.trans B.named)
  cases Option.some.inj (h1.symm.trans B.method)
  cases Option.some.inj (h2.symm.trans (Stand.of_body B).code)
  rw [← h6, table_eq]
end Bodies
end VXA
/-! ===== END ===== -/
/-! ===== BEGIN a static call of a method with an exception table ===== -/
section VXS
variable {p : Program} {l : Launch} {e : Env} {R : Room} {s : State} {m : MethodId} {args : Array Value} {below : List Frame} {meth : Method} {c : Code} {T : State} {H : Heap} {locs : List Loc} {cells slots : Nat}
abbrev vx_CSW (R : Room) (s : State) (args : Array Value) (own : String) (index : Nat) (y : MethodName) (bytes : ByteArray) (maxL : Nat) (ret : Option FieldType) (hh : List (Nat × Nat × Nat × Nat)) (ws : List Cond) (rm : Room) (mc ms n : Nat) : Prop :=
  (rm.cells = mc ∧ rm.slots = ms ∧ rm.frames + 1 ≤ R.frames ∧ 8 + (maxL + 11) + rm.locals ≤ R.locals ∧ (∀ w ∈ ws, ∀ (a' : Array Value) (U : State), s.WarmedH U.vm → w.before a' U = true) ∧ Cond.codeWith y bytes maxL ret hh ∈ ws) ∧
  (Cond.codeWith y bytes maxL ret hh).before args s = true ∧ (Cond.initialized y.cls).before args s = true ∧ (y.cls ≠ "java/lang/invoke/MethodHandle" ∧ y.cls ≠ "java/lang/invoke/VarHandle") ∧
  (∀ sig, parseMethodDescriptor y.desc = some sig → n = sig.parameters.length) ∧ (Cond.methodLink own index y).before args s = true ∧ (Cond.static y).before args s = true
theorem vx_cwSW {own : String} {index maxL mc ms : Nat} {y : MethodName} {bytes : ByteArray} {ret : Option FieldType} {hh : List (Nat × Nat × Nat × Nat)} {Ts ws ws' : List Cond} {rm : Room} (n : Nat) (ht : ∀ w ∈ Ts, w.before args s = true) (hT : GoodIn Ts (va_wsS own index y ws)) (hw : ws = Cond.codeWith y bytes maxL ret hh :: ws') (hrc : rm.cells = mc) (hrs : rm.slots = ms)
    (hd : y.cls ≠ "java/lang/invoke/MethodHandle" ∧ y.cls ≠ "java/lang/invoke/VarHandle" ∧ (parseMethodDescriptor y.desc).map (fun d => d.parameters.length) = some n) (hR : rm.frames + 1 ≤ R.frames ∧ 8 + (maxL + 11) + rm.locals ≤ R.locals) :
    vx_CSW R s args own index y bytes maxL ret hh ws rm mc ms n := by
  have ok : ∀ w ∈ va_wsS own index y ws, w.before args s = true := fun w h => ht w (hT w h).1
  have hG : GoodIn Ts ws := fun w h => hT w (by unfold va_wsS; exact List.mem_append_right _ h)
  have hc : Cond.codeWith y bytes maxL ret hh ∈ ws := by rw [hw]; exact List.mem_cons_self
  refine ⟨⟨hrc, hrs, hR.1, hR.2, pay_in ht hG, hc⟩, ht _ (hG _ hc).1, ok _ (by simp [va_wsS]), ⟨hd.1, hd.2.1⟩, fun sig h => ?_, ok _ (by simp [va_wsS]), ok _ (by simp [va_wsS])⟩
  have h2 := hd.2.2
  rw [h] at h2
  exact (Option.some.inj h2).symm
theorem vx_callSW (X : Stand p l e R s m args below meth c T locs cells slots) (hexec : p.tables.exec = Jvm.exec) {own : String} {index : Nat} {y : MethodName} {bytes : ByteArray} {maxL : Nat} {ret : Option FieldType} {hh : List (Nat × Nat × Nat × Nat)}
    (hown : s.vm.findClass own = some m.cls) (hlink : (Cond.methodLink own index y).before args s = true) (hstat : (Cond.static y).before args s = true) (hinit : (Cond.initialized y.cls).before args s = true)
    (hcode : (Cond.codeWith y bytes maxL ret hh).before args s = true) (hy : y.cls ≠ "java/lang/invoke/MethodHandle" ∧ y.cls ≠ "java/lang/invoke/VarHandle")
    {W9 : Nat} {Pre : Pt → Array Value → Prop} {Post : Pt → Array Value → Option Value → Pt → Prop} (hK : Back l R p e below s args y 3 W9 Pre Post)
    {g : JFrame} (hg : g.method = m) (hsize : g.locals.size = c.maxLocals) {argsL rest : List Value} (hlen : ∀ sig, parseMethodDescriptor y.desc = some sig → argsL.length = sig.parameters.length)
    (hstack : g.stack = argsL.reverse ++ rest) (hW : 2 * g.monitorRoom + (rest.map fun v => v.category).sum ≤ W9) (hdg : decode c.code g.pc = .ok (.invokestatic index, 3))
    (hpre : ∀ vm₁, s.WarmedH vm₁ → Pre ⟨T.setVm vm₁, locs, cells, slots⟩ argsL.toArray) :
    ∃ (v : Option Value) (vm₁ : Vm) (B : Pt), s.WarmedH vm₁ ∧ Stand p l e R s m args below meth c B.U B.locs B.cells B.slots ∧ Post ⟨T.setVm vm₁, locs, cells, slots⟩ argsL.toArray v B ∧
      ∀ target, Steps p.tables e below (B.U.setTop { g with pc := g.pc + 3, stack := v.toList ++ rest }) target → Steps p.tables e below (T.setTop g) target := by
  obtain ⟨mk, methM, cM, hnamed, hmethM, -, -, -, -, -, -, hsigM⟩ := Cond.codeWith_spec hcode
  have hstatic : methM.isStatic = true := Cond.static_spec hnamed hmethM hstat
  obtain ⟨kP, hkP, -⟩ := className_of_methodNamed hnamed
  have hinitP : kP.init = .initialized := Cond.initialized_spec (findClass_of_methodNamed hnamed) hkP hinit
  obtain ⟨vm₁, X₁, hstep₁⟩ := X.invokestatic hexec hown hlink hnamed hmethM hstatic hkP hinitP hy (g := g) hg (argsL := argsL) (rest := rest) (hlen _ hsigM) hstack hdg
  obtain ⟨v, B, X', hpost, hsteps⟩ := hK m meth c ⟨T.setVm vm₁, locs, cells, slots⟩ { g with stack := rest } (.invokestatic index) mk argsL.toArray X₁ hg hsize hdg hW (X₁.named hnamed) (hpre vm₁ X₁.warmed)
  exact ⟨v, vm₁, B, X₁.warmed, X', hpost, fun target h => hstep₁ _ fun acts => by rw [doInvoke_state]; exact hsteps.trans h⟩
theorem vx_runSW {y : MethodName} {bytes cc : ByteArray} {maxL nL mc ms n index : Nat} {ret : Option FieldType} {hh : List (Nat × Nat × Nat × Nat)} {ws : List Cond} {rm : Room} {Pc : Array Value → State → Prop} {Qc : Array Value → State → Outcome → State → Prop} {free : Addr → Prop} {Ts : List Cond} {own : String} {As rest : List Value} {g : JFrame}
    (S : CallFix p m c cc nL s args Ts own) (hM : Met l y ws rm Pc Qc mc ms free) (cw : vx_CSW R s args own index y bytes maxL ret hh ws rm mc ms n) (hp : PreS s H Pc As)
    (hg : g.method = m) (hn : As.length = n) (hsize : g.locals.size = nL) (hstack : g.stack = As.reverse ++ rest) (hW : 2 * g.monitorRoom + (rest.map fun v => v.category).sum ≤ 8) (hdg : decode cc g.pc = .ok (.invokestatic index, 3)) (hf : cells + mc ≤ R.cells ∧ slots + ms ≤ R.slots) :
    va_Run p l e R s m args below meth c H locs cells slots mc ms g rest (Qc As.toArray) (free) := by
  obtain ⟨⟨hrc, hrs, hfr, hlo, hws, hcw⟩, hcode, hini, hy, hlen, hl, hstt⟩ := cw
  have hK : Back l R p e below s args y 3 8 (PreOf R mc ms Pc) (PostOf Qc mc ms free) := va_backW (hh := hh) (bytes := bytes) (maxL := maxL) (ret := ret) hM hp.1 hrc hrs hfr hlo hws hcw (fun a' U hW => word_at hW (Or.inl (by first | rfl | simp [Cond.onTables, Cond.keeps, Cond.steady])) hini)
  obtain ⟨hx, hb, hml, ho, -⟩ := S
  intro T hT X
  obtain ⟨v, vm₁, ⟨U', l2, c2, s2⟩, hW₁, X', ⟨g', mk, t, L, e1, e2, hq, h1, hL, h2, h3⟩, st⟩ := vx_callSW X hx (hh := hh) (bytes := bytes) (maxL := maxL) (ret := ret) ho hl hstt hini hcode hy hK hg (hsize.trans hml.symm) (argsL := As) (rest := rest) (fun sig h => hn.trans (hlen sig h)) hstack hW (by rw [hb]; exact hdg)
    (fun vm₁ hW₁ => ⟨hf.1, hf.2, hp.2 (T.setVm vm₁) hT hW₁⟩)
  dsimp only [Pt.U, Pt.locs, Pt.cells, Pt.slots] at X' e1 e2 h1 h2 h3 st
  subst h1; subst h2; subst h3
  exact ⟨v, (T.setVm vm₁).calling g' mk As.toArray, t, U', L, hT, X', hL, e1, e2, hq, st⟩
/-- not caught here, past rows that name other classes: it goes on to the caller -/
theorem vx_outP {p : Program} {l : Launch} {e : Env} {R : Room} {s : State} {m : MethodId} {args : Array Value} {below : List Frame} {meth : Method} {c : Code} {H : Heap} {locs : List Loc} {cells slots : Nat} {free : Addr → Prop} {ls : Array Slot} {rest : List Value} {Qc : Array Value → State → Outcome → State → Prop} {XC : String → State → State → Prop}
    {pc : Nat} {own E : String} {ce : Cell} {q : Addr} {mc ms : Nat} (hown : s.vm.findClass own = some m.cls) (hlocks : meth.locks = false)
    (hpass : ∀ z ∈ c.exceptionTable.toList, covers z pc = false ∨ (z.catchType ≠ 0 ∧ ∃ nm : String, (Cond.classLink own z.catchType nm).before args s = true ∧ va_Nc E nm s)) (hcell : H[q]? = some ce) (hv : ce.vm = .none) (hcl : s.vm.findClass E = some ce.cls)
    (hx : ∀ t : State, t.heap = H → s.vm.Alike t.vm → XC E s t) (hf : ∀ z ∈ locs, free z.base) (hc : cells ≤ mc) (hs : slots ≤ ms) :
    vx_W p l e R s m args below meth c H locs cells slots (vx_MQ below Qc XC args s mc ms free) (F0 m pc ls rest) q := by
  intro T hT X
  have hpl : e.platform.magicAccessors = ({} : Platform).magicAccessors := by rw [X.admits.platform]
  obtain ⟨vm', hW', X', st⟩ := X.outThrough hlocks q (g := F0 m pc ls rest) rfl rfl rfl (cell := ce) (by rw [hT]; exact hcell) (by rw [hv]; rfl)
    (by obtain ⟨k9, h9, -⟩ := Vm.findClass_spec hcl; exact ⟨k9, h9⟩) (fun z hz => by
      rcases hpass z hz with h | ⟨hz0, nm, hl1, hn1⟩
      · exact Or.inl h
      · obtain ⟨c6, hc6, hcl6⟩ := Cond.classLink_spec hown hl1 e.platform hpl
        obtain ⟨a8, b8, h1, h2, h3⟩ := hn1
        cases Option.some.inj (h1.symm.trans hcl)
        cases Option.some.inj (h2.symm.trans hc6)
        exact Or.inr ⟨hz0, _, hcl6, h3⟩)
  obtain ⟨g₀, hfr⟩ := X'.frames_eq
  have hcell9 : ((T.setVm vm').setFrames (.throwing q :: below)).heap[q]? = some ce := by
    show T.heap[q]? = some ce
    rw [hT]; exact hcell
  have hend : Ended ((T.setVm vm').setFrames (.throwing q :: below)) below (.threw q) := State.frames_setFrames _ (State.cur_lt_of_frames hfr)
  refine ⟨(T.setVm vm').setFrames (.throwing q :: below), ?_, .threw q, X'.here.running, hend, Or.inr ⟨q, rfl, E, ce, locs, hx _ hT (X'.ends _).1.alike, hcell9, hv, hcl, (X'.ends _).1, (X'.ends _).2.mono hc hs, hf⟩⟩
  rw [X.pushThrowing_eq]
  exact st
/-- a thing of a world lies in the heap -/
theorem vx_lt {D : va_G} {cl : List vw_C} {ws : va_W} {H1 : Heap} (h : va_P D cl ws H1) {k : Nat} {q : Nat × va_E} (hk : ws[k]? = some q) : q.1 < H1.size := (h k q hk).lt
end VXS
/-! ===== END ===== -/
/-! ===== BEGIN methods with a table of their own: called by a name, returning or throwing ===== -/
section VXH
/-! vx_backW, vx_callVX, vx_callSX, vx_callVW, vx_runVW, vx_runVX, vx_runSX, vx_ofWH follow the same proofs as their sisters above (Free/Laws.lean, Shelf42/LK1.lean); vx_outP calls Shelf42/NT130.lean (outThrough). -/
section
variable {l : Launch} {R : Room} {p : Program} {e : Env} {below : List Frame} {s : State} {sargs : Array Value} {y : MethodName} {len W9 : Nat}
theorem vx_backW {ws : List Cond} {rm : Room} {Pc : Array Value → State → Prop} {Qc : Array Value → State → Outcome → State → Prop} {XC : String → State → State → Prop} {mc ms : Nat} {free : Addr → Prop} {bytes : ByteArray} {maxL : Nat} {ret : Option FieldType} {hh : List (Nat × Nat × Nat × Nat)}
    (hM : vx_Met l y ws rm Pc Qc XC mc ms free) (hblind : FrameBlind Pc) (hrc : rm.cells = mc) (hrs : rm.slots = ms)
    (hframes : rm.frames + 1 ≤ R.frames) (hlocals : W9 + (maxL + 11) + rm.locals ≤ R.locals)
    (hws : ∀ w ∈ ws, ∀ a' U, s.WarmedH U.vm → w.before a' U = true) (hcode : Cond.codeWith y bytes maxL ret hh ∈ ws) (hinit : ∀ a' U, s.WarmedH U.vm → (Cond.initialized y.cls).before a' U = true) :
    vx_Back l R p e below s sargs y len W9 (PreOf R mc ms Pc) (PostOf Qc mc ms free) (vx_Post XC mc ms free) := by
  intro m meth c A g ig mk a X hg hsize hdg hW hn hp
  have h1 : (headSpec ws rm).pre.before a A.U = true := atoms_intro fun w hw => hws w hw _ _ X.warmed
  have h2 : (Cond.codeWith y bytes maxL ret hh).before a A.U = true := hws _ hcode _ _ X.warmed
  have h3 : (Cond.initialized y.cls).before a A.U = true := hinit _ _ X.warmed
  have h4 : A.cells + (headSpec ws rm).room.cells ≤ R.cells := by rw [show (headSpec ws rm).room.cells = mc from hrc]; exact hp.1
  have h5 : A.slots + (headSpec ws rm).room.slots ≤ R.slots := by rw [show (headSpec ws rm).room.slots = ms from hrs]; exact hp.2.1
  have hPc : Pc a (A.U.calling g mk a) := hblind _ _ _ _ hp.2.2
  obtain ⟨U, Ls, c0, s0⟩ := A
  dsimp only [Pt.U, Pt.locs, Pt.cells, Pt.slots] at h1 h2 h3 h4 h5 X hn hPc ⊢
  obtain ⟨m9, methY, cY, hn9, hmY, hcY, -, hlY, -⟩ := Cond.codeWith_spec h2
  cases Option.some.inj (hn9.symm.trans hn)
  obtain ⟨kY, hkY, -⟩ := className_of_methodNamed hn
  have hinitY : kY.init = .initialized := Cond.initialized_spec (findClass_of_methodNamed hn) hkY h3
  have h : At U g.method c below := by rw [hg]; exact X.here
  have hlocals9 : W9 + (maxL + 11) + (headSpec ws rm).room.locals ≤ R.locals := hlocals
  have happ : (headSpec ws rm).appliesLoose y e.platform (U.calling g mk a) = true :=
    Spec.appliesLoose_calling (g := g) h hdg hn hkY hinitY
      (X.room_calling (g := g) (R' := (headSpec ws rm).room) hsize hmY hcY hframes (by rw [hlY]; omega) h4 h5) h1
  obtain ⟨mid, hmid⟩ := h.above
  have hfr : (U.setTop g).frames = (.java g :: mid) ++ below := by rw [State.frames_setTop' g h.top, hmid]; rfl
  obtain ⟨o, s₂, hsteps, -, hend, hq⟩ := Steps.callFree hM p X.admits X.cas X.clock (acts := []) hfr happ hPc trivial
  have hq' : vx_Q Qc XC mc ms free a (U.calling g mk a) o s₂ := hq
  rw [State.frames_setTop' g h.top] at hend
  obtain ⟨g₀, hg0⟩ := Option.isSome_iff_exists.mp h.top
  obtain ⟨r, hr⟩ := State.topJava?_eq_some.mp hg0
  have hr' : (({ U with heap := s₂.heap, slotsUsed := s₂.slotsUsed } : State).setVm s₂.vm).frames = .java g₀ :: r := hr
  rcases hq' with ⟨hqc, L, hfe, hL⟩ | ⟨q, rfl, E, ce, L, hx, hce, hcv, hcl, hW₂, hsm, hL⟩
  · obtain ⟨⟨v, rfl⟩, hW₂, e2, q2, q3, q4, q5, q6⟩ := id hfe
    have e3 : s₂ = ({ (U.calling g mk a).setFrames s₂.frames with heap := s₂.heap, slotsUsed := s₂.slotsUsed } : State).setVm s₂.vm := by
      have : s₂ = ({ s₂ with vm := (U.calling g mk a).vm } : State).setVm s₂.vm := rfl
      rw [e2] at this
      exact this
    obtain ⟨c₂, i₂, len₂, hc₂, hd₂, hf₂⟩ := hend
    have hW' : U.WarmedH s₂.vm := hW₂
    have hcc : c₂ = c := by
      have h1 : s₂.code? g.method = U.code? g.method := by
        rw [State.code?_eq, State.code?_eq, hW'.alike.method?]
      exact Option.some.inj (hc₂.symm.trans (h1.trans h.code))
    subst hcc
    have hlen : len₂ = len := by rw [hdg] at hd₂; cases hd₂; rfl
    subst hlen
    have hs₂ : s₂ = (({ U with heap := s₂.heap, slotsUsed := s₂.slotsUsed } : State).setVm s₂.vm).setTop { g with pc := g.pc + len₂, stack := v.toList ++ g.stack } := by
      refine e3.trans ?_
      rw [hf₂, State.calling_eq h.top, State.setFrames_setFrames, State.setTop_of_frames _ hr', hr]
      rfl
    have hsame : U.sameButNew ({ U with heap := s₂.heap, slotsUsed := s₂.slotsUsed } : State) L mc ms := by
      refine ⟨?_, q2, q3, q4, q5, q6⟩
      obtain ⟨t, ht, -⟩ := State.frames_cons hr
      show ({ U with heap := s₂.heap, slotsUsed := s₂.slotsUsed } : State) = { U.setFrames U.frames with heap := s₂.heap, slotsUsed := s₂.slotsUsed }
      rw [State.setFrames_self ht]
    subst hg
    refine Or.inl ⟨v, ⟨(({ U with heap := s₂.heap, slotsUsed := s₂.slotsUsed } : State).setVm s₂.vm), Ls ++ L, c0 + mc, s0 + ms⟩,
      ⟨X.admits, X.cas, X.clock, X.frames, X.room, X.hears, X.method, X.code, (X.here.setHeapUsed s₂.heap s₂.slotsUsed).setVm hW'.alike, X.tail, State.WarmedH.trans X.warmed hW', X.limits, X.bytes, X.same.trans (hsame.setVm s.vm)⟩,
      ⟨g, mk, s₂, L, rfl, rfl, hqc, rfl, hL, rfl, rfl⟩, ?_⟩
    show Steps p.tables e below _ ((({ U with heap := s₂.heap, slotsUsed := s₂.slotsUsed } : State).setVm s₂.vm).setTop { g with pc := g.pc + len₂, stack := v.toList ++ g.stack })
    rw [← hs₂]
    exact hsteps
  · obtain ⟨e2, q2, q3, q4, q5, q6⟩ := id hsm
    have e3 : s₂ = ({ (U.calling g mk a).setFrames s₂.frames with heap := s₂.heap, slotsUsed := s₂.slotsUsed } : State).setVm s₂.vm := by
      have : s₂ = ({ s₂ with vm := (U.calling g mk a).vm } : State).setVm s₂.vm := rfl
      rw [e2] at this
      exact this
    have hf₂ : s₂.frames = .throwing q :: .java g :: U.frames.tail := hend
    have hW' : U.WarmedH s₂.vm := hW₂
    have hs₂ : s₂ = ((({ U with heap := s₂.heap, slotsUsed := s₂.slotsUsed } : State).setVm s₂.vm).setTop g).pushFrame (.throwing q) := by
      refine e3.trans ?_
      rw [hf₂, State.calling_eq h.top, State.setFrames_setFrames, State.pushFrame, State.frames_setTop _ hr', State.setTop_of_frames _ hr', State.setFrames_setFrames, hr]
      rfl
    have hsame : U.sameButNew ({ U with heap := s₂.heap, slotsUsed := s₂.slotsUsed } : State) L mc ms := by
      refine ⟨?_, q2, q3, q4, q5, q6⟩
      obtain ⟨t, ht, -⟩ := State.frames_cons hr
      show ({ U with heap := s₂.heap, slotsUsed := s₂.slotsUsed } : State) = { U.setFrames U.frames with heap := s₂.heap, slotsUsed := s₂.slotsUsed }
      rw [State.setFrames_self ht]
    subst hg
    refine Or.inr ⟨q, ⟨(({ U with heap := s₂.heap, slotsUsed := s₂.slotsUsed } : State).setVm s₂.vm), Ls ++ L, c0 + mc, s0 + ms⟩,
      ⟨X.admits, X.cas, X.clock, X.frames, X.room, X.hears, X.method, X.code, (X.here.setHeapUsed s₂.heap s₂.slotsUsed).setVm hW'.alike, X.tail, State.WarmedH.trans X.warmed hW', X.limits, X.bytes, X.same.trans (hsame.setVm s.vm)⟩,
      ⟨g, mk, s₂, L, E, ce, rfl, rfl, hx, hce, hcv, hcl, rfl, hL, rfl, rfl⟩, ?_⟩
    show Steps p.tables e below _ (((({ U with heap := s₂.heap, slotsUsed := s₂.slotsUsed } : State).setVm s₂.vm).setTop g).pushFrame (.throwing q))
    rw [← hs₂]
    exact hsteps
end
variable {p : Program} {l : Launch} {e : Env} {R : Room} {s : State} {m : MethodId} {args : Array Value} {below : List Frame} {meth : Method} {c : Code} {T : State} {H : Heap} {locs : List Loc} {cells slots : Nat}
theorem vx_callVX (X : Stand p l e R s m args below meth c T locs cells slots) (hexec : p.tables.exec = Jvm.exec) {own C : String} {index : Nat} {y : MethodName} {bytes : ByteArray} {maxL : Nat} {ret : Option FieldType} {hh : List (Nat × Nat × Nat × Nat)}
    (hown : s.vm.findClass own = some m.cls) (hlink : (Cond.methodLink own index y).before args s = true) (hinst : (Cond.instanceMethod y).before args s = true) (hsel : (Cond.selects C y y).before args s = true)
    (hcode : (Cond.codeWith y bytes maxL ret hh).before args s = true) (hy : y.cls ≠ "java/lang/invoke/MethodHandle" ∧ y.cls ≠ "java/lang/invoke/VarHandle")
    {W9 : Nat} {Pre : Pt → Array Value → Prop} {Post : Pt → Array Value → Option Value → Pt → Prop} {PostX : Pt → Array Value → Addr → Pt → Prop} (hK : vx_Back l R p e below s args y 3 W9 Pre Post PostX)
    {b : Addr} {cellB : Cell} (hcell : T.heap[b]? = some cellB) (hobj : cellB.vm.isStatics = false) (hcls : s.vm.findClass C = some cellB.cls)
    {g : JFrame} (hg : g.method = m) (hsize : g.locals.size = c.maxLocals) {argsL rest : List Value} (hlen : ∀ sig, parseMethodDescriptor y.desc = some sig → argsL.length = sig.parameters.length)
    (hstack : g.stack = argsL.reverse ++ .ref b :: rest) (hW : 2 * g.monitorRoom + (rest.map fun v => v.category).sum ≤ W9) (hdg : decode c.code g.pc = .ok (.invokevirtual index, 3))
    (hpre : ∀ vm₁, s.WarmedH vm₁ → Pre ⟨T.setVm vm₁, locs, cells, slots⟩ (Value.ref b :: argsL).toArray) :
    (∃ (v : Option Value) (vm₁ : Vm) (B : Pt), s.WarmedH vm₁ ∧ Stand p l e R s m args below meth c B.U B.locs B.cells B.slots ∧ Post ⟨T.setVm vm₁, locs, cells, slots⟩ (Value.ref b :: argsL).toArray v B ∧
      ∀ target, Steps p.tables e below (B.U.setTop { g with pc := g.pc + 3, stack := v.toList ++ rest }) target → Steps p.tables e below (T.setTop g) target) ∨
    (∃ (q : Addr) (vm₁ : Vm) (B : Pt), s.WarmedH vm₁ ∧ Stand p l e R s m args below meth c B.U B.locs B.cells B.slots ∧ PostX ⟨T.setVm vm₁, locs, cells, slots⟩ (Value.ref b :: argsL).toArray q B ∧
      Steps p.tables e below (T.setTop g) ((B.U.setTop { g with stack := rest }).pushFrame (.throwing q))) := by
  obtain ⟨mk, methM, hnamed, hmethM, hstM, habM⟩ := Cond.instanceMethod_spec hinst
  obtain ⟨m8, methM', cM, hn8, hmethM', -, -, -, -, -, -, hsigM⟩ := Cond.codeWith_spec hcode
  cases Option.some.inj (hn8.symm.trans hnamed)
  cases hmethM.symm.trans hmethM'
  obtain ⟨c2, r2, m2, q1, q2, q3, q4, kP, hkP, hkPi⟩ := Cond.selects_spec hsel
  cases hcls.symm.trans q1
  cases (State.methodFound?_of_named hnamed hy).symm.trans q2
  cases hnamed.symm.trans q3
  have hselP : selectMethod e.platform s.vm cellB.cls mk = .method mk := by rw [Launch.admits_selectMethod X.admits]; exact q4
  obtain ⟨vm₁, X₁, hstep₁⟩ := X.invokevirtual hexec hown hlink hnamed hmethM hstM hkP hkPi hy (a := b) (cell := cellB) hcell
    (fun z h => by rw [h] at hobj; cases hobj) hselP hmethM habM hkP hkPi (g := g) hg (argsL := argsL) (rest := rest) (hlen _ hsigM) hstack hdg
  rcases hK m meth c ⟨T.setVm vm₁, locs, cells, slots⟩ { g with stack := rest } (.invokevirtual index) mk (Value.ref b :: argsL).toArray X₁ hg hsize hdg hW (X₁.named hnamed) (hpre vm₁ X₁.warmed) with ⟨v, B, X', hpost, hsteps⟩ | ⟨q, B, X', hpost, hsteps⟩
  · exact Or.inl ⟨v, vm₁, B, X₁.warmed, X', hpost, fun target h => hstep₁ _ fun acts => by rw [doInvoke_state]; exact hsteps.trans h⟩
  · exact Or.inr ⟨q, vm₁, B, X₁.warmed, X', hpost, hstep₁ _ fun acts => by rw [doInvoke_state]; exact hsteps⟩
theorem vx_callSX (X : Stand p l e R s m args below meth c T locs cells slots) (hexec : p.tables.exec = Jvm.exec) {own : String} {index : Nat} {y : MethodName} {bytes : ByteArray} {maxL : Nat} {ret : Option FieldType} {hh : List (Nat × Nat × Nat × Nat)}
    (hown : s.vm.findClass own = some m.cls) (hlink : (Cond.methodLink own index y).before args s = true) (hstat : (Cond.static y).before args s = true) (hinit : (Cond.initialized y.cls).before args s = true)
    (hcode : (Cond.codeWith y bytes maxL ret hh).before args s = true) (hy : y.cls ≠ "java/lang/invoke/MethodHandle" ∧ y.cls ≠ "java/lang/invoke/VarHandle")
    {W9 : Nat} {Pre : Pt → Array Value → Prop} {Post : Pt → Array Value → Option Value → Pt → Prop} {PostX : Pt → Array Value → Addr → Pt → Prop} (hK : vx_Back l R p e below s args y 3 W9 Pre Post PostX)
    {g : JFrame} (hg : g.method = m) (hsize : g.locals.size = c.maxLocals) {argsL rest : List Value} (hlen : ∀ sig, parseMethodDescriptor y.desc = some sig → argsL.length = sig.parameters.length)
    (hstack : g.stack = argsL.reverse ++ rest) (hW : 2 * g.monitorRoom + (rest.map fun v => v.category).sum ≤ W9) (hdg : decode c.code g.pc = .ok (.invokestatic index, 3))
    (hpre : ∀ vm₁, s.WarmedH vm₁ → Pre ⟨T.setVm vm₁, locs, cells, slots⟩ argsL.toArray) :
    (∃ (v : Option Value) (vm₁ : Vm) (B : Pt), s.WarmedH vm₁ ∧ Stand p l e R s m args below meth c B.U B.locs B.cells B.slots ∧ Post ⟨T.setVm vm₁, locs, cells, slots⟩ argsL.toArray v B ∧
      ∀ target, Steps p.tables e below (B.U.setTop { g with pc := g.pc + 3, stack := v.toList ++ rest }) target → Steps p.tables e below (T.setTop g) target) ∨
    (∃ (q : Addr) (vm₁ : Vm) (B : Pt), s.WarmedH vm₁ ∧ Stand p l e R s m args below meth c B.U B.locs B.cells B.slots ∧ PostX ⟨T.setVm vm₁, locs, cells, slots⟩ argsL.toArray q B ∧
      Steps p.tables e below (T.setTop g) ((B.U.setTop { g with stack := rest }).pushFrame (.throwing q))) := by
  obtain ⟨mk, methM, cM, hnamed, hmethM, -, -, -, -, -, -, hsigM⟩ := Cond.codeWith_spec hcode
  have hstatic : methM.isStatic = true := Cond.static_spec hnamed hmethM hstat
  obtain ⟨kP, hkP, -⟩ := className_of_methodNamed hnamed
  have hinitP : kP.init = .initialized := Cond.initialized_spec (findClass_of_methodNamed hnamed) hkP hinit
  obtain ⟨vm₁, X₁, hstep₁⟩ := X.invokestatic hexec hown hlink hnamed hmethM hstatic hkP hinitP hy (g := g) hg (argsL := argsL) (rest := rest) (hlen _ hsigM) hstack hdg
  rcases hK m meth c ⟨T.setVm vm₁, locs, cells, slots⟩ { g with stack := rest } (.invokestatic index) mk argsL.toArray X₁ hg hsize hdg hW (X₁.named hnamed) (hpre vm₁ X₁.warmed) with ⟨v, B, X', hpost, hsteps⟩ | ⟨q, B, X', hpost, hsteps⟩
  · exact Or.inl ⟨v, vm₁, B, X₁.warmed, X', hpost, fun target h => hstep₁ _ fun acts => by rw [doInvoke_state]; exact hsteps.trans h⟩
  · exact Or.inr ⟨q, vm₁, B, X₁.warmed, X', hpost, hstep₁ _ fun acts => by rw [doInvoke_state]; exact hsteps⟩
theorem vx_callVW (X : Stand p l e R s m args below meth c T locs cells slots) (hexec : p.tables.exec = Jvm.exec) {own C : String} {index : Nat} {y : MethodName} {bytes : ByteArray} {maxL : Nat} {ret : Option FieldType} {hh : List (Nat × Nat × Nat × Nat)}
    (hown : s.vm.findClass own = some m.cls) (hlink : (Cond.methodLink own index y).before args s = true) (hinst : (Cond.instanceMethod y).before args s = true) (hsel : (Cond.selects C y y).before args s = true)
    (hcode : (Cond.codeWith y bytes maxL ret hh).before args s = true) (hy : y.cls ≠ "java/lang/invoke/MethodHandle" ∧ y.cls ≠ "java/lang/invoke/VarHandle")
    {W9 : Nat} {Pre : Pt → Array Value → Prop} {Post : Pt → Array Value → Option Value → Pt → Prop} (hK : Back l R p e below s args y 3 W9 Pre Post)
    {b : Addr} {cellB : Cell} (hcell : T.heap[b]? = some cellB) (hobj : cellB.vm.isStatics = false) (hcls : s.vm.findClass C = some cellB.cls)
    {g : JFrame} (hg : g.method = m) (hsize : g.locals.size = c.maxLocals) {argsL rest : List Value} (hlen : ∀ sig, parseMethodDescriptor y.desc = some sig → argsL.length = sig.parameters.length)
    (hstack : g.stack = argsL.reverse ++ .ref b :: rest) (hW : 2 * g.monitorRoom + (rest.map fun v => v.category).sum ≤ W9) (hdg : decode c.code g.pc = .ok (.invokevirtual index, 3))
    (hpre : ∀ vm₁, s.WarmedH vm₁ → Pre ⟨T.setVm vm₁, locs, cells, slots⟩ (Value.ref b :: argsL).toArray) :
    ∃ (v : Option Value) (vm₁ : Vm) (B : Pt), s.WarmedH vm₁ ∧ Stand p l e R s m args below meth c B.U B.locs B.cells B.slots ∧ Post ⟨T.setVm vm₁, locs, cells, slots⟩ (Value.ref b :: argsL).toArray v B ∧
      ∀ target, Steps p.tables e below (B.U.setTop { g with pc := g.pc + 3, stack := v.toList ++ rest }) target → Steps p.tables e below (T.setTop g) target := by
  obtain ⟨mk, methM, hnamed, hmethM, hstM, habM⟩ := Cond.instanceMethod_spec hinst
  obtain ⟨m8, methM', cM, hn8, hmethM', -, -, -, -, -, -, hsigM⟩ := Cond.codeWith_spec hcode
  cases Option.some.inj (hn8.symm.trans hnamed)
  cases hmethM.symm.trans hmethM'
  obtain ⟨c2, r2, m2, q1, q2, q3, q4, kP, hkP, hkPi⟩ := Cond.selects_spec hsel
  cases hcls.symm.trans q1
  cases (State.methodFound?_of_named hnamed hy).symm.trans q2
  cases hnamed.symm.trans q3
  have hselP : selectMethod e.platform s.vm cellB.cls mk = .method mk := by rw [Launch.admits_selectMethod X.admits]; exact q4
  obtain ⟨vm₁, X₁, hstep₁⟩ := X.invokevirtual hexec hown hlink hnamed hmethM hstM hkP hkPi hy (a := b) (cell := cellB) hcell
    (fun z h => by rw [h] at hobj; cases hobj) hselP hmethM habM hkP hkPi (g := g) hg (argsL := argsL) (rest := rest) (hlen _ hsigM) hstack hdg
  obtain ⟨v, B, X', hpost, hsteps⟩ := hK m meth c ⟨T.setVm vm₁, locs, cells, slots⟩ { g with stack := rest } (.invokevirtual index) mk (Value.ref b :: argsL).toArray X₁ hg hsize hdg hW (X₁.named hnamed) (hpre vm₁ X₁.warmed)
  exact ⟨v, vm₁, B, X₁.warmed, X', hpost, fun target h => hstep₁ _ fun acts => by rw [doInvoke_state]; exact hsteps.trans h⟩
abbrev vx_CVW (R : Room) (s : State) (args : Array Value) (own C : String) (index : Nat) (y : MethodName) (bytes : ByteArray) (maxL : Nat) (ret : Option FieldType) (hh : List (Nat × Nat × Nat × Nat)) (ws : List Cond) (rm : Room) (mc ms n : Nat) : Prop :=
  (rm.cells = mc ∧ rm.slots = ms ∧ rm.frames + 1 ≤ R.frames ∧ 8 + (maxL + 11) + rm.locals ≤ R.locals ∧ (∀ w ∈ ws, ∀ (a' : Array Value) (U : State), s.WarmedH U.vm → w.before a' U = true) ∧ Cond.codeWith y bytes maxL ret hh ∈ ws) ∧
  (Cond.codeWith y bytes maxL ret hh).before args s = true ∧ (Cond.initialized y.cls).before args s = true ∧ (y.cls ≠ "java/lang/invoke/MethodHandle" ∧ y.cls ≠ "java/lang/invoke/VarHandle") ∧
  (∀ sig, parseMethodDescriptor y.desc = some sig → n = sig.parameters.length) ∧ (Cond.methodLink own index y).before args s = true ∧ (Cond.instanceMethod y).before args s = true ∧ (Cond.selects C y y).before args s = true
theorem vx_cwVW {own C : String} {index maxL mc ms : Nat} {y : MethodName} {bytes : ByteArray} {ret : Option FieldType} {hh : List (Nat × Nat × Nat × Nat)} {Ts ws ws' : List Cond} {rm : Room} (n : Nat) (ht : ∀ w ∈ Ts, w.before args s = true) (hT : GoodIn Ts (wsV own index C y ws)) (hw : ws = Cond.codeWith y bytes maxL ret hh :: ws') (hrc : rm.cells = mc) (hrs : rm.slots = ms)
    (hd : y.cls = C ∧ y.cls ≠ "java/lang/invoke/MethodHandle" ∧ y.cls ≠ "java/lang/invoke/VarHandle" ∧ (parseMethodDescriptor y.desc).map (fun d => d.parameters.length) = some n) (hR : rm.frames + 1 ≤ R.frames ∧ 8 + (maxL + 11) + rm.locals ≤ R.locals) :
    vx_CVW R s args own C index y bytes maxL ret hh ws rm mc ms n := by
  obtain ⟨hC, hd⟩ := hd
  subst hC
  have ok : ∀ w ∈ wsV own index y.cls y ws, w.before args s = true := fun w h => ht w (hT w h).1
  have hG : GoodIn Ts ws := fun w h => hT w (by unfold wsV; exact List.mem_append_right _ h)
  have hc : Cond.codeWith y bytes maxL ret hh ∈ ws := by rw [hw]; exact List.mem_cons_self
  refine ⟨⟨hrc, hrs, hR.1, hR.2, pay_in ht hG, hc⟩, ht _ (hG _ hc).1, ok _ (by simp [wsV]), ⟨hd.1, hd.2.1⟩, fun sig h => ?_, ok _ (by simp [wsV]), ok _ (by simp [wsV]), ok _ (by simp [wsV])⟩
  have h2 := hd.2.2
  rw [h] at h2
  exact (Option.some.inj h2).symm
theorem vx_runVW {y : MethodName} {bytes cc : ByteArray} {maxL nL mc ms n index : Nat} {ret : Option FieldType} {hh : List (Nat × Nat × Nat × Nat)} {ws : List Cond} {rm : Room} {Pc : Array Value → State → Prop} {Qc : Array Value → State → Outcome → State → Prop} {free : Addr → Prop} {Ts : List Cond} {own C : String} {b : Addr} {As rest : List Value} {g : JFrame}
    (S : CallFix p m c cc nL s args Ts own) (hM : Met l y ws rm Pc Qc mc ms free) (cw : vx_CVW R s args own C index y bytes maxL ret hh ws rm mc ms n) (hp : PreV s H C b Pc As)
    (hg : g.method = m) (hn : As.length = n) (hsize : g.locals.size = nL) (hstack : g.stack = As.reverse ++ .ref b :: rest) (hW : 2 * g.monitorRoom + (rest.map fun v => v.category).sum ≤ 8) (hdg : decode cc g.pc = .ok (.invokevirtual index, 3)) (hf : cells + mc ≤ R.cells ∧ slots + ms ≤ R.slots) :
    va_Run p l e R s m args below meth c H locs cells slots mc ms g rest (Qc (Value.ref b :: As).toArray) free := by
  obtain ⟨⟨hrc, hrs, hfr, hlo, hws, hcw⟩, hcode, hini, hy, hlen, hl, hin, hse⟩ := cw
  have hK : Back l R p e below s args y 3 8 (PreOf R mc ms Pc) (PostOf Qc mc ms free) := va_backW (hh := hh) (bytes := bytes) (maxL := maxL) (ret := ret) hM hp.1 hrc hrs hfr hlo hws hcw (fun a' U hW => word_at hW (Or.inl (by first | rfl | simp [Cond.onTables, Cond.keeps, Cond.steady])) hini)
  obtain ⟨hx, hb, hml, ho, -⟩ := S
  obtain ⟨-, ⟨cellB, hcB, hoB, hclB⟩, hPc⟩ := hp
  intro T hT X
  obtain ⟨v, vm₁, ⟨U', l2, c2, s2⟩, hW₁, X', ⟨g', mk, t, L, e1, e2, hq, h1, hL, h2, h3⟩, st⟩ := vx_callVW X hx (C := C) (hh := hh) (bytes := bytes) (maxL := maxL) (ret := ret) ho hl hin hse hcode hy hK (by rw [hT]; exact hcB) hoB hclB hg (hsize.trans hml.symm) (argsL := As) (rest := rest) (fun sig h => hn.trans (hlen sig h)) hstack hW (by rw [hb]; exact hdg)
    (fun vm₁ hW₁ => ⟨hf.1, hf.2, hPc (T.setVm vm₁) hT hW₁⟩)
  dsimp only [Pt.U, Pt.locs, Pt.cells, Pt.slots] at X' e1 e2 h1 h2 h3 st
  subst h1; subst h2; subst h3
  exact ⟨v, (T.setVm vm₁).calling g' mk (Value.ref b :: As).toArray, t, U', L, hT, X', hL, e1, e2, hq, st⟩
section
variable {y : MethodName} {bytes cc : ByteArray} {maxL nL mc ms n index : Nat} {ret : Option FieldType} {ws : List Cond} {rm : Room} {Pc : Array Value → State → Prop} {Qc : Array Value → State → Outcome → State → Prop} {XC : String → State → State → Prop} {free : Addr → Prop} {Ts : List Cond} {own C : String} {b : Addr} {As rest : List Value} {g : JFrame}
theorem vx_runVX {hh : List (Nat × Nat × Nat × Nat)} (S : CallFix p m c cc nL s args Ts own) (hM : vx_Met l y ws rm Pc Qc XC mc ms free) (cw : vx_CVW R s args own C index y bytes maxL ret hh ws rm mc ms n) (hp : PreV s H C b Pc As)
    (hg : g.method = m) (hn : As.length = n) (hsize : g.locals.size = nL) (hstack : g.stack = As.reverse ++ .ref b :: rest) (hW : 2 * g.monitorRoom + (rest.map fun v => v.category).sum ≤ 8) (hdg : decode cc g.pc = .ok (.invokevirtual index, 3)) (hf : cells + mc ≤ R.cells ∧ slots + ms ≤ R.slots) :
    vx_Run p l e R s m args below meth c H locs cells slots mc ms g rest (Qc (Value.ref b :: As).toArray) XC free := by
  obtain ⟨⟨hrc, hrs, hfr, hlo, hws, hcw⟩, hcode, hini, hy, hlen, hl, hin, hse⟩ := cw
  have hK : vx_Back l R p e below s args y 3 8 (PreOf R mc ms Pc) (PostOf Qc mc ms free) (vx_Post XC mc ms free) := vx_backW (hh := hh) (bytes := bytes) (maxL := maxL) (ret := ret) hM hp.1 hrc hrs hfr hlo hws hcw (fun a' U hW => word_at hW (Or.inl (by first | rfl | simp [Cond.onTables, Cond.keeps, Cond.steady])) hini)
  obtain ⟨hx, hb, hml, ho, -⟩ := S
  obtain ⟨-, ⟨cellB, hcB, hoB, hclB⟩, hPc⟩ := hp
  intro T hT X
  rcases vx_callVX X hx (C := C) (hh := hh) (bytes := bytes) (maxL := maxL) (ret := ret) ho hl hin hse hcode hy hK (by rw [hT]; exact hcB) hoB hclB hg (hsize.trans hml.symm) (argsL := As) (rest := rest) (fun sig h => hn.trans (hlen sig h)) hstack hW (by rw [hb]; exact hdg)
    (fun vm₁ hW₁ => ⟨hf.1, hf.2, hPc (T.setVm vm₁) hT hW₁⟩) with ⟨v, vm₁, ⟨U', l2, c2, s2⟩, hW₁, X', ⟨g', mk, t, L, e1, e2, hq, h1, hL, h2, h3⟩, st⟩ | ⟨q, vm₁, ⟨U', l2, c2, s2⟩, hW₁, X', ⟨g', mk, t, L, E, ce, e1, e2, hq, hce, hcv, hcl, h1, hL, h2, h3⟩, st⟩
  · dsimp only [Pt.U, Pt.locs, Pt.cells, Pt.slots] at X' e1 e2 h1 h2 h3 st
    subst h1; subst h2; subst h3
    exact Or.inl ⟨v, (T.setVm vm₁).calling g' mk (Value.ref b :: As).toArray, t, U', L, hT, X', hL, e1, e2, hq, st⟩
  · dsimp only [Pt.U, Pt.locs, Pt.cells, Pt.slots] at X' e1 e2 h1 h2 h3 st hcl
    subst h1; subst h2; subst h3
    exact Or.inr ⟨q, (T.setVm vm₁).calling g' mk (Value.ref b :: As).toArray, t, U', L, E, ce, hT, X', hL, e1, e2, hq, hce, hcv, vx_cls hW₁ hcl, st⟩
theorem vx_runSX {hh : List (Nat × Nat × Nat × Nat)} (S : CallFix p m c cc nL s args Ts own) (hM : vx_Met l y ws rm Pc Qc XC mc ms free) (cw : vx_CSW R s args own index y bytes maxL ret hh ws rm mc ms n) (hp : PreS s H Pc As)
    (hg : g.method = m) (hn : As.length = n) (hsize : g.locals.size = nL) (hstack : g.stack = As.reverse ++ rest) (hW : 2 * g.monitorRoom + (rest.map fun v => v.category).sum ≤ 8) (hdg : decode cc g.pc = .ok (.invokestatic index, 3)) (hf : cells + mc ≤ R.cells ∧ slots + ms ≤ R.slots) :
    vx_Run p l e R s m args below meth c H locs cells slots mc ms g rest (Qc As.toArray) XC free := by
  obtain ⟨⟨hrc, hrs, hfr, hlo, hws, hcw⟩, hcode, hini, hy, hlen, hl, hstt⟩ := cw
  have hK : vx_Back l R p e below s args y 3 8 (PreOf R mc ms Pc) (PostOf Qc mc ms free) (vx_Post XC mc ms free) := vx_backW (hh := hh) (bytes := bytes) (maxL := maxL) (ret := ret) hM hp.1 hrc hrs hfr hlo hws hcw (fun a' U hW => word_at hW (Or.inl (by first | rfl | simp [Cond.onTables, Cond.keeps, Cond.steady])) hini)
  obtain ⟨hx, hb, hml, ho, -⟩ := S
  intro T hT X
  rcases vx_callSX X hx (hh := hh) (bytes := bytes) (maxL := maxL) (ret := ret) ho hl hstt hini hcode hy hK hg (hsize.trans hml.symm) (argsL := As) (rest := rest) (fun sig h => hn.trans (hlen sig h)) hstack hW (by rw [hb]; exact hdg)
    (fun vm₁ hW₁ => ⟨hf.1, hf.2, hp.2 (T.setVm vm₁) hT hW₁⟩) with ⟨v, vm₁, ⟨U', l2, c2, s2⟩, hW₁, X', ⟨g', mk, t, L, e1, e2, hq, h1, hL, h2, h3⟩, st⟩ | ⟨q, vm₁, ⟨U', l2, c2, s2⟩, hW₁, X', ⟨g', mk, t, L, E, ce, e1, e2, hq, hce, hcv, hcl, h1, hL, h2, h3⟩, st⟩
  · dsimp only [Pt.U, Pt.locs, Pt.cells, Pt.slots] at X' e1 e2 h1 h2 h3 st
    subst h1; subst h2; subst h3
    exact Or.inl ⟨v, (T.setVm vm₁).calling g' mk As.toArray, t, U', L, hT, X', hL, e1, e2, hq, st⟩
  · dsimp only [Pt.U, Pt.locs, Pt.cells, Pt.slots] at X' e1 e2 h1 h2 h3 st hcl
    subst h1; subst h2; subst h3
    exact Or.inr ⟨q, (T.setVm vm₁).calling g' mk As.toArray, t, U', L, E, ce, hT, X', hL, e1, e2, hq, hce, hcv, vx_cls hW₁ hcl, st⟩
end
end VXH
theorem vx_ofWH {l : Launch} {y : MethodName} {ws ws' : List Cond} {rm : Room} {Pc : Array Value → State → Prop} {Qc : Array Value → State → Outcome → State → Prop} {XC : String → State → State → Prop} {mc ms : Nat} {free : Addr → Prop} {cc : ByteArray} {maxL : Nat} {ret : Option FieldType} {hh : List (Nat × Nat × Nat × Nat)}
    (hy : plainName y.cls = true) (hw : ws = Cond.codeWith y cc maxL ret hh :: ws')
    (body : ∀ p e s m args below meth c s₁, BodyLoose p l y (headSpec ws rm) cc maxL ret e s m args below meth c s₁ → c.maxLocals = maxL → Pc args s →
      W p l e (headSpec ws rm).room s m args below meth c s.heap [] 0 0 (vx_MQ below Qc XC args s mc ms free) (entryFrame m args maxL)) : vx_Met l y ws rm Pc Qc XC mc ms free := by
  refine MetFree.of_bodyS (code := cc) (maxLocals := maxL) (ret := ret) hy ?_ ?_
  · intro args s m h hn
    obtain ⟨m9, meth, c, hn9, h1, h2, h3, h4, -, h5, h6, -⟩ := Cond.codeWith_spec (atoms_spec (ws := ws) h _ (by rw [hw]; exact List.mem_cons_self))
    cases hn.symm.trans hn9
    exact ⟨meth, c, h1, h2, h3, h4, h5, h6⟩
  · intro p e s m args below meth c s₁ B hml hP _
    have hh0 : s₁.heap = s.heap := by rw [B.state]; rfl
    obtain ⟨t, a1, o, b1, b2, b3⟩ := body p e s m args below meth c s₁ B hml hP s₁ hh0 (Stand.of_body B)
    exact ⟨t, o, a1, b1, b2, b3⟩
/-! ===== END ===== -/
/-! ===== BEGIN what the machine throws by itself, no traces kept ===== -/
section VXM
set_option maxHeartbeats 1000000 in
/-- the machine throws cls with the message text, no traces kept: from its note over the frame g to 'throwing' over the same frame (follows the proofs of Stand.vmThrowsMessage, Shelf/KitTracedVmS.lean, and Stand.throwsMessageColdBareV, StandMessageColdV.lean, without the step out of the frame) -/
theorem vx_vmAt {p : Program} {l : Launch} {e : Env} {R : Room} {s : State} {m₀ : MethodId} {args : Array Value} {below : List Frame} {meth : Method} {c : Code} {W : State} {locs : List Loc} {cells slots : Nat}
    (X : Stand p l e R s m₀ args below meth c W locs cells slots) (hexec : p.tables.exec = Jvm.exec) (htr : e.platform.stackTraces = false) {cls : String} {names : List String} {text : String}
    (hcls : Bundle.fit cls = true) (hnames : ∀ n ∈ names, Bundle.fit n = true) (hsoe : (cls == "java/lang/StackOverflowError") = false) (hoom : (cls == "java/lang/OutOfMemoryError") = false)
    (h : ∀ a ∈ Bundle.messageArmAtoms cls names, a.before args s = true)
    (hlocs : ∀ x ∈ locs, ∀ cell, s.heap[x.base]? = some cell → cell.vm.isStatics = false)
    (htext : (text == notModelled) = false) (hlimit : ¬ (stringBytes (stringToUtf16 text)).size > e.platform.arrayLengthLimit) (hheap : ¬ (stringBytes (stringToUtf16 text)).size * componentBytes .byte > e.platform.maxHeapBytes)
    {g : JFrame} (hg : g.method = m₀) (hsize : g.locals.size = c.maxLocals)
    (hRframes : names.length + 4 < R.frames) (hRlocals : 2 * g.monitorRoom + (g.stack.map fun v => v.category).sum + 10240 ≤ R.locals) (hshort : 13 * names.length + 55 ≤ 10240)
    (hRcells : cells + 3 ≤ R.cells) (hRslots : slots + ((stringBytes (stringToUtf16 text)).size + 4 + 6) ≤ R.slots) (hlocks : meth.locks = false) :
    ∃ (S : State) (q : Addr) (ce : Cell), (∀ target, Steps p.tables e below ((S.setTop g).pushFrame (.throwing q)) target → Steps p.tables e below ((W.setTop g).pushFrame (.throwNew cls (some text) none)) target) ∧
      Stand p l e R s m₀ args below meth c S locs (cells + 3) (slots + ((stringBytes (stringToUtf16 text)).size + 4 + 6)) ∧ S.heap[q]? = some ce ∧ s.vm.findClass cls = some ce.cls ∧ ce.vm = .none := by
  have howns : e.platform.frameOwnsMonitors = true := by rw [X.admits.platform]
  have hfin : e.platform.finalization = false := by rw [X.admits.platform]
  have hpl : e.platform.magicAccessors = ({} : Platform).magicAccessors := by rw [X.admits.platform]
  have a : ∀ x, x ∈ Bundle.messageArmAtoms cls names → x.holds args s none s [] = true := fun x hx => h x hx
  obtain ⟨T, Z0, L, -, Y⟩ := ThrowableC.of_atoms (args := args) howns hfin hpl (fun x hx => h x (by simp [Bundle.messageArmAtoms, hx]))
  obtain ⟨Z, M, LZ, LM, hnZ⟩ := Init0T.ofS_atoms (args := args) hpl L Y (fun x hx => h x (by simp [Bundle.messageArmAtoms, hx]))
  obtain ⟨P1, Ps, hlen, L1, hL, hP1m, hlink1, hlink⟩ := Bundle.chainS (args := args) hpl hnZ names cls hcls hnames (fun x hx => h x (by simp [Bundle.messageArmAtoms, hx]))
  obtain ⟨Zs, LZs, hn4, hfitv, hfitc⟩ := StringT.of_atoms (args := args) (fun x hx => h x (by simp [Bundle.messageArmAtoms, hx]))
  have hfound : s.vm.findClass cls = some P1.m.cls := findClass_of_methodNamed hP1m
  obtain ⟨c1, kX, hc1, hk, hord, -, -, hn6⟩ := Cond.instantiable_spec (a (.instantiable cls 6) (by simp [Bundle.messageArmAtoms]))
  cases Option.some.inj (hc1.symm.trans hfound)
  have hinit := Cond.initialized_spec hfound hk (a (.initialized cls) (by simp [Bundle.messageArmAtoms]))
  have hctor : kX.findMethod "<init>" "(Ljava/lang/String;)V" = some P1.m.idx := findMethod_of_methodNamed hP1m hk
  have hsel0 : selectMethod e.platform s.vm P1.m.cls T.fill0 = .method T.fill0 := by
    obtain ⟨c2, r2, m2, q1, q2, q3, q4, -⟩ := Cond.selects_spec (a (.selects cls Bundle.tFill0 Bundle.tFill0) (by simp [Bundle.messageArmAtoms]))
    cases Option.some.inj (q1.symm.trans hfound)
    cases Option.some.inj (q2.symm.trans (State.methodFound?_of_named Y.fill0 (by decide)))
    cases Option.some.inj (q3.symm.trans Y.fill0)
    rw [Launch.admits_selectMethod X.admits]; exact q4
  have hselF : selectMethod e.platform s.vm P1.m.cls T.fill = .method T.fill := by
    obtain ⟨c2, r2, m2, q1, q2, q3, q4, -⟩ := Cond.selects_spec (a (.selects cls Bundle.tFill Bundle.tFill) (by simp [Bundle.messageArmAtoms]))
    cases Option.some.inj (q1.symm.trans hfound)
    cases Option.some.inj (q2.symm.trans (State.methodFound?_of_named Y.fill (by decide)))
    cases Option.some.inj (q3.symm.trans Y.fill)
    rw [Launch.admits_selectMethod X.admits]; exact q4
  obtain ⟨cellS0, hcS0, hiss⟩ := Y.statics
  obtain ⟨u0, hu0⟩ := Cond.staticRefV Y.unassigned L.unassignedStatic L.statics hcS0 hiss (a (.isRef (.static Bundle.tN "UNASSIGNED_STACK" Bundle.steD)) (by simp [Bundle.messageArmAtoms]))
  obtain ⟨sen, hsen⟩ := Cond.staticRefV Y.sentinel L.sentinelStatic L.statics hcS0 hiss (a (.isRef (.static Bundle.tN "SUPPRESSED_SENTINEL" Bundle.listD)) (by simp [Bundle.messageArmAtoms]))
  obtain ⟨ci198, i198, fB, hk198, hg198, ha198, hsB, -, hnB, htB, hffB⟩ := Cond.ownField (t := .object "java/lang/Object") Y.found L.cls (by decide +kernel) (a (.fieldLink Bundle.tN 198 Bundle.tN "backtrace" "Ljava/lang/Object;") (by simp [Bundle.messageArmAtoms])) (a (.lays Bundle.tN Bundle.tN "backtrace" "Ljava/lang/Object;") (by simp [Bundle.messageArmAtoms])) e.platform hpl
  obtain ⟨cellS, hcS', heS, -, hkeep⟩ := X.same.2.2.2.2.2 T.aS cellS0 hcS0
  have hcellS : W.heap[T.aS]? = some cellS := hcS'
  have hout' : ∀ i, (⟨T.aS, i⟩ : Loc) ∉ locs := fun i hmem => by
    have := hlocs _ hmem cellS0 hcS0
    rw [hiss] at this; cases this
  have hknownS : cellS.vm ≠ .unknown := by
    rw [heS]; intro hu
    rw [show cellS0.vm = .unknown from hu] at hiss
    cases hiss
  have hvU : cellS.slots[T.fUnassigned.slot]? = some u0.v := by rw [hkeep _ (hout' _)]; exact hu0
  have hvSen : cellS.slots[T.fSentinel.slot]? = some sen.v := by rw [hkeep _ (hout' _)]; exact hsen
  obtain ⟨iM, hffM⟩ := Y.msg
  obtain ⟨tyC, dC, hdC, hdnC⟩ := Cond.laysAt hfound hk Y.cause (a (.lays cls Bundle.tN "cause" "Ljava/lang/Throwable;") (by simp [Bundle.messageArmAtoms]))
  obtain ⟨tyS, dS, hdS, hdnS⟩ := Cond.laysAt hfound hk Y.stack (a (.lays cls Bundle.tN "stackTrace" Bundle.steD) (by simp [Bundle.messageArmAtoms]))
  obtain ⟨tyP, dP, hdP, hdnP⟩ := Cond.laysAt hfound hk Y.supp (a (.lays cls Bundle.tN "suppressedExceptions" Bundle.listD) (by simp [Bundle.messageArmAtoms]))
  obtain ⟨tyM, dM, hdM, hdnM⟩ := Cond.laysAt hfound hk hffM (a (.lays cls Bundle.tN "detailMessage" "Ljava/lang/String;") (by simp [Bundle.messageArmAtoms]))
  obtain ⟨tyB, dB, hdB, hdnB⟩ := Cond.laysAt hfound hk hffB (a (.lays cls Bundle.tN "backtrace" "Ljava/lang/Object;") (by simp [Bundle.messageArmAtoms]))
  have bC := Cond.laysApart hdB hdC hdnB hdnC (by rw [hnB, Y.causeName]; decide)
  have bS := Cond.laysApart hdB hdS hdnB hdnS (by rw [hnB, Y.stackName]; decide)
  have bP := Cond.laysApart hdB hdP hdnB hdnP (by rw [hnB, Y.suppName]; decide)
  have hbk : ((preparedCellV T.toThrowableT (freshCell P1.m.cls kX) (W.heap.size + 2) u0 sen).withEntry W.cur).slots[fB.slot]? = some .null := by
    have := fresh_default (c := P1.m.cls) tyB
    rw [htB] at this
    simpa [preparedCellV, Cell.setSlot, Cell.withEntry, Array.getElem?_setIfInBounds, bC, bS, bP, bC.symm, bS.symm, bP.symm, defaultValue] using this
  have tkC := Takes.of_laid (v := .ref (W.heap.size + 2)) hk hord tyC (by rw [Y.causeType]; rfl)
  have tkS := Takes.of_laid (v := u0.v) hk hord tyS (by rw [Y.stackType]; exact fits_refV_array _ u0)
  have tkP := Takes.of_laid (v := sen.v) hk hord tyP (by rw [Y.suppType]; exact fits_refV_object _ sen)
  have tkM := Takes.of_laid (v := .ref (W.heap.size + 1)) hk hord tyM (by rw [Y.msgType]; rfl)
  have hskip : SkipFacts T e.platform s (fun u => u) u0 ((preparedCellV T.toThrowableT (freshCell P1.m.cls kX) (W.heap.size + 2) u0 sen).withEntry W.cur) := ⟨{ ci198 := ci198, i198 := i198, fBack := fB }, ⟨hk198, hg198, ha198, hsB⟩, hbk, fun _ _ => rfl⟩
  have h0 : At W g.method c below := by rw [hg]; exact X.here
  obtain ⟨hbeyond, hfreeW⟩ := X.vmMayThrow hsize (.throwNew cls (some text) none) (fun f hf => by cases hf) rfl hRlocals
  have hfr' : W.frames.length + Ps.length + 4 < (e.platform.stackLimits W.me).1 := by have := X.framesAbove hRframes; omega
  have hwd' : (stackUse (.java g :: W.frames.tail)).2 + 13 * Ps.length + 55 ≤ (e.platform.stackLimits W.me).2 := by have := X.stackAbove hsize (K := 13 * Ps.length + 55) (by omega); omega
  have hslots : W.slotsUsed + (stringBytes (stringToUtf16 text)).size + Zs.kS.instanceTypes.size + kX.instanceTypes.size ≤ e.platform.maxSlots := by
    have := X.slotsAbove hRslots
    rw [hn4, hn6]
    omega
  obtain ⟨vm', hW', st⟩ := Steps.vmThrowsMessageColdByV p (s₀ := s) (S := W) (g := g) h0 hexec T L Z LZ M LM X.warmed (t := W.cur) rfl Zs LZs P1 L1 Ps hL hlink1 hlink hsoe hoom hfound hk hinit hord hctor
    (Launch.admits_hotImplicitExceptions X.admits) hbeyond hfreeW htext hlimit hheap (X.cellsAbove hRcells) hslots (hfitv _) (hfitc _)
    (Nn := fun u => u) heapOnly_id (fun _ _ => rfl) (fun _ => rfl) (fun u x y => setCell_twice _ _ _ _) (fun _ => Nat.le_refl _) (cN := ((preparedCellV T.toThrowableT (freshCell P1.m.cls kX) (W.heap.size + 2) u0 sen).withEntry W.cur))
    hsel0 hcellS hknownS hvU tkS (fun _ hu => hu) (fun _ hu => hu) rfl rfl rfl (by simp [preparedCellV, Cell.setSlot, Cell.withEntry]) hskip (fun _ _ hA hW _ hroom _ hrest => L.nativeOff p htr hA hW hroom hrest) hselF hvSen tkC tkP tkM Y.objLocals rfl hfr' hwd'
  rw [plainBareV_eq T.toThrowableT (W.heap.size + 2) u0 sen (.ref (W.heap.size + 1)) W.cur rfl rfl] at st
  obtain ⟨-, -, w3, w4, -, -, -⟩ := withThrown_facts e.platform W Zs text P1.m.cls kX
  have X3 := ((X.pushed (bytesOf Zs.cB (stringToUtf16 text))).pushed (stringAt Zs.cS Zs.kS Zs.fv Zs.fc (stringToUtf16 text) W.heap.size)).pushed (freshCell P1.m.cls kX)
  rw [← withString_eq] at X3
  have X4 := X3.noted hW'
  have ha : (W.heap.size + 2) < ((withThrown W Zs text P1.m.cls kX).setVm vm').heap.size := by show _ < (withThrown W Zs text P1.m.cls kX).heap.size; rw [w3]; omega
  have hcell : ((withThrown W Zs text P1.m.cls kX).setVm vm').heap[(W.heap.size + 2)]? = some (freshCell P1.m.cls kX) := w4
  have X5 := ((((X4.stored hcell T.fCause.slot (.ref (W.heap.size + 2))).storedAgain ha T.fStack.slot u0.v).storedAgain ha T.fSupp.slot sen.v).storedAgain ha T.fStack.slot u0.v).storedAgain ha T.fMsg.slot (.ref (W.heap.size + 1))
  obtain ⟨g₁, hfrM⟩ := X5.frames_eq
  have hU : ((((withThrown W Zs text P1.m.cls kX).setVm vm').setCell (W.heap.size + 2) (plainBareV T.toThrowableT (freshCell P1.m.cls kX) (W.heap.size + 2) u0 sen (.ref (W.heap.size + 1)))).setTop g).pushFrame (.throwing (W.heap.size + 2)) = (((withThrown W Zs text P1.m.cls kX).setVm vm').setCell (W.heap.size + 2) (plainBareV T.toThrowableT (freshCell P1.m.cls kX) (W.heap.size + 2) u0 sen (.ref (W.heap.size + 1)))).setFrames (.throwing (W.heap.size + 2) :: .java g :: below) := by
    rw [State.pushFrame, State.frames_setTop _ hfrM, State.setTop_of_frames _ hfrM, State.setFrames_setFrames]
  have b1 : (bytesOf Zs.cB (stringToUtf16 text)).slots.size = (stringBytes (stringToUtf16 text)).size := by
    rw [(Cell.writeAll_facts _ _).2.2]; simp [bytes0]
  have b2 : (stringAt Zs.cS Zs.kS Zs.fv Zs.fc (stringToUtf16 text) W.heap.size).slots.size = 4 := by simp [string0, Cell.setSlot, hn4]
  have b3 : (freshCell P1.m.cls kX).slots.size = 6 := by simp [hn6]
  rw [b1, b2, b3] at X5
  have e9 : slots + (stringBytes (stringToUtf16 text)).size + 4 + 6 = slots + ((stringBytes (stringToUtf16 text)).size + 4 + 6) := by omega
  rw [e9] at X5
  simp only [List.append_assoc, List.cons_append, List.nil_append] at X5
  refine ⟨((withThrown W Zs text P1.m.cls kX).setVm vm').setCell (W.heap.size + 2) (plainBareV T.toThrowableT (freshCell P1.m.cls kX) (W.heap.size + 2) u0 sen (.ref (W.heap.size + 1))), W.heap.size + 2, _, fun target ht => st _ (by rw [X.tail, ← hU]; exact ht),
    X5.forget (fun y hy => ?_), heapAt_setCell_self _ ha, hfound, rfl⟩
  simp only [List.mem_cons, List.not_mem_nil, or_false] at hy
  have hge : s.heap.size ≤ W.heap.size := X.same.2.1
  rcases hy with rfl | rfl | rfl | rfl | rfl <;> exact Nat.le_trans hge (Nat.le_add_right _ 2)
set_option maxHeartbeats 1000000 in
/-- the machine throws NullPointerException, no traces kept: from its note over the frame g to 'throwing' over the same frame (follows the proof of Stand.vmThrowsNpe, Shelf42/KT2.lean; throwsNpeColdBareVAt, Shelf42/NT91.lean, called) -/
theorem vx_npeAt {p : Program} {l : Launch} {e : Env} {R : Room} {s : State} {m₀ : MethodId} {args : Array Value} {below : List Frame} {meth : Method} {c : Code} {W : State} {locs : List Loc} {cells slots : Nat}
    (X : Stand p l e R s m₀ args below meth c W locs cells slots) (hexec : p.tables.exec = Jvm.exec) (htr : e.platform.stackTraces = false) {n : Nat}
    (h : ∀ a ∈ Bundle.npeArmAtoms n, a.before args s = true)
    (hlocs : ∀ x ∈ locs, ∀ cell, s.heap[x.base]? = some cell → cell.vm.isStatics = false)
    {g : JFrame} (hg : g.method = m₀) (hsize : g.locals.size = c.maxLocals)
    (hRframes : 7 < R.frames) (hRlocals : 2 * g.monitorRoom + (g.stack.map fun v => v.category).sum + 10240 ≤ R.locals)
    (hRcells : cells + 1 ≤ R.cells) (hRslots : slots + n ≤ R.slots) (hlocks : meth.locks = false) :
    ∃ (S : State) (q : Addr) (ce : Cell), (∀ target, Steps p.tables e below ((S.setTop g).pushFrame (.throwing q)) target → Steps p.tables e below ((W.setTop g).pushFrame (.throwNew "java/lang/NullPointerException" none none)) target) ∧
      Stand p l e R s m₀ args below meth c S locs (cells + 1) (slots + n) ∧ S.heap[q]? = some ce ∧ s.vm.findClass "java/lang/NullPointerException" = some ce.cls ∧ ce.vm = .none := by
  have howns : e.platform.frameOwnsMonitors = true := by rw [X.admits.platform]
  have hfin : e.platform.finalization = false := by rw [X.admits.platform]
  have hpl : e.platform.magicAccessors = ({} : Platform).magicAccessors := by rw [X.admits.platform]
  have hpl2 : e.platform.arrayCloneIsPublic = true := by rw [X.admits.platform]
  have a' : ∀ x, x ∈ Bundle.npeArmAtoms n → x.holds args s none s [] = true := fun x hx => h x hx
  obtain ⟨T, Z, L, LZ, Y⟩ := ThrowableC.of_atoms (args := args) howns hfin hpl (fun x hx => h x (by simp [Bundle.npeArmAtoms, hx]))
  obtain ⟨N, LN, hcN, hnNF, hordN, hffS⟩ := NpeC.of_atoms (args := args) hpl hpl2 L Y (fun x hx => h x (by simp [Bundle.npeArmAtoms, hx]))
  obtain ⟨P1, L1, hP1m, hP1s⟩ := PassC.of_atoms (args := args) (s := s) hpl (X := Bundle.nN) (Y := Bundle.rN) (by decide) (by decide) LibCode.NullPointerException.Init0.at_0 LibCode.NullPointerException.Init0.at_1 LibCode.NullPointerException.Init0.at_4 (fun x hx => h x (by simp [Bundle.npeArmAtoms, hx]))
  obtain ⟨PR, LR, hPRm, hPRs⟩ := PassC.of_atoms (args := args) (s := s) hpl (X := Bundle.rN) (Y := Bundle.eN) (by decide) (by decide) LibCode.RuntimeException.Init0.at_0 LibCode.RuntimeException.Init0.at_1 LibCode.RuntimeException.Init0.at_4 (fun x hx => h x (by simp [Bundle.npeArmAtoms, hx]))
  obtain ⟨PE, LEx, hPEm, hPEs⟩ := PassC.of_atoms (args := args) (s := s) hpl (X := Bundle.eN) (Y := Bundle.tN) (by decide) (by decide) LibCode.Exception.Init0.at_0 LibCode.Exception.Init0.at_1 LibCode.Exception.Init0.at_4 (fun x hx => h x (by simp [Bundle.npeArmAtoms, hx]))
  have hfound : s.vm.findClass Bundle.nN = some P1.m.cls := findClass_of_methodNamed hP1m
  have ecls : N.cN = P1.m.cls := Option.some.inj (hcN.symm.trans hfound)
  have hk : s.vm.classes[P1.m.cls]? = some N.kN := by rw [← ecls]; exact LN.cls
  have hinit := Cond.initialized_spec hfound hk (a' (.initialized Bundle.nN) (by simp [Bundle.npeArmAtoms]))
  have hctor : N.kN.findMethod "<init>" "()V" = some P1.m.idx := findMethod_of_methodNamed hP1m hk
  obtain ⟨c1, k1, hc1, hk1, -, -, -, hn⟩ := Cond.instantiable_spec (a' (.instantiable Bundle.nN n) (by simp [Bundle.npeArmAtoms]))
  cases Option.some.inj (hc1.symm.trans hfound)
  cases Option.some.inj (hk1.symm.trans hk)
  have hfsz : (freshCell P1.m.cls N.kN).slots.size = n := by simp [hn]
  have hlink1 : P1.sup = PR.m := Option.some.inj (hP1s.symm.trans hPRm)
  have hlinkR : PR.sup = PE.m := Option.some.inj (hPRs.symm.trans hPEm)
  have hlinkE : PE.sup = Z.m T.toThrowableT := Option.some.inj (hPEs.symm.trans Y.init0)
  have hLs : ∀ P, P ∈ [PR, PE] → P.Links0 e.platform s := fun P hP => by
    simp only [List.mem_cons, List.not_mem_nil, or_false] at hP
    rcases hP with rfl | rfl
    · exact LR
    · exact LEx
  have hsel0 : selectMethod e.platform s.vm P1.m.cls T.fill0 = .method T.fill0 := by
    obtain ⟨c2, r2, m2, q1, q2, q3, q4, -⟩ := Cond.selects_spec (a' (.selects Bundle.nN Bundle.tFill0 Bundle.tFill0) (by simp [Bundle.npeArmAtoms]))
    cases Option.some.inj (q1.symm.trans hfound)
    cases Option.some.inj (q2.symm.trans (State.methodFound?_of_named Y.fill0 (by decide)))
    cases Option.some.inj (q3.symm.trans Y.fill0)
    rw [Launch.admits_selectMethod X.admits]; exact q4
  have hselF : selectMethod e.platform s.vm P1.m.cls T.fill = .method N.fill := by
    obtain ⟨c2, r2, m2, q1, q2, q3, q4, -⟩ := Cond.selects_spec (a' (.selects Bundle.nN Bundle.tFill Bundle.nFill) (by simp [Bundle.npeArmAtoms]))
    cases Option.some.inj (q1.symm.trans hfound)
    cases Option.some.inj (q2.symm.trans (State.methodFound?_of_named Y.fill (by decide)))
    cases Option.some.inj (q3.symm.trans hnNF)
    rw [Launch.admits_selectMethod X.admits]; exact q4
  obtain ⟨cellS0, hcS0, hiss⟩ := Y.statics
  obtain ⟨u0, hu0⟩ := Cond.staticRefV Y.unassigned L.unassignedStatic L.statics hcS0 hiss (a' (.isRef (.static Bundle.tN "UNASSIGNED_STACK" Bundle.steD)) (by simp [Bundle.npeArmAtoms]))
  obtain ⟨sen, hsen⟩ := Cond.staticRefV Y.sentinel L.sentinelStatic L.statics hcS0 hiss (a' (.isRef (.static Bundle.tN "SUPPRESSED_SENTINEL" Bundle.listD)) (by simp [Bundle.npeArmAtoms]))
  obtain ⟨ci198, i198, fB, hk198, hg198, ha198, hsB, -, hnB, htB, hffB⟩ := Cond.ownField (t := .object "java/lang/Object") Y.found L.cls (by decide +kernel) (a' (.fieldLink Bundle.tN 198 Bundle.tN "backtrace" Bundle.objD) (by simp [Bundle.npeArmAtoms])) (a' (.lays Bundle.tN Bundle.tN "backtrace" Bundle.objD) (by simp [Bundle.npeArmAtoms])) e.platform hpl
  obtain ⟨cellS, hcS', heS, -, hkeep⟩ := X.same.2.2.2.2.2 T.aS cellS0 hcS0
  have hcellS : W.heap[T.aS]? = some cellS := hcS'
  have hout' : ∀ i, (⟨T.aS, i⟩ : Loc) ∉ locs := fun i hmem => by
    have := hlocs _ hmem cellS0 hcS0
    rw [hiss] at this; cases this
  have hknownS : cellS.vm ≠ .unknown := by
    rw [heS]; intro hu
    rw [show cellS0.vm = .unknown from hu] at hiss
    cases hiss
  have hvU : cellS.slots[T.fUnassigned.slot]? = some u0.v := by rw [hkeep _ (hout' _)]; exact hu0
  have hvSen : cellS.slots[T.fSentinel.slot]? = some sen.v := by rw [hkeep _ (hout' _)]; exact hsen
  obtain ⟨tyC, dC, hdC, hdnC⟩ := Cond.laysAt hfound hk Y.cause (a' (.lays Bundle.nN Bundle.tN "cause" "Ljava/lang/Throwable;") (by simp [Bundle.npeArmAtoms]))
  obtain ⟨tyS, dS, hdS, hdnS⟩ := Cond.laysAt hfound hk Y.stack (a' (.lays Bundle.nN Bundle.tN "stackTrace" Bundle.steD) (by simp [Bundle.npeArmAtoms]))
  obtain ⟨tyP, dP, hdP, hdnP⟩ := Cond.laysAt hfound hk Y.supp (a' (.lays Bundle.nN Bundle.tN "suppressedExceptions" Bundle.listD) (by simp [Bundle.npeArmAtoms]))
  obtain ⟨tyX, dX, hdX, hdnX⟩ := Cond.laysAt hfound hk hffS (a' (.lays Bundle.nN Bundle.nN "extendedMessageState" "I") (by simp [Bundle.npeArmAtoms, Bundle.npeAtoms]))
  obtain ⟨hnX, htX⟩ := State.fieldFound?_type hffS (t := .int) (by decide +kernel)
  have xC := Cond.laysApart hdC hdX hdnC hdnX (by rw [hnX, Y.causeName]; decide)
  have xS := Cond.laysApart hdS hdX hdnS hdnX (by rw [hnX, Y.stackName]; decide)
  have xP := Cond.laysApart hdP hdX hdnP hdnX (by rw [hnX, Y.suppName]; decide)
  have hv0 : (freshCell P1.m.cls N.kN).slots[N.fState.slot]? = some (.int 0) := by
    have := fresh_default (c := P1.m.cls) tyX
    rw [htX] at this; exact this
  obtain ⟨tyB, dB, hdB, hdnB⟩ := Cond.laysAt hfound hk hffB (a' (.lays Bundle.nN Bundle.tN "backtrace" Bundle.objD) (by simp [Bundle.npeArmAtoms]))
  have bC := Cond.laysApart hdB hdC hdnB hdnC (by rw [hnB, Y.causeName]; decide)
  have bS := Cond.laysApart hdB hdS hdnB hdnS (by rw [hnB, Y.stackName]; decide)
  have bP := Cond.laysApart hdB hdP hdnB hdnP (by rw [hnB, Y.suppName]; decide)
  have bX := Cond.laysApart hdB hdX hdnB hdnX (by rw [hnB, hnX]; decide)
  have hbk : ((npeCell N.toNpeT (preparedCellV T.toThrowableT (freshCell P1.m.cls N.kN) W.heap.size u0 sen) W.cur).withEntry W.cur).slots[fB.slot]? = some .null := by
    have := fresh_default (c := P1.m.cls) tyB
    rw [htB] at this
    simpa [npeCell, preparedCellV, Cell.setSlot, Cell.withEntry, Array.getElem?_setIfInBounds, bC, bS, bP, bX, bC.symm, bS.symm, bP.symm, bX.symm, defaultValue] using this
  have tkC := Takes.of_laid (v := .ref W.heap.size) hk hordN tyC (by rw [Y.causeType]; rfl)
  have tkS := Takes.of_laid (v := u0.v) hk hordN tyS (by rw [Y.stackType]; exact fits_refV_array _ u0)
  have tkP := Takes.of_laid (v := sen.v) hk hordN tyP (by rw [Y.suppType]; exact fits_refV_object _ sen)
  have tkX := Takes.of_laid (v := .int 1) hk hordN tyX (by rw [htX]; rfl)
  have hskip : SkipFacts T e.platform s (fun u => u) u0 ((npeCell N.toNpeT (preparedCellV T.toThrowableT (freshCell P1.m.cls N.kN) W.heap.size u0 sen) W.cur).withEntry W.cur) := ⟨{ ci198 := ci198, i198 := i198, fBack := fB }, ⟨hk198, hg198, ha198, hsB⟩, hbk, fun _ _ => rfl⟩
  obtain ⟨vm', X3, st, -⟩ := X.throwsNpeColdBareVAt hexec hg hsize T L Z LZ N LN P1 L1 [PR, PE] hLs hlink1 ⟨hlinkR, hlinkE, trivial⟩ hfound hk hinit hordN hctor hsel0 hselF hcellS hknownS hvU hvSen
    hv0 xC xS xP tkC tkS tkP tkX Y.objLocals hskip (fun _ _ hA hW _ hroom _ hrest => L.nativeOff p htr hA hW hroom hrest) (by simpa using hRframes) hRlocals (by simp) hRcells (by rw [hn]; exact hRslots)
  have hlt : W.heap.size < ((W.pushCell (freshCell P1.m.cls N.kN)).setVm vm').heap.size := by
    show W.heap.size < (W.pushCell (freshCell P1.m.cls N.kN)).heap.size
    rw [State.heap_size_pushCell]; omega
  rw [hfsz] at X3
  obtain ⟨g₁, hfrM⟩ := X3.frames_eq
  have hU : ((((W.pushCell (freshCell P1.m.cls N.kN)).setVm vm').setCell W.heap.size (npeBareV T.toThrowableT N.toNpeT (freshCell P1.m.cls N.kN) W.heap.size u0 sen)).setTop g).pushFrame (.throwing W.heap.size) = (((W.pushCell (freshCell P1.m.cls N.kN)).setVm vm').setCell W.heap.size (npeBareV T.toThrowableT N.toNpeT (freshCell P1.m.cls N.kN) W.heap.size u0 sen)).setFrames (.throwing W.heap.size :: .java g :: below) := by
    rw [State.pushFrame, State.frames_setTop _ hfrM, State.setTop_of_frames _ hfrM, State.setFrames_setFrames]
  refine ⟨_, W.heap.size, _, fun target ht => st.trans (by rw [← hU]; exact ht), X3.forget (fun y hy => ?_), heapAt_setCell_self _ hlt, hfound, rfl⟩
  simp only [List.mem_cons, List.not_mem_nil, or_false] at hy
  have hge : s.heap.size ≤ W.heap.size := X.same.2.1
  rcases hy with rfl | rfl | rfl | rfl | rfl <;> exact hge
/-- the words of a machine's NullPointerException, but the four that speak of the heap -/
def vx_atN (n : Nat) : List Cond := (Bundle.npeArmAtoms n).filter vx_no
/-- the words of a machine's throw with a message, but the four that speak of the heap -/
def vx_atM (X : String) (names : List String) : List Cond := (Bundle.messageArmAtoms X names).filter vx_no
section
variable {p : Program} {l : Launch} {e : Env} {R : Room} {s : State} {m : MethodId} {args : Array Value} {below : List Frame} {meth : Method} {c : Code} {H : Heap} {locs : List Loc} {cells slots : Nat}
/-- a frame seen from a rebased start, seen from the first start again -/
theorem vx_back9 {T S : State} {R' : Room} {k n : Nat} (X : Stand p l e R s m args below meth c T locs cells slots) (Y : Stand p l e R' ((T.setVm s.vm).setFrames (.invoking m args :: below)) m args below meth c T [] 0 0) (Z : Stand p l e R' ((T.setVm s.vm).setFrames (.invoking m args :: below)) m args below meth c S [] k n) :
    Stand p l e R s m args below meth c S locs (cells + k) (slots + n) := by
  have hW0 : s.WarmedH ((T.setVm s.vm).setFrames (.invoking m args :: below)).vm := State.WarmedH.refl s
  refine { admits := X.admits, cas := X.cas, clock := X.clock, frames := X.frames, room := X.room, hears := X.hears, method := X.method, code := X.code, here := Z.here, tail := Z.tail, warmed := State.WarmedH.trans hW0 Z.warmed, limits := Z.limits.trans (Y.limits.symm.trans X.limits), bytes := Z.bytes.trans (Y.bytes.symm.trans X.bytes), same := ?_ }
  obtain ⟨e1, e2⟩ := Z.same
  rw [State.setFrames_setFrames] at e1
  have h2 : (T.setVm s.vm).sameButNew (S.setVm s.vm) [] k n := ⟨e1, e2⟩
  have h3 := X.same.trans h2
  rw [List.append_nil] at h3
  exact h3
/-- from the machine's note that E is thrown here with this text -/
def vx_Note (p : Program) (l : Launch) (e : Env) (R : Room) (s : State) (m : MethodId) (args : Array Value) (below : List Frame) (meth : Method) (c : Code) (H : Heap) (locs : List Loc) (cells slots : Nat) (Q : State → Prop) (g : JFrame) (E text : String) : Prop :=
  ∀ T : State, T.heap = H → Stand p l e R s m args below meth c T locs cells slots → ∃ t, Steps p.tables e below ((T.setTop g).pushFrame (.throwNew E (some text) none)) t ∧ Q t
theorem vx_vm {pc : Nat} {ls : Array Slot} {rest : List Value} {Q : State → Prop} (hexec : p.tables.exec = Jvm.exec) (hl : l.stackTraces = false) {cls text : String} {names : List String} {nb : Nat} {A : Nat → Prop}
    (hcls : Bundle.fit cls = true) (hnames : ∀ n ∈ names, Bundle.fit n = true) (hsoe : (cls == "java/lang/StackOverflowError") = false) (hoom : (cls == "java/lang/OutOfMemoryError") = false)
    (hat : ∀ w ∈ vx_atM cls names, w.before args s = true) (hgood : ∀ w ∈ vx_atM cls names, vx_ot w = true)
    (hU : vx_Zq Bundle.tN "UNASSIGNED_STACK" Bundle.steD A s s.heap) (hN : vx_Zq Bundle.tN "SUPPRESSED_SENTINEL" Bundle.listD A s s.heap) (hS : va_S A s.heap H locs) (hsize : ls.size = c.maxLocals)
    (htext : (text == notModelled) = false) (hnb : (stringBytes (stringToUtf16 text)).size ≤ nb) (hnb1 : nb ≤ 1000)
    (hRframes : names.length + 4 < R.frames) (hRlocals : (rest.map fun v => v.category).sum + 10240 ≤ R.locals) (hshort : 13 * names.length + 55 ≤ 10240) (hRcells : cells + 3 ≤ R.cells) (hRslots : slots + (nb + 10) ≤ R.slots) (hlocks : meth.locks = false)
    (k : ∀ (H1 : Heap) (q9 : Addr) (ce : Cell), H.size ≤ H1.size → (∀ q : Nat, q < H.size → H1[q]? = H[q]?) → va_S A s.heap H1 locs → H1[q9]? = some ce → ce.vm = .none → s.vm.findClass cls = some ce.cls → vx_W p l e R s m args below meth c H1 locs (cells + 3) (slots + (nb + 10)) Q (F0 m pc ls rest) q9) :
    vx_Note p l e R s m args below meth c H locs cells slots Q (F0 m pc ls rest) cls text := by
  intro T hT X
  have htr : e.platform.stackTraces = false := (show e.platform.stackTraces = l.stackTraces by rw [X.admits.platform]).trans hl
  have Y := vx_rebase X (R' := { frames := R.frames, locals := R.locals, cells := 3, slots := nb + 10 }) (Nat.le_refl _) (Nat.le_refl _) hRcells hRslots
  have hhp : ((T.setVm s.vm).setFrames (.invoking m args :: below)).heap = H := hT
  have hW0 : s.WarmedH ((T.setVm s.vm).setFrames (.invoking m args :: below)).vm := State.WarmedH.refl s
  have hat' : ∀ w ∈ vx_atM cls names, w.before args ((T.setVm s.vm).setFrames (.invoking m args :: below)) = true := fun w hw => vx_ot_at hW0 rfl (hgood w hw) (hat w hw)
  have hU' : vx_Zq Bundle.tN "UNASSIGNED_STACK" Bundle.steD A ((T.setVm s.vm).setFrames (.invoking m args :: below)) ((T.setVm s.vm).setFrames (.invoking m args :: below)).heap := by rw [hhp]; exact vx_Zq.moved hW0.alike (hU.kept hS.2.1)
  have hN' : vx_Zq Bundle.tN "SUPPRESSED_SENTINEL" Bundle.listD A ((T.setVm s.vm).setFrames (.invoking m args :: below)) ((T.setVm s.vm).setFrames (.invoking m args :: below)).heap := by rw [hhp]; exact vx_Zq.moved hW0.alike (hN.kept hS.2.1)
  obtain ⟨S, q, ce, st, Z, hce, hcl', hv⟩ := vx_vmAt Y hexec htr (cls := cls) (names := names) (text := text) hcls hnames hsoe hoom (vx_own hat' (vx_isRefq hU'.1) (vx_isRefq hN'.1) hU'.2.word hN'.2.word) (fun x hx => nomatch hx) htext
    (by rw [Launch.admits_arrayLengthLimit X.admits]; omega) (by rw [Launch.admits_maxHeapBytes X.admits]; simp only [componentBytes]; omega)
    (g := F0 m pc ls rest) rfl hsize hRframes (by show 2 * 0 + (rest.map fun v => v.category).sum + 10240 ≤ R.locals; omega) hshort (by show 0 + 3 ≤ 3; omega) (by show 0 + (_ + 4 + 6) ≤ nb + 10; omega) hlocks
  obtain ⟨f1, f2⟩ := vx_frame Z.same
  have f1' : H.size ≤ S.heap.size := by rw [← hT]; exact f1
  have f2' : ∀ q : Nat, q < H.size → S.heap[q]? = H[q]? := fun q hq => by
    rw [← hT]
    exact f2 q (by rw [← hT] at hq; exact hq) (fun z hz => nomatch hz)
  have X5 := vx_back9 X Y Z
  have X6 : Stand p l e R s m args below meth c S locs (cells + 3) (slots + (nb + 10)) := { X5 with same := X5.same.mono (by omega) (by omega) }
  obtain ⟨t, a1, b1⟩ := k S.heap q ce f1' f2' ⟨Nat.le_trans hS.1 f1', fun q h1 h2 => (f2' q (Nat.lt_of_lt_of_le h1 hS.1)).trans (hS.2.1 q h1 h2), hS.2.2⟩ hce hv hcl' S rfl X6
  exact ⟨t, st t a1, b1⟩
/-- from the machine's note that NullPointerException is thrown here -/
def vx_NoteN (p : Program) (l : Launch) (e : Env) (R : Room) (s : State) (m : MethodId) (args : Array Value) (below : List Frame) (meth : Method) (c : Code) (H : Heap) (locs : List Loc) (cells slots : Nat) (Q : State → Prop) (g : JFrame) : Prop :=
  ∀ T : State, T.heap = H → Stand p l e R s m args below meth c T locs cells slots → ∃ t, Steps p.tables e below ((T.setTop g).pushFrame (.throwNew "java/lang/NullPointerException" none none)) t ∧ Q t
theorem vx_npe {pc : Nat} {ls : Array Slot} {rest : List Value} {Q : State → Prop} (hexec : p.tables.exec = Jvm.exec) (hl : l.stackTraces = false) {nb : Nat} {A : Nat → Prop}
    (hat : ∀ w ∈ vx_atN nb, w.before args s = true) (hgood : ∀ w ∈ vx_atN nb, vx_ot w = true)
    (hU : vx_Zq Bundle.tN "UNASSIGNED_STACK" Bundle.steD A s s.heap) (hN : vx_Zq Bundle.tN "SUPPRESSED_SENTINEL" Bundle.listD A s s.heap) (hS : va_S A s.heap H locs) (hsize : ls.size = c.maxLocals)
    (hRframes : 7 < R.frames) (hRlocals : (rest.map fun v => v.category).sum + 10240 ≤ R.locals) (hRcells : cells + 1 ≤ R.cells) (hRslots : slots + nb ≤ R.slots) (hlocks : meth.locks = false)
    (k : ∀ (H1 : Heap) (q9 : Addr) (ce : Cell), H.size ≤ H1.size → (∀ q : Nat, q < H.size → H1[q]? = H[q]?) → va_S A s.heap H1 locs → H1[q9]? = some ce → ce.vm = .none → s.vm.findClass "java/lang/NullPointerException" = some ce.cls → vx_W p l e R s m args below meth c H1 locs (cells + 1) (slots + nb) Q (F0 m pc ls rest) q9) :
    vx_NoteN p l e R s m args below meth c H locs cells slots Q (F0 m pc ls rest) := by
  intro T hT X
  have htr : e.platform.stackTraces = false := (show e.platform.stackTraces = l.stackTraces by rw [X.admits.platform]).trans hl
  have Y := vx_rebase X (R' := { frames := R.frames, locals := R.locals, cells := 1, slots := nb }) (Nat.le_refl _) (Nat.le_refl _) hRcells hRslots
  have hhp : ((T.setVm s.vm).setFrames (.invoking m args :: below)).heap = H := hT
  have hW0 : s.WarmedH ((T.setVm s.vm).setFrames (.invoking m args :: below)).vm := State.WarmedH.refl s
  have hat' : ∀ w ∈ vx_atN nb, w.before args ((T.setVm s.vm).setFrames (.invoking m args :: below)) = true := fun w hw => vx_ot_at hW0 rfl (hgood w hw) (hat w hw)
  have hU' : vx_Zq Bundle.tN "UNASSIGNED_STACK" Bundle.steD A ((T.setVm s.vm).setFrames (.invoking m args :: below)) ((T.setVm s.vm).setFrames (.invoking m args :: below)).heap := by rw [hhp]; exact vx_Zq.moved hW0.alike (hU.kept hS.2.1)
  have hN' : vx_Zq Bundle.tN "SUPPRESSED_SENTINEL" Bundle.listD A ((T.setVm s.vm).setFrames (.invoking m args :: below)) ((T.setVm s.vm).setFrames (.invoking m args :: below)).heap := by rw [hhp]; exact vx_Zq.moved hW0.alike (hN.kept hS.2.1)
  obtain ⟨S, q, ce, st, Z, hce, hcl', hv⟩ := vx_npeAt Y hexec htr (n := nb) (vx_own hat' (vx_isRefq hU'.1) (vx_isRefq hN'.1) hU'.2.word hN'.2.word) (fun x hx => nomatch hx)
    (g := F0 m pc ls rest) rfl hsize hRframes (by show 2 * 0 + (rest.map fun v => v.category).sum + 10240 ≤ R.locals; omega) (by show 0 + 1 ≤ 1; omega) (by show 0 + nb ≤ nb; omega) hlocks
  obtain ⟨f1, f2⟩ := vx_frame Z.same
  have f1' : H.size ≤ S.heap.size := by rw [← hT]; exact f1
  have f2' : ∀ q : Nat, q < H.size → S.heap[q]? = H[q]? := fun q hq => by
    rw [← hT]
    exact f2 q (by rw [← hT] at hq; exact hq) (fun z hz => nomatch hz)
  have X5 := vx_back9 X Y Z
  have X6 : Stand p l e R s m args below meth c S locs (cells + 1) (slots + nb) := { X5 with same := X5.same.mono (by omega) (by omega) }
  obtain ⟨t, a1, b1⟩ := k S.heap q ce f1' f2' ⟨Nat.le_trans hS.1 f1', fun q h1 h2 => (f2' q (Nat.lt_of_lt_of_le h1 hS.1)).trans (hS.2.1 q h1 h2), hS.2.2⟩ hce hv hcl' S rfl X6
  exact ⟨t, st t a1, b1⟩
variable {Q : State → Prop} {cc : ByteArray} {pc : Nat} {ls : Array Slot} {rest : List Value}
theorem vx_idivZ (hexec : p.tables.exec = Jvm.exec) (hb : c.code = cc) {a b : Int32} (h0 : b = 0) (d : decode cc pc = .ok (.idiv, 1)) (k : vx_Note p l e R s m args below meth c H locs cells slots Q (F0 m pc ls rest) "java/lang/ArithmeticException" "/ by zero") :
    W p l e R s m args below meth c H locs cells slots Q (F0 m pc ls (.int b :: .int a :: rest)) := by
  intro T hT X
  obtain ⟨t, st, q⟩ := k T hT X
  exact ⟨t, X.idivZero hexec (g := F0 m pc ls (.int b :: .int a :: rest)) rfl (a := a) (rest := rest) (by rw [h0]) (by rw [hb]; exact d) t st, q⟩
theorem vx_iremZ (hexec : p.tables.exec = Jvm.exec) (hb : c.code = cc) {a b : Int32} (h0 : b = 0) (d : decode cc pc = .ok (.irem, 1)) (k : vx_Note p l e R s m args below meth c H locs cells slots Q (F0 m pc ls rest) "java/lang/ArithmeticException" "/ by zero") :
    W p l e R s m args below meth c H locs cells slots Q (F0 m pc ls (.int b :: .int a :: rest)) := by
  intro T hT X
  obtain ⟨t, st, q⟩ := k T hT X
  exact ⟨t, X.iremZero hexec (g := F0 m pc ls (.int b :: .int a :: rest)) rfl (a := a) (rest := rest) (by rw [h0]) (by rw [hb]; exact d) t st, q⟩
theorem vx_ldivZ (hexec : p.tables.exec = Jvm.exec) (hb : c.code = cc) {a b : Int64} (h0 : b = 0) (d : decode cc pc = .ok (.ldiv, 1)) (k : vx_Note p l e R s m args below meth c H locs cells slots Q (F0 m pc ls rest) "java/lang/ArithmeticException" "/ by zero") :
    W p l e R s m args below meth c H locs cells slots Q (F0 m pc ls (.long b :: .long a :: rest)) := by
  intro T hT X
  obtain ⟨t, st, q⟩ := k T hT X
  exact ⟨t, X.ldivZero hexec (g := F0 m pc ls (.long b :: .long a :: rest)) rfl (a := a) (rest := rest) (by rw [h0]) (by rw [hb]; exact d) t st, q⟩
theorem vx_lremZ (hexec : p.tables.exec = Jvm.exec) (hb : c.code = cc) {a b : Int64} (h0 : b = 0) (d : decode cc pc = .ok (.lrem, 1)) (k : vx_Note p l e R s m args below meth c H locs cells slots Q (F0 m pc ls rest) "java/lang/ArithmeticException" "/ by zero") :
    W p l e R s m args below meth c H locs cells slots Q (F0 m pc ls (.long b :: .long a :: rest)) := by
  intro T hT X
  obtain ⟨t, st, q⟩ := k T hT X
  exact ⟨t, X.lremZero hexec (g := F0 m pc ls (.long b :: .long a :: rest)) rfl (a := a) (rest := rest) (by rw [h0]) (by rw [hb]; exact d) t st, q⟩
theorem vx_ialdZ {D : va_G} {cl : List vw_C} {ws : va_W} {tys : List (ClassId × FieldType)} {a : Nat} (hexec : p.tables.exec = Jvm.exec) (hb : c.code = cc) (hK : va_K D cl tys s) (hP : va_P D cl ws H) (q0 t0 : Nat) {cA : ClassId} {n : Nat} {f : Nat → Int32} (ha : ws[q0]? = some (a, .inl (cA, n, .inl f))) (ht : tys[t0]? = some (cA, .int)) {i : Int32} (hout : ¬ vp_in i n) (hdg : decode cc pc = .ok (.iaload, 1))
    (k : ∀ tx : String, tx = (toString "Index " ++ toString i ++ toString " out of bounds for length " ++ toString n : String) → vx_Note p l e R s m args below meth c H locs cells slots Q (F0 m pc ls rest) "java/lang/ArrayIndexOutOfBoundsException" tx) : W p l e R s m args below meth c H locs cells slots Q (F0 m pc ls (.int i :: .ref a :: rest)) := by
  intro T hT X
  obtain ⟨t, st, q⟩ := k _ rfl T hT X
  refine ⟨t, ?_, q⟩
  have h1 := X.ialoadOut hexec (by rw [hT]; exact hP q0 _ ha) ((hK.2 t0 _ ht).1 n (fun j => .int (f j))) (j := i) (by show (i < 0 ∨ (arrV _ _ _).slots.size ≤ _); rw [arrV_size]; exact Classical.byContradiction hout) (g := F0 m pc ls (.int i :: .ref a :: rest)) rfl (rest := rest) rfl (by rw [hb]; exact hdg) t
  simp only [arrV_size] at h1
  exact h1 st
theorem vx_iastZ {D : va_G} {cl : List vw_C} {ws : va_W} {tys : List (ClassId × FieldType)} {a : Nat} (hexec : p.tables.exec = Jvm.exec) (hb : c.code = cc) (hK : va_K D cl tys s) (hP : va_P D cl ws H) (q0 t0 : Nat) {cA : ClassId} {n : Nat} {f : Nat → Int32} (ha : ws[q0]? = some (a, .inl (cA, n, .inl f))) (ht : tys[t0]? = some (cA, .int)) {i : Int32} {x : Int32} (hout : ¬ vp_in i n) (hdg : decode cc pc = .ok (.iastore, 1))
    (k : ∀ tx : String, tx = (toString "Index " ++ toString i ++ toString " out of bounds for length " ++ toString n : String) → vx_Note p l e R s m args below meth c H locs cells slots Q (F0 m pc ls rest) "java/lang/ArrayIndexOutOfBoundsException" tx) : W p l e R s m args below meth c H locs cells slots Q (F0 m pc ls (.int x :: .int i :: .ref a :: rest)) := by
  intro T hT X
  obtain ⟨t, st, q⟩ := k _ rfl T hT X
  refine ⟨t, ?_, q⟩
  have h1 := X.iastoreOut hexec (by rw [hT]; exact hP q0 _ ha) ((hK.2 t0 _ ht).1 n (fun j => .int (f j))) (j := i) (by show (i < 0 ∨ (arrV _ _ _).slots.size ≤ _); rw [arrV_size]; exact Classical.byContradiction hout) (g := F0 m pc ls (.int x :: .int i :: .ref a :: rest)) rfl (rest := rest) rfl (by rw [hb]; exact hdg) t
  simp only [arrV_size] at h1
  exact h1 st
theorem vx_baldZ {D : va_G} {cl : List vw_C} {ws : va_W} {tys : List (ClassId × FieldType)} {a : Nat} (hexec : p.tables.exec = Jvm.exec) (hb : c.code = cc) (hK : va_K D cl tys s) (hP : va_P D cl ws H) (q0 t0 : Nat) {cA : ClassId} {n : Nat} {f : Nat → Int32} (ha : ws[q0]? = some (a, .inl (cA, n, .inl f))) (ht : tys[t0]? = some (cA, .byte)) {i : Int32} (hout : ¬ vp_in i n) (hdg : decode cc pc = .ok (.baload, 1))
    (k : ∀ tx : String, tx = (toString "Index " ++ toString i ++ toString " out of bounds for length " ++ toString n : String) → vx_Note p l e R s m args below meth c H locs cells slots Q (F0 m pc ls rest) "java/lang/ArrayIndexOutOfBoundsException" tx) : W p l e R s m args below meth c H locs cells slots Q (F0 m pc ls (.int i :: .ref a :: rest)) := by
  intro T hT X
  obtain ⟨t, st, q⟩ := k _ rfl T hT X
  refine ⟨t, ?_, q⟩
  have h1 := X.baloadOut hexec (by rw [hT]; exact hP q0 _ ha) ((hK.2 t0 _ ht).1 n (fun j => .int (f j))) (j := i) (by show (i < 0 ∨ (arrV _ _ _).slots.size ≤ _); rw [arrV_size]; exact Classical.byContradiction hout) (g := F0 m pc ls (.int i :: .ref a :: rest)) rfl (rest := rest) rfl (by rw [hb]; exact hdg) t
  simp only [arrV_size] at h1
  exact h1 st
theorem vx_bastZ {D : va_G} {cl : List vw_C} {ws : va_W} {tys : List (ClassId × FieldType)} {a : Nat} (hexec : p.tables.exec = Jvm.exec) (hb : c.code = cc) (hK : va_K D cl tys s) (hP : va_P D cl ws H) (q0 t0 : Nat) {cA : ClassId} {n : Nat} {f : Nat → Int32} (ha : ws[q0]? = some (a, .inl (cA, n, .inl f))) (ht : tys[t0]? = some (cA, .byte)) {i : Int32} {x : Int32} (hout : ¬ vp_in i n) (hdg : decode cc pc = .ok (.bastore, 1))
    (k : ∀ tx : String, tx = (toString "Index " ++ toString i ++ toString " out of bounds for length " ++ toString n : String) → vx_Note p l e R s m args below meth c H locs cells slots Q (F0 m pc ls rest) "java/lang/ArrayIndexOutOfBoundsException" tx) : W p l e R s m args below meth c H locs cells slots Q (F0 m pc ls (.int x :: .int i :: .ref a :: rest)) := by
  intro T hT X
  obtain ⟨t, st, q⟩ := k _ rfl T hT X
  refine ⟨t, ?_, q⟩
  have h1 := X.bastoreOut hexec (by rw [hT]; exact hP q0 _ ha) ((hK.2 t0 _ ht).1 n (fun j => .int (f j))) (j := i) (by show (i < 0 ∨ (arrV _ _ _).slots.size ≤ _); rw [arrV_size]; exact Classical.byContradiction hout) (g := F0 m pc ls (.int x :: .int i :: .ref a :: rest)) rfl (rest := rest) rfl (by rw [hb]; exact hdg) t
  simp only [arrV_size] at h1
  exact h1 st
theorem vx_zaldZ {D : va_G} {cl : List vw_C} {ws : va_W} {tys : List (ClassId × FieldType)} {a : Nat} (hexec : p.tables.exec = Jvm.exec) (hb : c.code = cc) (hK : va_K D cl tys s) (hP : va_P D cl ws H) (q0 t0 : Nat) {cA : ClassId} {n : Nat} {f : Nat → Int32} (ha : ws[q0]? = some (a, .inl (cA, n, .inl f))) (ht : tys[t0]? = some (cA, .boolean)) {i : Int32} (hout : ¬ vp_in i n) (hdg : decode cc pc = .ok (.baload, 1))
    (k : ∀ tx : String, tx = (toString "Index " ++ toString i ++ toString " out of bounds for length " ++ toString n : String) → vx_Note p l e R s m args below meth c H locs cells slots Q (F0 m pc ls rest) "java/lang/ArrayIndexOutOfBoundsException" tx) : W p l e R s m args below meth c H locs cells slots Q (F0 m pc ls (.int i :: .ref a :: rest)) := by
  intro T hT X
  obtain ⟨t, st, q⟩ := k _ rfl T hT X
  refine ⟨t, ?_, q⟩
  have h1 := X.baloadOut hexec (by rw [hT]; exact hP q0 _ ha) ((hK.2 t0 _ ht).1 n (fun j => .int (f j))) (j := i) (by show (i < 0 ∨ (arrV _ _ _).slots.size ≤ _); rw [arrV_size]; exact Classical.byContradiction hout) (g := F0 m pc ls (.int i :: .ref a :: rest)) rfl (rest := rest) rfl (by rw [hb]; exact hdg) t
  simp only [arrV_size] at h1
  exact h1 st
theorem vx_zastZ {D : va_G} {cl : List vw_C} {ws : va_W} {tys : List (ClassId × FieldType)} {a : Nat} (hexec : p.tables.exec = Jvm.exec) (hb : c.code = cc) (hK : va_K D cl tys s) (hP : va_P D cl ws H) (q0 t0 : Nat) {cA : ClassId} {n : Nat} {f : Nat → Int32} (ha : ws[q0]? = some (a, .inl (cA, n, .inl f))) (ht : tys[t0]? = some (cA, .boolean)) {i : Int32} {x : Int32} (hout : ¬ vp_in i n) (hdg : decode cc pc = .ok (.bastore, 1))
    (k : ∀ tx : String, tx = (toString "Index " ++ toString i ++ toString " out of bounds for length " ++ toString n : String) → vx_Note p l e R s m args below meth c H locs cells slots Q (F0 m pc ls rest) "java/lang/ArrayIndexOutOfBoundsException" tx) : W p l e R s m args below meth c H locs cells slots Q (F0 m pc ls (.int x :: .int i :: .ref a :: rest)) := by
  intro T hT X
  obtain ⟨t, st, q⟩ := k _ rfl T hT X
  refine ⟨t, ?_, q⟩
  have h1 := X.bastoreOut hexec (by rw [hT]; exact hP q0 _ ha) ((hK.2 t0 _ ht).1 n (fun j => .int (f j))) (j := i) (by show (i < 0 ∨ (arrV _ _ _).slots.size ≤ _); rw [arrV_size]; exact Classical.byContradiction hout) (g := F0 m pc ls (.int x :: .int i :: .ref a :: rest)) rfl (rest := rest) rfl (by rw [hb]; exact hdg) t
  simp only [arrV_size] at h1
  exact h1 st
theorem vx_caldZ {D : va_G} {cl : List vw_C} {ws : va_W} {tys : List (ClassId × FieldType)} {a : Nat} (hexec : p.tables.exec = Jvm.exec) (hb : c.code = cc) (hK : va_K D cl tys s) (hP : va_P D cl ws H) (q0 t0 : Nat) {cA : ClassId} {n : Nat} {f : Nat → Int32} (ha : ws[q0]? = some (a, .inl (cA, n, .inl f))) (ht : tys[t0]? = some (cA, .char)) {i : Int32} (hout : ¬ vp_in i n) (hdg : decode cc pc = .ok (.caload, 1))
    (k : ∀ tx : String, tx = (toString "Index " ++ toString i ++ toString " out of bounds for length " ++ toString n : String) → vx_Note p l e R s m args below meth c H locs cells slots Q (F0 m pc ls rest) "java/lang/ArrayIndexOutOfBoundsException" tx) : W p l e R s m args below meth c H locs cells slots Q (F0 m pc ls (.int i :: .ref a :: rest)) := by
  intro T hT X
  obtain ⟨t, st, q⟩ := k _ rfl T hT X
  refine ⟨t, ?_, q⟩
  have h1 := X.caloadOut hexec (by rw [hT]; exact hP q0 _ ha) ((hK.2 t0 _ ht).1 n (fun j => .int (f j))) (j := i) (by show (i < 0 ∨ (arrV _ _ _).slots.size ≤ _); rw [arrV_size]; exact Classical.byContradiction hout) (g := F0 m pc ls (.int i :: .ref a :: rest)) rfl (rest := rest) rfl (by rw [hb]; exact hdg) t
  simp only [arrV_size] at h1
  exact h1 st
theorem vx_castZ {D : va_G} {cl : List vw_C} {ws : va_W} {tys : List (ClassId × FieldType)} {a : Nat} (hexec : p.tables.exec = Jvm.exec) (hb : c.code = cc) (hK : va_K D cl tys s) (hP : va_P D cl ws H) (q0 t0 : Nat) {cA : ClassId} {n : Nat} {f : Nat → Int32} (ha : ws[q0]? = some (a, .inl (cA, n, .inl f))) (ht : tys[t0]? = some (cA, .char)) {i : Int32} {x : Int32} (hout : ¬ vp_in i n) (hdg : decode cc pc = .ok (.castore, 1))
    (k : ∀ tx : String, tx = (toString "Index " ++ toString i ++ toString " out of bounds for length " ++ toString n : String) → vx_Note p l e R s m args below meth c H locs cells slots Q (F0 m pc ls rest) "java/lang/ArrayIndexOutOfBoundsException" tx) : W p l e R s m args below meth c H locs cells slots Q (F0 m pc ls (.int x :: .int i :: .ref a :: rest)) := by
  intro T hT X
  obtain ⟨t, st, q⟩ := k _ rfl T hT X
  refine ⟨t, ?_, q⟩
  have h1 := X.castoreOut hexec (by rw [hT]; exact hP q0 _ ha) ((hK.2 t0 _ ht).1 n (fun j => .int (f j))) (j := i) (by show (i < 0 ∨ (arrV _ _ _).slots.size ≤ _); rw [arrV_size]; exact Classical.byContradiction hout) (g := F0 m pc ls (.int x :: .int i :: .ref a :: rest)) rfl (rest := rest) rfl (by rw [hb]; exact hdg) t
  simp only [arrV_size] at h1
  exact h1 st
theorem vx_saldZ {D : va_G} {cl : List vw_C} {ws : va_W} {tys : List (ClassId × FieldType)} {a : Nat} (hexec : p.tables.exec = Jvm.exec) (hb : c.code = cc) (hK : va_K D cl tys s) (hP : va_P D cl ws H) (q0 t0 : Nat) {cA : ClassId} {n : Nat} {f : Nat → Int32} (ha : ws[q0]? = some (a, .inl (cA, n, .inl f))) (ht : tys[t0]? = some (cA, .short)) {i : Int32} (hout : ¬ vp_in i n) (hdg : decode cc pc = .ok (.saload, 1))
    (k : ∀ tx : String, tx = (toString "Index " ++ toString i ++ toString " out of bounds for length " ++ toString n : String) → vx_Note p l e R s m args below meth c H locs cells slots Q (F0 m pc ls rest) "java/lang/ArrayIndexOutOfBoundsException" tx) : W p l e R s m args below meth c H locs cells slots Q (F0 m pc ls (.int i :: .ref a :: rest)) := by
  intro T hT X
  obtain ⟨t, st, q⟩ := k _ rfl T hT X
  refine ⟨t, ?_, q⟩
  have h1 := X.saloadOut hexec (by rw [hT]; exact hP q0 _ ha) ((hK.2 t0 _ ht).1 n (fun j => .int (f j))) (j := i) (by show (i < 0 ∨ (arrV _ _ _).slots.size ≤ _); rw [arrV_size]; exact Classical.byContradiction hout) (g := F0 m pc ls (.int i :: .ref a :: rest)) rfl (rest := rest) rfl (by rw [hb]; exact hdg) t
  simp only [arrV_size] at h1
  exact h1 st
theorem vx_sastZ {D : va_G} {cl : List vw_C} {ws : va_W} {tys : List (ClassId × FieldType)} {a : Nat} (hexec : p.tables.exec = Jvm.exec) (hb : c.code = cc) (hK : va_K D cl tys s) (hP : va_P D cl ws H) (q0 t0 : Nat) {cA : ClassId} {n : Nat} {f : Nat → Int32} (ha : ws[q0]? = some (a, .inl (cA, n, .inl f))) (ht : tys[t0]? = some (cA, .short)) {i : Int32} {x : Int32} (hout : ¬ vp_in i n) (hdg : decode cc pc = .ok (.sastore, 1))
    (k : ∀ tx : String, tx = (toString "Index " ++ toString i ++ toString " out of bounds for length " ++ toString n : String) → vx_Note p l e R s m args below meth c H locs cells slots Q (F0 m pc ls rest) "java/lang/ArrayIndexOutOfBoundsException" tx) : W p l e R s m args below meth c H locs cells slots Q (F0 m pc ls (.int x :: .int i :: .ref a :: rest)) := by
  intro T hT X
  obtain ⟨t, st, q⟩ := k _ rfl T hT X
  refine ⟨t, ?_, q⟩
  have h1 := X.sastoreOut hexec (by rw [hT]; exact hP q0 _ ha) ((hK.2 t0 _ ht).1 n (fun j => .int (f j))) (j := i) (by show (i < 0 ∨ (arrV _ _ _).slots.size ≤ _); rw [arrV_size]; exact Classical.byContradiction hout) (g := F0 m pc ls (.int x :: .int i :: .ref a :: rest)) rfl (rest := rest) rfl (by rw [hb]; exact hdg) t
  simp only [arrV_size] at h1
  exact h1 st
theorem vx_laldZ {D : va_G} {cl : List vw_C} {ws : va_W} {tys : List (ClassId × FieldType)} {a : Nat} (hexec : p.tables.exec = Jvm.exec) (hb : c.code = cc) (hK : va_K D cl tys s) (hP : va_P D cl ws H) (q0 t0 : Nat) {cA : ClassId} {n : Nat} {f : Nat → Int64} (ha : ws[q0]? = some (a, .inl (cA, n, .inr (.inl f)))) (ht : tys[t0]? = some (cA, .long)) {i : Int32} (hout : ¬ vp_in i n) (hdg : decode cc pc = .ok (.laload, 1))
    (k : ∀ tx : String, tx = (toString "Index " ++ toString i ++ toString " out of bounds for length " ++ toString n : String) → vx_Note p l e R s m args below meth c H locs cells slots Q (F0 m pc ls rest) "java/lang/ArrayIndexOutOfBoundsException" tx) : W p l e R s m args below meth c H locs cells slots Q (F0 m pc ls (.int i :: .ref a :: rest)) := by
  intro T hT X
  obtain ⟨t, st, q⟩ := k _ rfl T hT X
  refine ⟨t, ?_, q⟩
  have h1 := X.laloadOut hexec (by rw [hT]; exact hP q0 _ ha) ((hK.2 t0 _ ht).1 n (fun j => .long (f j))) (j := i) (by show (i < 0 ∨ (arrV _ _ _).slots.size ≤ _); rw [arrV_size]; exact Classical.byContradiction hout) (g := F0 m pc ls (.int i :: .ref a :: rest)) rfl (rest := rest) rfl (by rw [hb]; exact hdg) t
  simp only [arrV_size] at h1
  exact h1 st
theorem vx_lastZ {D : va_G} {cl : List vw_C} {ws : va_W} {tys : List (ClassId × FieldType)} {a : Nat} (hexec : p.tables.exec = Jvm.exec) (hb : c.code = cc) (hK : va_K D cl tys s) (hP : va_P D cl ws H) (q0 t0 : Nat) {cA : ClassId} {n : Nat} {f : Nat → Int64} (ha : ws[q0]? = some (a, .inl (cA, n, .inr (.inl f)))) (ht : tys[t0]? = some (cA, .long)) {i : Int32} {x : Int64} (hout : ¬ vp_in i n) (hdg : decode cc pc = .ok (.lastore, 1))
    (k : ∀ tx : String, tx = (toString "Index " ++ toString i ++ toString " out of bounds for length " ++ toString n : String) → vx_Note p l e R s m args below meth c H locs cells slots Q (F0 m pc ls rest) "java/lang/ArrayIndexOutOfBoundsException" tx) : W p l e R s m args below meth c H locs cells slots Q (F0 m pc ls (.long x :: .int i :: .ref a :: rest)) := by
  intro T hT X
  obtain ⟨t, st, q⟩ := k _ rfl T hT X
  refine ⟨t, ?_, q⟩
  have h1 := X.lastoreOut hexec (by rw [hT]; exact hP q0 _ ha) ((hK.2 t0 _ ht).1 n (fun j => .long (f j))) (j := i) (by show (i < 0 ∨ (arrV _ _ _).slots.size ≤ _); rw [arrV_size]; exact Classical.byContradiction hout) (g := F0 m pc ls (.long x :: .int i :: .ref a :: rest)) rfl (rest := rest) rfl (by rw [hb]; exact hdg) t
  simp only [arrV_size] at h1
  exact h1 st
theorem vx_faldZ {D : va_G} {cl : List vw_C} {ws : va_W} {tys : List (ClassId × FieldType)} {a : Nat} (hexec : p.tables.exec = Jvm.exec) (hb : c.code = cc) (hK : va_K D cl tys s) (hP : va_P D cl ws H) (q0 t0 : Nat) {cA : ClassId} {n : Nat} {f : Nat → UInt32} (ha : ws[q0]? = some (a, .inl (cA, n, .inr (.inr (.inl f))))) (ht : tys[t0]? = some (cA, .float)) {i : Int32} (hout : ¬ vp_in i n) (hdg : decode cc pc = .ok (.faload, 1))
    (k : ∀ tx : String, tx = (toString "Index " ++ toString i ++ toString " out of bounds for length " ++ toString n : String) → vx_Note p l e R s m args below meth c H locs cells slots Q (F0 m pc ls rest) "java/lang/ArrayIndexOutOfBoundsException" tx) : W p l e R s m args below meth c H locs cells slots Q (F0 m pc ls (.int i :: .ref a :: rest)) := by
  intro T hT X
  obtain ⟨t, st, q⟩ := k _ rfl T hT X
  refine ⟨t, ?_, q⟩
  have h1 := X.faloadOut hexec (by rw [hT]; exact hP q0 _ ha) ((hK.2 t0 _ ht).1 n (fun j => .float (f j))) (j := i) (by show (i < 0 ∨ (arrV _ _ _).slots.size ≤ _); rw [arrV_size]; exact Classical.byContradiction hout) (g := F0 m pc ls (.int i :: .ref a :: rest)) rfl (rest := rest) rfl (by rw [hb]; exact hdg) t
  simp only [arrV_size] at h1
  exact h1 st
theorem vx_fastZ {D : va_G} {cl : List vw_C} {ws : va_W} {tys : List (ClassId × FieldType)} {a : Nat} (hexec : p.tables.exec = Jvm.exec) (hb : c.code = cc) (hK : va_K D cl tys s) (hP : va_P D cl ws H) (q0 t0 : Nat) {cA : ClassId} {n : Nat} {f : Nat → UInt32} (ha : ws[q0]? = some (a, .inl (cA, n, .inr (.inr (.inl f))))) (ht : tys[t0]? = some (cA, .float)) {i : Int32} {x : UInt32} (hout : ¬ vp_in i n) (hdg : decode cc pc = .ok (.fastore, 1))
    (k : ∀ tx : String, tx = (toString "Index " ++ toString i ++ toString " out of bounds for length " ++ toString n : String) → vx_Note p l e R s m args below meth c H locs cells slots Q (F0 m pc ls rest) "java/lang/ArrayIndexOutOfBoundsException" tx) : W p l e R s m args below meth c H locs cells slots Q (F0 m pc ls (.float x :: .int i :: .ref a :: rest)) := by
  intro T hT X
  obtain ⟨t, st, q⟩ := k _ rfl T hT X
  refine ⟨t, ?_, q⟩
  have h1 := X.fastoreOut hexec (by rw [hT]; exact hP q0 _ ha) ((hK.2 t0 _ ht).1 n (fun j => .float (f j))) (j := i) (by show (i < 0 ∨ (arrV _ _ _).slots.size ≤ _); rw [arrV_size]; exact Classical.byContradiction hout) (g := F0 m pc ls (.float x :: .int i :: .ref a :: rest)) rfl (rest := rest) rfl (by rw [hb]; exact hdg) t
  simp only [arrV_size] at h1
  exact h1 st
theorem vx_daldZ {D : va_G} {cl : List vw_C} {ws : va_W} {tys : List (ClassId × FieldType)} {a : Nat} (hexec : p.tables.exec = Jvm.exec) (hb : c.code = cc) (hK : va_K D cl tys s) (hP : va_P D cl ws H) (q0 t0 : Nat) {cA : ClassId} {n : Nat} {f : Nat → UInt64} (ha : ws[q0]? = some (a, .inl (cA, n, .inr (.inr (.inr (.inl f)))))) (ht : tys[t0]? = some (cA, .double)) {i : Int32} (hout : ¬ vp_in i n) (hdg : decode cc pc = .ok (.daload, 1))
    (k : ∀ tx : String, tx = (toString "Index " ++ toString i ++ toString " out of bounds for length " ++ toString n : String) → vx_Note p l e R s m args below meth c H locs cells slots Q (F0 m pc ls rest) "java/lang/ArrayIndexOutOfBoundsException" tx) : W p l e R s m args below meth c H locs cells slots Q (F0 m pc ls (.int i :: .ref a :: rest)) := by
  intro T hT X
  obtain ⟨t, st, q⟩ := k _ rfl T hT X
  refine ⟨t, ?_, q⟩
  have h1 := X.daloadOut hexec (by rw [hT]; exact hP q0 _ ha) ((hK.2 t0 _ ht).1 n (fun j => .double (f j))) (j := i) (by show (i < 0 ∨ (arrV _ _ _).slots.size ≤ _); rw [arrV_size]; exact Classical.byContradiction hout) (g := F0 m pc ls (.int i :: .ref a :: rest)) rfl (rest := rest) rfl (by rw [hb]; exact hdg) t
  simp only [arrV_size] at h1
  exact h1 st
theorem vx_dastZ {D : va_G} {cl : List vw_C} {ws : va_W} {tys : List (ClassId × FieldType)} {a : Nat} (hexec : p.tables.exec = Jvm.exec) (hb : c.code = cc) (hK : va_K D cl tys s) (hP : va_P D cl ws H) (q0 t0 : Nat) {cA : ClassId} {n : Nat} {f : Nat → UInt64} (ha : ws[q0]? = some (a, .inl (cA, n, .inr (.inr (.inr (.inl f)))))) (ht : tys[t0]? = some (cA, .double)) {i : Int32} {x : UInt64} (hout : ¬ vp_in i n) (hdg : decode cc pc = .ok (.dastore, 1))
    (k : ∀ tx : String, tx = (toString "Index " ++ toString i ++ toString " out of bounds for length " ++ toString n : String) → vx_Note p l e R s m args below meth c H locs cells slots Q (F0 m pc ls rest) "java/lang/ArrayIndexOutOfBoundsException" tx) : W p l e R s m args below meth c H locs cells slots Q (F0 m pc ls (.double x :: .int i :: .ref a :: rest)) := by
  intro T hT X
  obtain ⟨t, st, q⟩ := k _ rfl T hT X
  refine ⟨t, ?_, q⟩
  have h1 := X.dastoreOut hexec (by rw [hT]; exact hP q0 _ ha) ((hK.2 t0 _ ht).1 n (fun j => .double (f j))) (j := i) (by show (i < 0 ∨ (arrV _ _ _).slots.size ≤ _); rw [arrV_size]; exact Classical.byContradiction hout) (g := F0 m pc ls (.double x :: .int i :: .ref a :: rest)) rfl (rest := rest) rfl (by rw [hb]; exact hdg) t
  simp only [arrV_size] at h1
  exact h1 st
theorem vx_arraylengthN (hexec : p.tables.exec = Jvm.exec) (hb : c.code = cc) (hdg : decode cc pc = .ok (.arraylength, 1)) (k : vx_NoteN p l e R s m args below meth c H locs cells slots Q (F0 m pc ls rest)) : W p l e R s m args below meth c H locs cells slots Q (F0 m pc ls (.null :: rest)) := by
  intro T hT X
  obtain ⟨t, st, q⟩ := k T hT X
  exact ⟨t, X.arraylengthNull hexec (g := F0 m pc ls (.null :: rest)) rfl (rest := rest) rfl (by rw [hb]; exact hdg) t st, q⟩
theorem vx_ialoadN (hexec : p.tables.exec = Jvm.exec) (hb : c.code = cc) {i : Int32} (hdg : decode cc pc = .ok (.iaload, 1)) (k : vx_NoteN p l e R s m args below meth c H locs cells slots Q (F0 m pc ls rest)) : W p l e R s m args below meth c H locs cells slots Q (F0 m pc ls (.int i :: .null :: rest)) := by
  intro T hT X
  obtain ⟨t, st, q⟩ := k T hT X
  exact ⟨t, X.ialoadNull hexec (g := F0 m pc ls (.int i :: .null :: rest)) rfl (rest := rest) rfl (by rw [hb]; exact hdg) t st, q⟩
theorem vx_laloadN (hexec : p.tables.exec = Jvm.exec) (hb : c.code = cc) {i : Int32} (hdg : decode cc pc = .ok (.laload, 1)) (k : vx_NoteN p l e R s m args below meth c H locs cells slots Q (F0 m pc ls rest)) : W p l e R s m args below meth c H locs cells slots Q (F0 m pc ls (.int i :: .null :: rest)) := by
  intro T hT X
  obtain ⟨t, st, q⟩ := k T hT X
  exact ⟨t, X.laloadNull hexec (g := F0 m pc ls (.int i :: .null :: rest)) rfl (rest := rest) rfl (by rw [hb]; exact hdg) t st, q⟩
theorem vx_faloadN (hexec : p.tables.exec = Jvm.exec) (hb : c.code = cc) {i : Int32} (hdg : decode cc pc = .ok (.faload, 1)) (k : vx_NoteN p l e R s m args below meth c H locs cells slots Q (F0 m pc ls rest)) : W p l e R s m args below meth c H locs cells slots Q (F0 m pc ls (.int i :: .null :: rest)) := by
  intro T hT X
  obtain ⟨t, st, q⟩ := k T hT X
  exact ⟨t, X.faloadNull hexec (g := F0 m pc ls (.int i :: .null :: rest)) rfl (rest := rest) rfl (by rw [hb]; exact hdg) t st, q⟩
theorem vx_daloadN (hexec : p.tables.exec = Jvm.exec) (hb : c.code = cc) {i : Int32} (hdg : decode cc pc = .ok (.daload, 1)) (k : vx_NoteN p l e R s m args below meth c H locs cells slots Q (F0 m pc ls rest)) : W p l e R s m args below meth c H locs cells slots Q (F0 m pc ls (.int i :: .null :: rest)) := by
  intro T hT X
  obtain ⟨t, st, q⟩ := k T hT X
  exact ⟨t, X.daloadNull hexec (g := F0 m pc ls (.int i :: .null :: rest)) rfl (rest := rest) rfl (by rw [hb]; exact hdg) t st, q⟩
theorem vx_aaloadN (hexec : p.tables.exec = Jvm.exec) (hb : c.code = cc) {i : Int32} (hdg : decode cc pc = .ok (.aaload, 1)) (k : vx_NoteN p l e R s m args below meth c H locs cells slots Q (F0 m pc ls rest)) : W p l e R s m args below meth c H locs cells slots Q (F0 m pc ls (.int i :: .null :: rest)) := by
  intro T hT X
  obtain ⟨t, st, q⟩ := k T hT X
  exact ⟨t, X.aaloadNull hexec (g := F0 m pc ls (.int i :: .null :: rest)) rfl (rest := rest) rfl (by rw [hb]; exact hdg) t st, q⟩
theorem vx_baloadN (hexec : p.tables.exec = Jvm.exec) (hb : c.code = cc) {i : Int32} (hdg : decode cc pc = .ok (.baload, 1)) (k : vx_NoteN p l e R s m args below meth c H locs cells slots Q (F0 m pc ls rest)) : W p l e R s m args below meth c H locs cells slots Q (F0 m pc ls (.int i :: .null :: rest)) := by
  intro T hT X
  obtain ⟨t, st, q⟩ := k T hT X
  exact ⟨t, X.baloadNull hexec (g := F0 m pc ls (.int i :: .null :: rest)) rfl (rest := rest) rfl (by rw [hb]; exact hdg) t st, q⟩
theorem vx_caloadN (hexec : p.tables.exec = Jvm.exec) (hb : c.code = cc) {i : Int32} (hdg : decode cc pc = .ok (.caload, 1)) (k : vx_NoteN p l e R s m args below meth c H locs cells slots Q (F0 m pc ls rest)) : W p l e R s m args below meth c H locs cells slots Q (F0 m pc ls (.int i :: .null :: rest)) := by
  intro T hT X
  obtain ⟨t, st, q⟩ := k T hT X
  exact ⟨t, X.caloadNull hexec (g := F0 m pc ls (.int i :: .null :: rest)) rfl (rest := rest) rfl (by rw [hb]; exact hdg) t st, q⟩
theorem vx_saloadN (hexec : p.tables.exec = Jvm.exec) (hb : c.code = cc) {i : Int32} (hdg : decode cc pc = .ok (.saload, 1)) (k : vx_NoteN p l e R s m args below meth c H locs cells slots Q (F0 m pc ls rest)) : W p l e R s m args below meth c H locs cells slots Q (F0 m pc ls (.int i :: .null :: rest)) := by
  intro T hT X
  obtain ⟨t, st, q⟩ := k T hT X
  exact ⟨t, X.saloadNull hexec (g := F0 m pc ls (.int i :: .null :: rest)) rfl (rest := rest) rfl (by rw [hb]; exact hdg) t st, q⟩
theorem vx_iastoreN (hexec : p.tables.exec = Jvm.exec) (hb : c.code = cc) {x : Int32} {i : Int32} (hdg : decode cc pc = .ok (.iastore, 1)) (k : vx_NoteN p l e R s m args below meth c H locs cells slots Q (F0 m pc ls rest)) : W p l e R s m args below meth c H locs cells slots Q (F0 m pc ls (.int x :: .int i :: .null :: rest)) := by
  intro T hT X
  obtain ⟨t, st, q⟩ := k T hT X
  exact ⟨t, X.iastoreNull hexec (g := F0 m pc ls (.int x :: .int i :: .null :: rest)) rfl (rest := rest) rfl (by rw [hb]; exact hdg) t st, q⟩
theorem vx_lastoreN (hexec : p.tables.exec = Jvm.exec) (hb : c.code = cc) {x : Int64} {i : Int32} (hdg : decode cc pc = .ok (.lastore, 1)) (k : vx_NoteN p l e R s m args below meth c H locs cells slots Q (F0 m pc ls rest)) : W p l e R s m args below meth c H locs cells slots Q (F0 m pc ls (.long x :: .int i :: .null :: rest)) := by
  intro T hT X
  obtain ⟨t, st, q⟩ := k T hT X
  exact ⟨t, X.lastoreNull hexec (g := F0 m pc ls (.long x :: .int i :: .null :: rest)) rfl (rest := rest) rfl (by rw [hb]; exact hdg) t st, q⟩
theorem vx_fastoreN (hexec : p.tables.exec = Jvm.exec) (hb : c.code = cc) {x : UInt32} {i : Int32} (hdg : decode cc pc = .ok (.fastore, 1)) (k : vx_NoteN p l e R s m args below meth c H locs cells slots Q (F0 m pc ls rest)) : W p l e R s m args below meth c H locs cells slots Q (F0 m pc ls (.float x :: .int i :: .null :: rest)) := by
  intro T hT X
  obtain ⟨t, st, q⟩ := k T hT X
  exact ⟨t, X.fastoreNull hexec (g := F0 m pc ls (.float x :: .int i :: .null :: rest)) rfl (rest := rest) rfl (by rw [hb]; exact hdg) t st, q⟩
theorem vx_dastoreN (hexec : p.tables.exec = Jvm.exec) (hb : c.code = cc) {x : UInt64} {i : Int32} (hdg : decode cc pc = .ok (.dastore, 1)) (k : vx_NoteN p l e R s m args below meth c H locs cells slots Q (F0 m pc ls rest)) : W p l e R s m args below meth c H locs cells slots Q (F0 m pc ls (.double x :: .int i :: .null :: rest)) := by
  intro T hT X
  obtain ⟨t, st, q⟩ := k T hT X
  exact ⟨t, X.dastoreNull hexec (g := F0 m pc ls (.double x :: .int i :: .null :: rest)) rfl (rest := rest) rfl (by rw [hb]; exact hdg) t st, q⟩
theorem vx_bastoreN (hexec : p.tables.exec = Jvm.exec) (hb : c.code = cc) {x : Int32} {i : Int32} (hdg : decode cc pc = .ok (.bastore, 1)) (k : vx_NoteN p l e R s m args below meth c H locs cells slots Q (F0 m pc ls rest)) : W p l e R s m args below meth c H locs cells slots Q (F0 m pc ls (.int x :: .int i :: .null :: rest)) := by
  intro T hT X
  obtain ⟨t, st, q⟩ := k T hT X
  exact ⟨t, X.bastoreNull hexec (g := F0 m pc ls (.int x :: .int i :: .null :: rest)) rfl (rest := rest) rfl (by rw [hb]; exact hdg) t st, q⟩
theorem vx_castoreN (hexec : p.tables.exec = Jvm.exec) (hb : c.code = cc) {x : Int32} {i : Int32} (hdg : decode cc pc = .ok (.castore, 1)) (k : vx_NoteN p l e R s m args below meth c H locs cells slots Q (F0 m pc ls rest)) : W p l e R s m args below meth c H locs cells slots Q (F0 m pc ls (.int x :: .int i :: .null :: rest)) := by
  intro T hT X
  obtain ⟨t, st, q⟩ := k T hT X
  exact ⟨t, X.castoreNull hexec (g := F0 m pc ls (.int x :: .int i :: .null :: rest)) rfl (rest := rest) rfl (by rw [hb]; exact hdg) t st, q⟩
theorem vx_sastoreN (hexec : p.tables.exec = Jvm.exec) (hb : c.code = cc) {x : Int32} {i : Int32} (hdg : decode cc pc = .ok (.sastore, 1)) (k : vx_NoteN p l e R s m args below meth c H locs cells slots Q (F0 m pc ls rest)) : W p l e R s m args below meth c H locs cells slots Q (F0 m pc ls (.int x :: .int i :: .null :: rest)) := by
  intro T hT X
  obtain ⟨t, st, q⟩ := k T hT X
  exact ⟨t, X.sastoreNull hexec (g := F0 m pc ls (.int x :: .int i :: .null :: rest)) rfl (rest := rest) rfl (by rw [hb]; exact hdg) t st, q⟩
theorem vx_invokeN {own C : String} {index maxL : Nat} {y : MethodName} {bytes : ByteArray} {ret : Option FieldType} (hexec : p.tables.exec = Jvm.exec) (hb : c.code = cc) (hown : s.vm.findClass own = some m.cls) (hlink : (Cond.methodLink own index y).before args s = true) (hinst : (Cond.instanceMethod y).before args s = true) (hcode : (Cond.code y bytes maxL ret).before args s = true) (hsel : (Cond.selects C y y).before args s = true)
    (hx : y.cls ≠ "java/lang/invoke/MethodHandle" ∧ y.cls ≠ "java/lang/invoke/VarHandle") {As : List Value} (hlen : (parseMethodDescriptor y.desc).map (fun d => d.parameters.length) = some As.length) (hdg : decode cc pc = .ok (.invokevirtual index, 3))
    (k : vx_NoteN p l e R s m args below meth c H locs cells slots Q (F0 m pc ls rest)) {st0 : List Value} (hst : st0 = As.reverse ++ .null :: rest) : W p l e R s m args below meth c H locs cells slots Q (F0 m pc ls st0) := by
  intro T hT X
  obtain ⟨r0, r, hn, hrm, hstR, hsigR⟩ := va_Decl.of hinst hcode
  obtain ⟨c2, r2, m2, q1, q2, q3, q4, kP, hkP, hkPi⟩ := Cond.selects_spec hsel
  cases hn.symm.trans q3
  have hl9 : As.length = r.sig.parameters.length := by
    rw [hsigR] at hlen
    exact (Option.some.inj hlen).symm
  obtain ⟨vm', X1, st1⟩ := X.invokevirtualNull hexec hown hlink hn hrm hstR hkP hkPi hx (g := F0 m pc ls st0) rfl (argsL := As) (rest := rest) hl9 hst (by rw [hb]; exact hdg)
  obtain ⟨t, st, q⟩ := k (T.setVm vm') hT X1
  exact ⟨t, st1 t st, q⟩
theorem vx_newarrayZ {atype : ArrayType} (hexec : p.tables.exec = Jvm.exec) (hb : c.code = cc) {n : Int32} (h0 : n < 0) (hdg : decode cc pc = .ok (.newarray atype, 2)) (k : ∀ tx : String, tx = toString n → vx_Note p l e R s m args below meth c H locs cells slots Q (F0 m pc ls rest) "java/lang/NegativeArraySizeException" tx) : W p l e R s m args below meth c H locs cells slots Q (F0 m pc ls (.int n :: rest)) := by
  intro T hT X
  obtain ⟨t, st, q⟩ := k _ rfl T hT X
  exact ⟨t, X.newarrayNegative hexec (g := F0 m pc ls (.int n :: rest)) rfl h0 (rest := rest) rfl (by rw [hb]; exact hdg) t st, q⟩
end
end VXM
/-! ===== END ===== -/
/-! ===== BEGIN an exception as an object: made, kept, thrown later (no traces kept) ===== -/
section VXK
variable {p : Program} {l : Launch} {e : Env} {R : Room} {s : State} {m₀ : MethodId} {args : Array Value} {below : List Frame} {meth : Method} {c : Code} {W : State} {locs : List Loc} {cells slots : Nat}
set_option maxHeartbeats 1000000 in
theorem vx_ctorMadeS (X : Stand p l e R s m₀ args below meth c W locs cells slots) (hexec : p.tables.exec = Jvm.exec) (htr : e.platform.stackTraces = false) {own cls : String} {names : List String} {ic : Nat}
    (hown : s.vm.findClass own = some m₀.cls) (hcls : Bundle.fit cls = true) (hnames : ∀ n ∈ names, Bundle.fit n = true)
    (h : ∀ a ∈ Bundle.ownAtoms own ic cls names, a.before args s = true)
    (hlocs : ∀ x ∈ locs, ∀ cell, s.heap[x.base]? = some cell → cell.vm.isStatics = false)
    {a : Addr} {cX : ClassId} {kX : Class} (hfoundX : s.vm.findClass cls = some cX) (hkX : s.vm.classes[cX]? = some kX) (hcell : W.heap[a]? = some (freshCell cX kX)) (hnew : s.heap.size ≤ a)
    {msg : Value} (hmsg : msg.isRef = true)
    {g : JFrame} (hg : g.method = m₀) (hsize : g.locals.size = c.maxLocals) {rest : List Value} (hstack : g.stack = msg :: .ref a :: .ref a :: rest)
    (hd6 : decode c.code g.pc = .ok (.invokespecial ic, 3))
    (hRframes : names.length + 3 < R.frames) (hRlocals : 2 * g.monitorRoom + ((Value.ref a :: rest).map fun v => v.category).sum + (13 * (names.length + 1) + 42) ≤ R.locals) :
    ∃ (V : State) (ce : Cell) (L : List Loc), Stand p l e R s m₀ args below meth c (V.setCell a ce) (locs ++ L) cells slots ∧ (∀ y ∈ L, y.base = a) ∧ a < V.heap.size ∧ ce.cls = cX ∧ ce.vm = .none ∧
      ∀ target, Steps p.tables e below ((V.setCell a ce).setTop { g with stack := .ref a :: rest, pc := g.pc + 3 }) target → Steps p.tables e below (W.setTop g) target := by
  have howns : e.platform.frameOwnsMonitors = true := by rw [X.admits.platform]
  have hfin : e.platform.finalization = false := by rw [X.admits.platform]
  have hpl : e.platform.magicAccessors = ({} : Platform).magicAccessors := by rw [X.admits.platform]
  have a' : ∀ x, x ∈ Bundle.ownAtoms own ic cls names → x.holds args s none s [] = true := fun x hx => h x hx
  obtain ⟨T, Z0, L, -, Y⟩ := ThrowableC.of_atoms (args := args) howns hfin hpl (fun x hx => h x (by simp [Bundle.ownAtoms, hx]))
  obtain ⟨Z, M, LZ, LM, hnZ⟩ := Init0T.ofS_atoms (args := args) hpl L Y (fun x hx => h x (by simp [Bundle.ownAtoms, hx]))
  obtain ⟨P1, Ps, hlen, L1, hL, hP1m, hlink1, hlink⟩ := Bundle.chainS (args := args) hpl hnZ names cls hcls hnames (fun x hx => h x (by simp [Bundle.ownAtoms, hx]))
  have hfound : s.vm.findClass cls = some P1.m.cls := findClass_of_methodNamed hP1m
  cases Option.some.inj (hfoundX.symm.trans hfound)
  obtain ⟨c1, kX', hc1, hk, hord, -, -, hn6⟩ := Cond.instantiable_spec (a' (.instantiable cls 6) (by simp [Bundle.ownAtoms]))
  cases Option.some.inj (hc1.symm.trans hfound)
  cases Option.some.inj (hkX.symm.trans hk)
  have hsel0 : selectMethod e.platform s.vm P1.m.cls T.fill0 = .method T.fill0 := by
    obtain ⟨c2, r2, m2, q1, q2, q3, q4, -⟩ := Cond.selects_spec (a' (.selects cls Bundle.tFill0 Bundle.tFill0) (by simp [Bundle.ownAtoms]))
    cases Option.some.inj (q1.symm.trans hfound)
    cases Option.some.inj (q2.symm.trans (State.methodFound?_of_named Y.fill0 (by decide)))
    cases Option.some.inj (q3.symm.trans Y.fill0)
    rw [Launch.admits_selectMethod X.admits]; exact q4
  have hselF : selectMethod e.platform s.vm P1.m.cls T.fill = .method T.fill := by
    obtain ⟨c2, r2, m2, q1, q2, q3, q4, -⟩ := Cond.selects_spec (a' (.selects cls Bundle.tFill Bundle.tFill) (by simp [Bundle.ownAtoms]))
    cases Option.some.inj (q1.symm.trans hfound)
    cases Option.some.inj (q2.symm.trans (State.methodFound?_of_named Y.fill (by decide)))
    cases Option.some.inj (q3.symm.trans Y.fill)
    rw [Launch.admits_selectMethod X.admits]; exact q4
  obtain ⟨cellS0, hcS0, hiss⟩ := Y.statics
  obtain ⟨u0, hu0⟩ := Cond.staticRefV Y.unassigned L.unassignedStatic L.statics hcS0 hiss (a' (.isRef (.static Bundle.tN "UNASSIGNED_STACK" Bundle.steD)) (by simp [Bundle.ownAtoms]))
  obtain ⟨sen, hsen⟩ := Cond.staticRefV Y.sentinel L.sentinelStatic L.statics hcS0 hiss (a' (.isRef (.static Bundle.tN "SUPPRESSED_SENTINEL" Bundle.listD)) (by simp [Bundle.ownAtoms]))
  obtain ⟨ci198, i198, fB, hk198, hg198, ha198, hsB, -, hnB, htB, hffB⟩ := Cond.ownField (t := .object "java/lang/Object") Y.found L.cls (by decide +kernel) (a' (.fieldLink Bundle.tN 198 Bundle.tN "backtrace" "Ljava/lang/Object;") (by simp [Bundle.ownAtoms])) (a' (.lays Bundle.tN Bundle.tN "backtrace" "Ljava/lang/Object;") (by simp [Bundle.ownAtoms])) e.platform hpl
  obtain ⟨cellS, hcS', heS, -, hkeep⟩ := X.same.2.2.2.2.2 T.aS cellS0 hcS0
  have hcellS : W.heap[T.aS]? = some cellS := hcS'
  have hout' : ∀ i, (⟨T.aS, i⟩ : Loc) ∉ locs := fun i hmem => by
    have := hlocs _ hmem cellS0 hcS0
    rw [hiss] at this; cases this
  have hknownS : cellS.vm ≠ .unknown := by
    rw [heS]; intro hu
    rw [show cellS0.vm = .unknown from hu] at hiss
    cases hiss
  have hneS : T.aS ≠ a := Nat.ne_of_lt (Nat.lt_of_lt_of_le (Array.getElem?_eq_some_iff.mp hcS0).1 hnew)
  obtain ⟨iM, hffM⟩ := Y.msg
  obtain ⟨tyC, dC, hdC, hdnC⟩ := Cond.laysAt hfound hk Y.cause (a' (.lays cls Bundle.tN "cause" "Ljava/lang/Throwable;") (by simp [Bundle.ownAtoms]))
  obtain ⟨tyS, dS, hdS, hdnS⟩ := Cond.laysAt hfound hk Y.stack (a' (.lays cls Bundle.tN "stackTrace" Bundle.steD) (by simp [Bundle.ownAtoms]))
  obtain ⟨tyP, dP, hdP, hdnP⟩ := Cond.laysAt hfound hk Y.supp (a' (.lays cls Bundle.tN "suppressedExceptions" Bundle.listD) (by simp [Bundle.ownAtoms]))
  obtain ⟨tyM, dM, hdM, hdnM⟩ := Cond.laysAt hfound hk hffM (a' (.lays cls Bundle.tN "detailMessage" "Ljava/lang/String;") (by simp [Bundle.ownAtoms]))
  obtain ⟨tyB, dB, hdB, hdnB⟩ := Cond.laysAt hfound hk hffB (a' (.lays cls Bundle.tN "backtrace" "Ljava/lang/Object;") (by simp [Bundle.ownAtoms]))
  have bC := Cond.laysApart hdB hdC hdnB hdnC (by rw [hnB, Y.causeName]; decide)
  have bS := Cond.laysApart hdB hdS hdnB hdnS (by rw [hnB, Y.stackName]; decide)
  have bP := Cond.laysApart hdB hdP hdnB hdnP (by rw [hnB, Y.suppName]; decide)
  have hskip : SkipFacts T e.platform s (fun u => u) u0 ((preparedCellV T.toThrowableT (freshCell P1.m.cls kX) a u0 sen).withEntry W.cur) :=
    ⟨{ ci198 := ci198, i198 := i198, fBack := fB }, ⟨hk198, hg198, ha198, hsB⟩, by
      have := fresh_default (c := P1.m.cls) tyB
      rw [htB] at this
      simpa [preparedCellV, Cell.setSlot, Cell.withEntry, Array.getElem?_setIfInBounds, bC, bS, bP, bC.symm, bS.symm, bP.symm, defaultValue] using this, fun _ _ => rfl⟩
  obtain ⟨tm, methC, cdC, kC, vm₁, hnC, -, -, -, -, -, -, -, hW₁, st1⟩ := Steps.initColdS (tb := p.tables) (e := e) (below := below) (s := s) (U := W) X.here hexec X.warmed hpl hown (t := Bundle.initS cls) rfl rfl (Bundle.fit_spec hcls).2
    (a' (.methodLink own ic (Bundle.initS cls)) (by simp [Bundle.ownAtoms])) (h (.instanceMethod (Bundle.initS cls)) (by cases names <;> simp [Bundle.ownAtoms, Bundle.chainSAtoms, Bundle.passSAtoms])) (bytes := Bundle.six) (maxL := 2) (h (.code (Bundle.initS cls) Bundle.six 2 none) (by cases names <;> simp [Bundle.ownAtoms, Bundle.chainSAtoms, Bundle.passSAtoms]))
    (f := g) hg (a := a) (msg := msg) (rest := .ref a :: rest) hstack hd6
  cases Option.some.inj (hnC.symm.trans hP1m)
  have X₁ := X.noted hW₁
  obtain ⟨vm₂, X₂, st2⟩ := X₁.ctorMessageOffV hexec (g := { g with stack := .ref a :: rest }) hg hsize T L Z LZ M LM (P1 :: Ps)
    (fun P hP => by rcases List.mem_cons.mp hP with rfl | hP; exact L1; exact hL P hP) ⟨hlink1, hlink⟩ (u0 := u0) (sen := sen) (self := a) hmsg (cell := freshCell P1.m.cls kX) (cellS := cellS)
    hcell (fun _ => by simp) (by simp) rfl rfl hsel0 hselF hcellS hneS hknownS (by rw [hkeep _ (hout' _)]; exact hu0) (by rw [hkeep _ (hout' _)]; exact hsen)
    (Takes.of_laid hk hord tyC (by rw [Y.causeType]; rfl)) (Takes.of_laid hk hord tyS (by rw [Y.stackType]; exact fits_refV_array _ u0)) (Takes.of_laid hk hord tyP (by rw [Y.suppType]; exact fits_refV_object _ sen))
    (Takes.of_laid hk hord tyM (by rw [Y.msgType]; exact fits_refV_object _ ⟨msg, hmsg⟩)) Y.objLocals hskip htr [] hd6
    (by simp only [List.length_cons, hlen]; omega) (by simp only [List.length_cons, hlen]; exact hRlocals)
  have hlt : a < ((W.setVm vm₁).setVm vm₂).heap.size := (Array.getElem?_eq_some_iff.mp hcell).1
  refine ⟨(W.setVm vm₁).setVm vm₂, _, _, X₂, fun y hy => ?_, hlt, rfl, rfl, fun target hwalk => st1 _ (fun acts => ?_)⟩
  · simp only [List.mem_cons, List.not_mem_nil, or_false] at hy
    rcases hy with rfl | rfl | rfl | rfl | rfl <;> rfl
  · rw [doInvoke_state]
    exact st2 _ hwalk
set_option maxHeartbeats 1000000 in
theorem vx_ctorMade0 (X : Stand p l e R s m₀ args below meth c W locs cells slots) (hexec : p.tables.exec = Jvm.exec) (htr : e.platform.stackTraces = false) {own cls : String} {names : List String} {ic : Nat}
    (hown : s.vm.findClass own = some m₀.cls) (hcls : Bundle.fit cls = true) (hnames : ∀ n ∈ names, Bundle.fit n = true)
    (h : ∀ a ∈ Bundle.ownAtoms0 own ic cls names, a.before args s = true)
    (hlocs : ∀ x ∈ locs, ∀ cell, s.heap[x.base]? = some cell → cell.vm.isStatics = false)
    {a : Addr} {cX : ClassId} {kX : Class} (hfoundX : s.vm.findClass cls = some cX) (hkX : s.vm.classes[cX]? = some kX) (hcell : W.heap[a]? = some (freshCell cX kX)) (hnew : s.heap.size ≤ a)
    {g : JFrame} (hg : g.method = m₀) (hsize : g.locals.size = c.maxLocals) {rest : List Value} (hstack : g.stack = .ref a :: .ref a :: rest)
    (hd6 : decode c.code g.pc = .ok (.invokespecial ic, 3))
    (hRframes : names.length + 3 < R.frames) (hRlocals : 2 * g.monitorRoom + ((Value.ref a :: rest).map fun v => v.category).sum + (13 * (names.length + 1) + 41) ≤ R.locals) :
    ∃ (V : State) (ce : Cell) (L : List Loc), Stand p l e R s m₀ args below meth c (V.setCell a ce) (locs ++ L) cells slots ∧ (∀ y ∈ L, y.base = a) ∧ a < V.heap.size ∧ ce.cls = cX ∧ ce.vm = .none ∧
      ∀ target, Steps p.tables e below ((V.setCell a ce).setTop { g with stack := .ref a :: rest, pc := g.pc + 3 }) target → Steps p.tables e below (W.setTop g) target := by
  have howns : e.platform.frameOwnsMonitors = true := by rw [X.admits.platform]
  have hfin : e.platform.finalization = false := by rw [X.admits.platform]
  have hpl : e.platform.magicAccessors = ({} : Platform).magicAccessors := by rw [X.admits.platform]
  have a' : ∀ x, x ∈ Bundle.ownAtoms0 own ic cls names → x.holds args s none s [] = true := fun x hx => h x hx
  obtain ⟨T, Z, L, LZ, Y⟩ := ThrowableC.of_atoms (args := args) howns hfin hpl (fun x hx => h x (by simp [Bundle.ownAtoms0, hx]))
  obtain ⟨P1, Ps, hlen, L1, hL, hP1m, hlink1, hlink⟩ := Bundle.chain0 (args := args) hpl Y.init0 names cls hcls hnames (fun x hx => h x (by simp [Bundle.ownAtoms0, hx]))
  have hfound : s.vm.findClass cls = some P1.m.cls := findClass_of_methodNamed hP1m
  cases Option.some.inj (hfoundX.symm.trans hfound)
  obtain ⟨c1, kX', hc1, hk, hord, -, -, hn6⟩ := Cond.instantiable_spec (a' (.instantiable cls 6) (by simp [Bundle.ownAtoms0]))
  cases Option.some.inj (hc1.symm.trans hfound)
  cases Option.some.inj (hkX.symm.trans hk)
  have hsel0 : selectMethod e.platform s.vm P1.m.cls T.fill0 = .method T.fill0 := by
    obtain ⟨c2, r2, m2, q1, q2, q3, q4, -⟩ := Cond.selects_spec (a' (.selects cls Bundle.tFill0 Bundle.tFill0) (by simp [Bundle.ownAtoms0]))
    cases Option.some.inj (q1.symm.trans hfound)
    cases Option.some.inj (q2.symm.trans (State.methodFound?_of_named Y.fill0 (by decide)))
    cases Option.some.inj (q3.symm.trans Y.fill0)
    rw [Launch.admits_selectMethod X.admits]; exact q4
  have hselF : selectMethod e.platform s.vm P1.m.cls T.fill = .method T.fill := by
    obtain ⟨c2, r2, m2, q1, q2, q3, q4, -⟩ := Cond.selects_spec (a' (.selects cls Bundle.tFill Bundle.tFill) (by simp [Bundle.ownAtoms0]))
    cases Option.some.inj (q1.symm.trans hfound)
    cases Option.some.inj (q2.symm.trans (State.methodFound?_of_named Y.fill (by decide)))
    cases Option.some.inj (q3.symm.trans Y.fill)
    rw [Launch.admits_selectMethod X.admits]; exact q4
  obtain ⟨cellS0, hcS0, hiss⟩ := Y.statics
  obtain ⟨u0, hu0⟩ := Cond.staticRefV Y.unassigned L.unassignedStatic L.statics hcS0 hiss (a' (.isRef (.static Bundle.tN "UNASSIGNED_STACK" Bundle.steD)) (by simp [Bundle.ownAtoms0]))
  obtain ⟨sen, hsen⟩ := Cond.staticRefV Y.sentinel L.sentinelStatic L.statics hcS0 hiss (a' (.isRef (.static Bundle.tN "SUPPRESSED_SENTINEL" Bundle.listD)) (by simp [Bundle.ownAtoms0]))
  obtain ⟨ci198, i198, fB, hk198, hg198, ha198, hsB, -, hnB, htB, hffB⟩ := Cond.ownField (t := .object "java/lang/Object") Y.found L.cls (by decide +kernel) (a' (.fieldLink Bundle.tN 198 Bundle.tN "backtrace" "Ljava/lang/Object;") (by simp [Bundle.ownAtoms0])) (a' (.lays Bundle.tN Bundle.tN "backtrace" "Ljava/lang/Object;") (by simp [Bundle.ownAtoms0])) e.platform hpl
  obtain ⟨cellS, hcS', heS, -, hkeep⟩ := X.same.2.2.2.2.2 T.aS cellS0 hcS0
  have hcellS : W.heap[T.aS]? = some cellS := hcS'
  have hout' : ∀ i, (⟨T.aS, i⟩ : Loc) ∉ locs := fun i hmem => by
    have := hlocs _ hmem cellS0 hcS0
    rw [hiss] at this; cases this
  have hknownS : cellS.vm ≠ .unknown := by
    rw [heS]; intro hu
    rw [show cellS0.vm = .unknown from hu] at hiss
    cases hiss
  have hneS : T.aS ≠ a := Nat.ne_of_lt (Nat.lt_of_lt_of_le (Array.getElem?_eq_some_iff.mp hcS0).1 hnew)
  obtain ⟨iM, hffM⟩ := Y.msg
  obtain ⟨tyC, dC, hdC, hdnC⟩ := Cond.laysAt hfound hk Y.cause (a' (.lays cls Bundle.tN "cause" "Ljava/lang/Throwable;") (by simp [Bundle.ownAtoms0]))
  obtain ⟨tyS, dS, hdS, hdnS⟩ := Cond.laysAt hfound hk Y.stack (a' (.lays cls Bundle.tN "stackTrace" Bundle.steD) (by simp [Bundle.ownAtoms0]))
  obtain ⟨tyP, dP, hdP, hdnP⟩ := Cond.laysAt hfound hk Y.supp (a' (.lays cls Bundle.tN "suppressedExceptions" Bundle.listD) (by simp [Bundle.ownAtoms0]))
  obtain ⟨tyM, dM, hdM, hdnM⟩ := Cond.laysAt hfound hk hffM (a' (.lays cls Bundle.tN "detailMessage" "Ljava/lang/String;") (by simp [Bundle.ownAtoms0]))
  obtain ⟨tyB, dB, hdB, hdnB⟩ := Cond.laysAt hfound hk hffB (a' (.lays cls Bundle.tN "backtrace" "Ljava/lang/Object;") (by simp [Bundle.ownAtoms0]))
  have bC := Cond.laysApart hdB hdC hdnB hdnC (by rw [hnB, Y.causeName]; decide)
  have bS := Cond.laysApart hdB hdS hdnB hdnS (by rw [hnB, Y.stackName]; decide)
  have bP := Cond.laysApart hdB hdP hdnB hdnP (by rw [hnB, Y.suppName]; decide)
  have hskip : SkipFacts T e.platform s (fun u => u) u0 ((preparedCellV T.toThrowableT (freshCell P1.m.cls kX) a u0 sen).withEntry W.cur) :=
    ⟨{ ci198 := ci198, i198 := i198, fBack := fB }, ⟨hk198, hg198, ha198, hsB⟩, by
      have := fresh_default (c := P1.m.cls) tyB
      rw [htB] at this
      simpa [preparedCellV, Cell.setSlot, Cell.withEntry, Array.getElem?_setIfInBounds, bC, bS, bP, bC.symm, bS.symm, bP.symm, defaultValue] using this, fun _ _ => rfl⟩
  obtain ⟨tm, methC, cdC, kC, vm₁, hnC, -, -, -, -, -, -, -, hW₁, st1⟩ := Steps.initCold (tb := p.tables) (e := e) (below := below) (s := s) (U := W) X.here hexec X.warmed hpl hown (t := Bundle.init0 cls) rfl rfl (Bundle.fit_spec hcls).2
    (a' (.methodLink own ic (Bundle.init0 cls)) (by simp [Bundle.ownAtoms0])) (h (.instanceMethod (Bundle.init0 cls)) (by cases names <;> simp [Bundle.ownAtoms0, Bundle.chain0Atoms, Bundle.passAtoms])) (bytes := Bundle.five) (maxL := 1) (h (.code (Bundle.init0 cls) Bundle.five 1 none) (by cases names <;> simp [Bundle.ownAtoms0, Bundle.chain0Atoms, Bundle.passAtoms]))
    (f := g) hg (a := a) (rest := .ref a :: rest) hstack hd6
  cases Option.some.inj (hnC.symm.trans hP1m)
  have X₁ := X.noted hW₁
  obtain ⟨vm₂, X₂, st2⟩ := X₁.ctorPlainOffV hexec (g := { g with stack := .ref a :: rest }) hg hsize T L Z LZ (P1 :: Ps)
    (fun P hP => by rcases List.mem_cons.mp hP with rfl | hP; exact L1; exact hL P hP) ⟨hlink1, hlink⟩ (u0 := u0) (sen := sen) (self := a) (cell := freshCell P1.m.cls kX) (cellS := cellS)
    hcell (fun _ => by simp) (by simp) rfl rfl hsel0 hselF hcellS hneS hknownS (by rw [hkeep _ (hout' _)]; exact hu0) (by rw [hkeep _ (hout' _)]; exact hsen)
    (Takes.of_laid hk hord tyC (by rw [Y.causeType]; rfl)) (Takes.of_laid hk hord tyS (by rw [Y.stackType]; exact fits_refV_array _ u0)) (Takes.of_laid hk hord tyP (by rw [Y.suppType]; exact fits_refV_object _ sen)) Y.objLocals hskip htr [] hd6
    (by simp only [List.length_cons, hlen]; omega) (by simp only [List.length_cons, hlen]; exact hRlocals)
  have hlt : a < ((W.setVm vm₁).setVm vm₂).heap.size := (Array.getElem?_eq_some_iff.mp hcell).1
  refine ⟨(W.setVm vm₁).setVm vm₂, _, _, X₂, fun y hy => ?_, hlt, rfl, rfl, fun target hwalk => st1 _ (fun acts => ?_)⟩
  · simp only [List.mem_cons, List.not_mem_nil, or_false] at hy
    rcases hy with rfl | rfl | rfl | rfl <;> rfl
  · rw [doInvoke_state]
    exact st2 _ hwalk
end VXK
section VXK2
variable {p : Program} {l : Launch} {e : Env} {R : Room} {s : State} {m : MethodId} {args : Array Value} {below : List Frame} {meth : Method} {c : Code} {H : Heap} {locs : List Loc} {cells slots : Nat} {Q : State → Prop}
variable {ls : Array Slot} {rest : List Value} {D : va_G} {cl : List vw_C} {tys : List (ClassId × FieldType)} {ws : va_W}
/-- 'new E("text")' that isn't thrown at once: the object goes on the stack -/
theorem vx_makeS {cc : ByteArray} {pc : Nat} (hexec : p.tables.exec = Jvm.exec) (hb : c.code = cc) (hl : l.stackTraces = false) {own cls text : String} {names : List String} {ik is ic sa ci : Nat} {A : Nat → Prop} {T0 : u_T}
    (hown : s.vm.findClass own = some m.cls) (hcls : Bundle.fit cls = true) (hnames : ∀ n ∈ names, Bundle.fit n = true)
    (hk : (Cond.classLink own ik cls).before args s = true) (hini : (Cond.initialized cls).before args s = true) (hstr : vk_R own is text sa s) (hat : ∀ w ∈ vx_atS own ic cls names, w.before args s = true)
    (hgood : ∀ w ∈ Cond.classLink own ik cls :: Cond.initialized cls :: vx_atS own ic cls names, vx_ot w = true)
    (hU : vx_Zq Bundle.tN "UNASSIGNED_STACK" Bundle.steD A s s.heap) (hN : vx_Zq Bundle.tN "SUPPRESSED_SENTINEL" Bundle.listD A s s.heap) (hS : va_S A s.heap H locs) (hsize : ls.size = c.maxLocals)
    (d0 : decode cc pc = .ok (.new ik, 3)) (d3 : decode cc (pc + 3) = .ok (.dup, 1)) (d4 : decode cc (pc + 4) = .ok (.ldc is, 2)) (d6 : decode cc (pc + 6) = .ok (.invokespecial ic, 3))
    (hK : va_K D cl tys s) (hP : va_P D cl ws H) (hD : va_D A ws) (hA : ∀ q, s.heap.size ≤ q → A q) (hc : cl[ci]? = some (cls, T0, 0))
    (hRframes : names.length + 3 < R.frames) (hRlocals : (rest.map fun v => v.category).sum + (13 * (names.length + 1) + 43) ≤ R.locals) (hRcells : cells + 1 ≤ R.cells) (hRslots : slots + 6 ≤ R.slots)
    (kk : ∀ (q : Nat) (H1 : Heap), va_P D cl (ws ++ [(q, .inr (ci, []))]) H1 → va_D A (ws ++ [(q, .inr (ci, []))]) → va_S A s.heap H1 locs → W p l e R s m args below meth c H1 locs (cells + 1) (slots + 6) Q (F0 m (pc + 9) ls (.ref q :: rest))) :
    W p l e R s m args below meth c H locs cells slots Q (F0 m pc ls rest) := by
  intro T hT X
  subst hT
  have htr : e.platform.stackTraces = false := (show e.platform.stackTraces = l.stackTraces by rw [X.admits.platform]).trans hl
  have Y := vx_rebase X (R' := { frames := R.frames, locals := R.locals, cells := 1, slots := 6 }) (Nat.le_refl _) (Nat.le_refl _) hRcells hRslots
  obtain ⟨s', hA'⟩ : ∃ z, z = (T.setVm s.vm).setFrames (.invoking m args :: below) := ⟨_, rfl⟩
  rw [← hA'] at Y
  have hvm : s'.vm = s.vm := by rw [hA']; rfl
  have hhp : s'.heap = T.heap := by rw [hA']; rfl
  have hW0 : s.WarmedH s'.vm := by rw [hvm]; exact State.WarmedH.refl s
  have hat' : ∀ w ∈ vx_atS own ic cls names, w.before args s' = true := fun w hw => vx_ot_at hW0 hvm.symm (hgood w (List.mem_cons_of_mem _ (List.mem_cons_of_mem _ hw))) (hat w hw)
  have hk' : (Cond.classLink own ik cls).before args s' = true := vx_ot_at hW0 hvm.symm (hgood _ List.mem_cons_self) hk
  have hini' : (Cond.initialized cls).before args s' = true := vx_ot_at hW0 hvm.symm (hgood _ (List.mem_cons_of_mem _ List.mem_cons_self)) hini
  have hU' : vx_Zq Bundle.tN "UNASSIGNED_STACK" Bundle.steD A s' s'.heap := by rw [hhp]; exact vx_Zq.moved hW0.alike (hU.kept hS.2.1)
  have hN' : vx_Zq Bundle.tN "SUPPRESSED_SENTINEL" Bundle.listD A s' s'.heap := by rw [hhp]; exact vx_Zq.moved hW0.alike (hN.kept hS.2.1)
  have h : ∀ w ∈ Bundle.ownAtoms own ic cls names, w.before args s' = true := vx_own hat' (vx_isRefq hU'.1) (vx_isRefq hN'.1) hU'.2.word hN'.2.word
  have hown' : s'.vm.findClass own = some m.cls := by rw [hvm]; exact hown
  have hins : (Cond.instantiable cls 6).before args s' = true := h _ (by simp [Bundle.ownAtoms])
  obtain ⟨vm₁, cX, kX, hfX, hkX, -, -, X₁, st1⟩ := Y.newCold hexec (own := own) (C := cls) (index := ik) (n := 6) hown' hk' hins hini'
    (g := F0 m pc ls rest) rfl (by rw [hb]; exact d0) (Nat.le_refl _) (Nat.le_refl _)
  generalize hT1 : (T.setVm vm₁).pushCell { cls := cX, slots := kX.instanceTypes.map defaultValue, vm := .none } = T1 at X₁ st1
  have hcat : (Value.ref T.heap.size).category = 1 := rfl
  have hcellA : T1.heap[T.heap.size]? = some (freshCell cX kX) := by rw [← hT1]; exact State.heap_pushCell_size _ _
  have d3' : decode c.code (pc + 3) = .ok (.dup, 1) := by rw [hb]; exact d3
  have d4' : decode c.code (pc + 4) = .ok (.ldc is, 2) := by rw [hb]; exact d4
  have hstr' : vk_R own is text sa s' := vk_R.warm hW0 hstr
  obtain ⟨V, ce, L, Z, hL, hlt, hcl9, hvm9, st⟩ := vx_ctorMadeS X₁ hexec htr (own := own) (cls := cls) (names := names) (ic := ic) hown' hcls hnames h (fun x hx => nomatch hx) hfX hkX hcellA (by rw [hhp]; exact Nat.le_refl _) (msg := .ref sa) rfl
    (g := { method := m, pc := pc + 6, locals := ls, stack := .ref sa :: .ref T.heap.size :: .ref T.heap.size :: rest, locked := none }) rfl hsize (rest := rest) rfl
    (by rw [hb]; exact d6) hRframes (by simp only [List.map_cons, List.sum_cons, hcat]; omega)
  have Z0 := Stand.forget (locs := []) Z (fun y hy => by rw [hL y hy, hhp]; exact Nat.le_refl _)
  obtain ⟨f1, f2⟩ := vx_frame Z0.same
  rw [hhp] at f1 f2
  have hcid : ce.cls = D.1 ci := by
    rw [hcl9]
    have h1 := (hK.1 ci _ hc).2.1
    rw [hvm] at hfX
    exact Option.some.inj (hfX.symm.trans h1)
  have hh : (V.setCell T.heap.size ce).heap[T.heap.size]? = some ce := heapAt_setCell_self (s := V) ce hlt
  subst hA'
  have X5 := vx_back9 X Y Z0
  have X6 : Stand p l e R s m args below meth c (V.setCell T.heap.size ce) locs (cells + 1) (slots + 6) := { X5 with same := X5.same.mono (by omega) (by omega) }
  have hk9 : ∀ (k : Nat) (x : Nat × va_E), ws[k]? = some x → (V.setCell T.heap.size ce).heap[x.1]? = T.heap[x.1]? := fun k x hx => f2 x.1 ((hP k x hx).lt) (fun z hz => nomatch hz)
  obtain ⟨t, a1, b1⟩ := kk T.heap.size (V.setCell T.heap.size ce).heap ((hP.kept hk9).app (fun k x hx => by
      have hz : k < 1 := (List.getElem?_eq_some_iff.mp hx).1
      rw [show k = 0 by omega] at hx
      cases hx
      exact ⟨_, hc, ce, hh, hcid, hvm9, fun k hk => absurd hk (Nat.not_lt_zero k)⟩)) (hD.push hP rfl (hA _ hS.1)) ⟨Nat.le_trans hS.1 f1, fun q h1 h2 => (f2 q (Nat.lt_of_lt_of_le h1 hS.1) (fun z hz => nomatch hz)).trans (hS.2.1 q h1 h2), hS.2.2⟩ _ rfl X6
  refine ⟨t, st1 _ ?_, b1⟩
  show Steps p.tables e below (T1.setTop { method := m, pc := pc + 3, locals := ls, stack := .ref T.heap.size :: rest, locked := none }) _
  jvm_step X₁.here [X₁.here.top, hexec, d3', Value.category]
  exact X₁.ldcString hexec (own := own) (text := text) (index := is) (a := sa) hown' hstr'.1 hstr'.2
    (g := { method := m, pc := pc + 4, locals := ls, stack := .ref T.heap.size :: .ref T.heap.size :: rest, locked := none }) rfl d4' _ (st _ a1)
/-- 'new E()' that isn't thrown at once: the object goes on the stack -/
theorem vx_make0 {cc : ByteArray} {pc : Nat} (hexec : p.tables.exec = Jvm.exec) (hb : c.code = cc) (hl : l.stackTraces = false) {own cls : String} {names : List String} {ik ic ci : Nat} {A : Nat → Prop} {T0 : u_T}
    (hown : s.vm.findClass own = some m.cls) (hcls : Bundle.fit cls = true) (hnames : ∀ n ∈ names, Bundle.fit n = true)
    (hk : (Cond.classLink own ik cls).before args s = true) (hini : (Cond.initialized cls).before args s = true) (hat : ∀ w ∈ vx_at0 own ic cls names, w.before args s = true)
    (hgood : ∀ w ∈ Cond.classLink own ik cls :: Cond.initialized cls :: vx_at0 own ic cls names, vx_ot w = true)
    (hU : vx_Zq Bundle.tN "UNASSIGNED_STACK" Bundle.steD A s s.heap) (hN : vx_Zq Bundle.tN "SUPPRESSED_SENTINEL" Bundle.listD A s s.heap) (hS : va_S A s.heap H locs) (hsize : ls.size = c.maxLocals)
    (d0 : decode cc pc = .ok (.new ik, 3)) (d3 : decode cc (pc + 3) = .ok (.dup, 1)) (d4 : decode cc (pc + 4) = .ok (.invokespecial ic, 3))
    (hK : va_K D cl tys s) (hP : va_P D cl ws H) (hD : va_D A ws) (hA : ∀ q, s.heap.size ≤ q → A q) (hc : cl[ci]? = some (cls, T0, 0))
    (hRframes : names.length + 3 < R.frames) (hRlocals : (rest.map fun v => v.category).sum + (13 * (names.length + 1) + 42) ≤ R.locals) (hRcells : cells + 1 ≤ R.cells) (hRslots : slots + 6 ≤ R.slots)
    (kk : ∀ (q : Nat) (H1 : Heap), va_P D cl (ws ++ [(q, .inr (ci, []))]) H1 → va_D A (ws ++ [(q, .inr (ci, []))]) → va_S A s.heap H1 locs → W p l e R s m args below meth c H1 locs (cells + 1) (slots + 6) Q (F0 m (pc + 7) ls (.ref q :: rest))) :
    W p l e R s m args below meth c H locs cells slots Q (F0 m pc ls rest) := by
  intro T hT X
  subst hT
  have htr : e.platform.stackTraces = false := (show e.platform.stackTraces = l.stackTraces by rw [X.admits.platform]).trans hl
  have Y := vx_rebase X (R' := { frames := R.frames, locals := R.locals, cells := 1, slots := 6 }) (Nat.le_refl _) (Nat.le_refl _) hRcells hRslots
  obtain ⟨s', hA'⟩ : ∃ z, z = (T.setVm s.vm).setFrames (.invoking m args :: below) := ⟨_, rfl⟩
  rw [← hA'] at Y
  have hvm : s'.vm = s.vm := by rw [hA']; rfl
  have hhp : s'.heap = T.heap := by rw [hA']; rfl
  have hW0 : s.WarmedH s'.vm := by rw [hvm]; exact State.WarmedH.refl s
  have hat' : ∀ w ∈ vx_at0 own ic cls names, w.before args s' = true := fun w hw => vx_ot_at hW0 hvm.symm (hgood w (List.mem_cons_of_mem _ (List.mem_cons_of_mem _ hw))) (hat w hw)
  have hk' : (Cond.classLink own ik cls).before args s' = true := vx_ot_at hW0 hvm.symm (hgood _ List.mem_cons_self) hk
  have hini' : (Cond.initialized cls).before args s' = true := vx_ot_at hW0 hvm.symm (hgood _ (List.mem_cons_of_mem _ List.mem_cons_self)) hini
  have hU' : vx_Zq Bundle.tN "UNASSIGNED_STACK" Bundle.steD A s' s'.heap := by rw [hhp]; exact vx_Zq.moved hW0.alike (hU.kept hS.2.1)
  have hN' : vx_Zq Bundle.tN "SUPPRESSED_SENTINEL" Bundle.listD A s' s'.heap := by rw [hhp]; exact vx_Zq.moved hW0.alike (hN.kept hS.2.1)
  have h : ∀ w ∈ Bundle.ownAtoms0 own ic cls names, w.before args s' = true := vx_own hat' (vx_isRefq hU'.1) (vx_isRefq hN'.1) hU'.2.word hN'.2.word
  have hown' : s'.vm.findClass own = some m.cls := by rw [hvm]; exact hown
  have hins : (Cond.instantiable cls 6).before args s' = true := h _ (by simp [Bundle.ownAtoms0])
  obtain ⟨vm₁, cX, kX, hfX, hkX, -, -, X₁, st1⟩ := Y.newCold hexec (own := own) (C := cls) (index := ik) (n := 6) hown' hk' hins hini'
    (g := F0 m pc ls rest) rfl (by rw [hb]; exact d0) (Nat.le_refl _) (Nat.le_refl _)
  generalize hT1 : (T.setVm vm₁).pushCell { cls := cX, slots := kX.instanceTypes.map defaultValue, vm := .none } = T1 at X₁ st1
  have hcat : (Value.ref T.heap.size).category = 1 := rfl
  have hcellA : T1.heap[T.heap.size]? = some (freshCell cX kX) := by rw [← hT1]; exact State.heap_pushCell_size _ _
  have d3' : decode c.code (pc + 3) = .ok (.dup, 1) := by rw [hb]; exact d3
  obtain ⟨V, ce, L, Z, hL, hlt, hcl9, hvm9, st⟩ := vx_ctorMade0 X₁ hexec htr (own := own) (cls := cls) (names := names) (ic := ic) hown' hcls hnames h (fun x hx => nomatch hx) hfX hkX hcellA (by rw [hhp]; exact Nat.le_refl _)
    (g := { method := m, pc := pc + 4, locals := ls, stack := .ref T.heap.size :: .ref T.heap.size :: rest, locked := none }) rfl hsize (rest := rest) rfl
    (by rw [hb]; exact d4) hRframes (by simp only [List.map_cons, List.sum_cons, hcat]; omega)
  have Z0 := Stand.forget (locs := []) Z (fun y hy => by rw [hL y hy, hhp]; exact Nat.le_refl _)
  obtain ⟨f1, f2⟩ := vx_frame Z0.same
  rw [hhp] at f1 f2
  have hcid : ce.cls = D.1 ci := by
    rw [hcl9]
    have h1 := (hK.1 ci _ hc).2.1
    rw [hvm] at hfX
    exact Option.some.inj (hfX.symm.trans h1)
  have hh : (V.setCell T.heap.size ce).heap[T.heap.size]? = some ce := heapAt_setCell_self (s := V) ce hlt
  subst hA'
  have X5 := vx_back9 X Y Z0
  have X6 : Stand p l e R s m args below meth c (V.setCell T.heap.size ce) locs (cells + 1) (slots + 6) := { X5 with same := X5.same.mono (by omega) (by omega) }
  have hk9 : ∀ (k : Nat) (x : Nat × va_E), ws[k]? = some x → (V.setCell T.heap.size ce).heap[x.1]? = T.heap[x.1]? := fun k x hx => f2 x.1 ((hP k x hx).lt) (fun z hz => nomatch hz)
  obtain ⟨t, a1, b1⟩ := kk T.heap.size (V.setCell T.heap.size ce).heap ((hP.kept hk9).app (fun k x hx => by
      have hz : k < 1 := (List.getElem?_eq_some_iff.mp hx).1
      rw [show k = 0 by omega] at hx
      cases hx
      exact ⟨_, hc, ce, hh, hcid, hvm9, fun k hk => absurd hk (Nat.not_lt_zero k)⟩)) (hD.push hP rfl (hA _ hS.1)) ⟨Nat.le_trans hS.1 f1, fun q h1 h2 => (f2 q (Nat.lt_of_lt_of_le h1 hS.1) (fun z hz => nomatch hz)).trans (hS.2.1 q h1 h2), hS.2.2⟩ _ rfl X6
  refine ⟨t, st1 _ ?_, b1⟩
  show Steps p.tables e below (T1.setTop { method := m, pc := pc + 3, locals := ls, stack := .ref T.heap.size :: rest, locked := none }) _
  jvm_step X₁.here [X₁.here.top, hexec, d3', Value.category]
  exact st _ a1
/-- 'throw x' of an object that was made before -/
theorem vx_athrow {cc : ByteArray} {pc : Nat} (hexec : p.tables.exec = Jvm.exec) (hb : c.code = cc) {q : Addr} (hdg : decode cc pc = .ok (.athrow, 1)) (k : vx_W p l e R s m args below meth c H locs cells slots Q (F0 m pc ls rest) q) : W p l e R s m args below meth c H locs cells slots Q (F0 m pc ls (.ref q :: rest)) := by
  intro T hT X
  obtain ⟨t, st, hq⟩ := k T hT X
  refine ⟨t, ?_, hq⟩
  have hdg' : decode c.code pc = .ok (.athrow, 1) := by rw [hb]; exact hdg
  jvm_step X.here [X.here.top, hexec, hdg', athrow.wp_sem]
  exact st
end VXK2
/-! ===== END ===== -/
/-! ===== BEGIN a constructor that throws (launches without stack traces) ===== -/
section VXIA
variable {p : Program} {l : Launch} {e : Env} {R : Room} {s : State} {m : MethodId} {args : Array Value} {below : List Frame} {meth : Method} {c : Code} {T : State} {locs : List Loc} {cells slots : Nat}
theorem vx_callI (X : Stand p l e R s m args below meth c T locs cells slots) (hexec : p.tables.exec = Jvm.exec) {own : String} {index : Nat} {y : MethodName} {bytes : ByteArray} {maxL : Nat}
    (hown : s.vm.findClass own = some m.cls) (hy1 : y.name = "<init>") (hlink : (Cond.methodLink own index y).before args s = true) (hinst : (Cond.instanceMethod y).before args s = true)
    (hcode : (Cond.code y bytes maxL none).before args s = true) (hy : y.cls ≠ "java/lang/invoke/MethodHandle" ∧ y.cls ≠ "java/lang/invoke/VarHandle")
    {W9 : Nat} {Pre : Pt → Array Value → Prop} {Post : Pt → Array Value → Option Value → Pt → Prop} {PostX : Pt → Array Value → Addr → Pt → Prop} (hK : vx_Back l R p e below s args y 3 W9 Pre Post PostX)
    {g : JFrame} (hg : g.method = m) (hsize : g.locals.size = c.maxLocals) {a : Addr} {argsL rest : List Value} (hlen : ∀ sig, parseMethodDescriptor y.desc = some sig → argsL.length = sig.parameters.length)
    (hstack : g.stack = argsL.reverse ++ .ref a :: rest) (hW : 2 * g.monitorRoom + (rest.map fun v => v.category).sum ≤ W9) (hdg : decode c.code g.pc = .ok (.invokespecial index, 3))
    (hpre : ∀ vm₁, s.WarmedH vm₁ → Pre ⟨T.setVm vm₁, locs, cells, slots⟩ (Value.ref a :: argsL).toArray) :
    (∃ (v : Option Value) (vm₁ : Vm) (B : Pt), s.WarmedH vm₁ ∧ Stand p l e R s m args below meth c B.U B.locs B.cells B.slots ∧ Post ⟨T.setVm vm₁, locs, cells, slots⟩ (Value.ref a :: argsL).toArray v B ∧
      ∀ target, Steps p.tables e below (B.U.setTop { g with pc := g.pc + 3, stack := v.toList ++ rest }) target → Steps p.tables e below (T.setTop g) target) ∨
    (∃ (q : Addr) (vm₁ : Vm) (B : Pt), s.WarmedH vm₁ ∧ Stand p l e R s m args below meth c B.U B.locs B.cells B.slots ∧ PostX ⟨T.setVm vm₁, locs, cells, slots⟩ (Value.ref a :: argsL).toArray q B ∧
      Steps p.tables e below (T.setTop g) ((B.U.setTop { g with stack := rest }).pushFrame (.throwing q))) := by
  subst hg
  have hpl : e.platform.magicAccessors = ({} : Platform).magicAccessors := by rw [X.admits.platform]
  obtain ⟨mk, methM, cM, kP, vm₁, hnamed, hmethM, hcodeM, -, hlocalsM, -, hkP, -, hW₁, hstep₁⟩ := Steps.initColdArgs (e := e) X.here hexec X.warmed hpl hown hy1 hy hlink hinst hcode (f := g) rfl hlen hstack hdg
  have X₁ := X.noted hW₁
  rcases hK g.method meth c ⟨T.setVm vm₁, locs, cells, slots⟩ { g with stack := rest } (.invokespecial index) mk (Value.ref a :: argsL).toArray X₁ rfl hsize hdg hW (X₁.named hnamed) (hpre vm₁ X₁.warmed) with ⟨v, B, X', hpost, hsteps⟩ | ⟨q, B, X', hpost, hsteps⟩
  · exact Or.inl ⟨v, vm₁, B, X₁.warmed, X', hpost, fun target h => hstep₁ _ fun acts => by rw [doInvoke_state]; exact hsteps.trans h⟩
  · exact Or.inr ⟨q, vm₁, B, X₁.warmed, X', hpost, hstep₁ _ fun acts => by rw [doInvoke_state]; exact hsteps⟩
end VXIA
section VXIB
variable {p : Program} {l : Launch} {e : Env} {R : Room} {s : State} {m : MethodId} {args : Array Value} {below : List Frame} {meth : Method} {c : Code} {H : Heap} {locs : List Loc} {cells slots : Nat}
variable {y : MethodName} {bytes cc : ByteArray} {maxL nL mc ms n index : Nat} {ret : Option FieldType} {ws : List Cond} {rm : Room} {Pc : Array Value → State → Prop} {Qc : Array Value → State → Outcome → State → Prop} {XC : String → State → State → Prop} {free : Addr → Prop} {Ts : List Cond} {own C : String} {b : Addr} {As rest : List Value} {g : JFrame}
theorem vx_runI (S : CallFix p m c cc nL s args Ts own) (hM : vx_Met l y ws rm Pc Qc XC mc ms free) (cw : CallB R s args own index y bytes maxL none ws rm mc ms n ∧ y.name = "<init>" ∧ (Cond.instanceMethod y).before args s = true) (hp : PreS s H Pc (.ref b :: As))
    (hg : g.method = m) (hn : As.length = n) (hsize : g.locals.size = nL) (hstack : g.stack = As.reverse ++ .ref b :: rest) (hW : 2 * g.monitorRoom + (rest.map fun v => v.category).sum ≤ 8) (hdg : decode cc g.pc = .ok (.invokespecial index, 3)) (hf : cells + mc ≤ R.cells ∧ slots + ms ≤ R.slots) :
    vx_Run p l e R s m args below meth c H locs cells slots mc ms g rest (Qc (Value.ref b :: As).toArray) XC free := by
  have hK : vx_Back l R p e below s args y 3 8 (PreOf R mc ms Pc) (PostOf Qc mc ms free) (vx_Post XC mc ms free) := vx_callBack cw.1 hM hp.1
  obtain ⟨⟨-, -, -, -, -, -, hcode, -, hy, hlen, hl⟩, hy1, hin⟩ := cw
  obtain ⟨hx, hb, hml, ho, -⟩ := S
  have hPc := hp.2
  intro T hT X
  rcases vx_callI X hx (bytes := bytes) (maxL := maxL) ho hy1 hl hin hcode hy hK hg (hsize.trans hml.symm) (a := b) (argsL := As) (rest := rest) (fun sig h => hn.trans (hlen sig h)) hstack hW (by rw [hb]; exact hdg)
    (fun vm₁ hW₁ => ⟨hf.1, hf.2, hPc (T.setVm vm₁) hT hW₁⟩) with ⟨v, vm₁, ⟨U', l2, c2, s2⟩, hW₁, X', ⟨g', mk, t, L, e1, e2, hq, h1, hL, h2, h3⟩, st⟩ | ⟨q, vm₁, ⟨U', l2, c2, s2⟩, hW₁, X', ⟨g', mk, t, L, E, ce, e1, e2, hq, hce, hcv, hcl, h1, hL, h2, h3⟩, st⟩
  · dsimp only [Pt.U, Pt.locs, Pt.cells, Pt.slots] at X' e1 e2 h1 h2 h3 st
    subst h1; subst h2; subst h3
    exact Or.inl ⟨v, (T.setVm vm₁).calling g' mk (Value.ref b :: As).toArray, t, U', L, hT, X', hL, e1, e2, hq, st⟩
  · dsimp only [Pt.U, Pt.locs, Pt.cells, Pt.slots] at X' e1 e2 h1 h2 h3 st hcl
    subst h1; subst h2; subst h3
    exact Or.inr ⟨q, (T.setVm vm₁).calling g' mk (Value.ref b :: As).toArray, t, U', L, E, ce, hT, X', hL, e1, e2, hq, hce, hcv, vx_cls hW₁ hcl, st⟩
end VXIB
/-! ===== END ===== -/
/-! ===== BEGIN a private constructor of a nest mate that throws ===== -/
section VXIC
variable {p : Program} {l : Launch} {e : Env} {R : Room} {s : State} {m : MethodId} {args : Array Value} {below : List Frame} {meth : Method} {c : Code} {T : State} {locs : List Loc} {cells slots : Nat}
theorem vx_callIN (X : Stand p l e R s m args below meth c T locs cells slots) (hexec : p.tables.exec = Jvm.exec) {own : String} {index : Nat} {host : String} {y : MethodName} {bytes : ByteArray} {maxL : Nat}
    (hown : s.vm.findClass own = some m.cls) (hy1 : y.name = "<init>") (hlink : (Cond.methodLinkNest own index y host).before args s = true) (hinst : (Cond.instanceMethod y).before args s = true)
    (hcode : (Cond.code y bytes maxL none).before args s = true) (hy : y.cls ≠ "java/lang/invoke/MethodHandle" ∧ y.cls ≠ "java/lang/invoke/VarHandle")
    {W9 : Nat} {Pre : Pt → Array Value → Prop} {Post : Pt → Array Value → Option Value → Pt → Prop} {PostX : Pt → Array Value → Addr → Pt → Prop} (hK : vx_Back l R p e below s args y 3 W9 Pre Post PostX)
    {g : JFrame} (hg : g.method = m) (hsize : g.locals.size = c.maxLocals) {a : Addr} {argsL rest : List Value} (hlen : ∀ sig, parseMethodDescriptor y.desc = some sig → argsL.length = sig.parameters.length)
    (hstack : g.stack = argsL.reverse ++ .ref a :: rest) (hW : 2 * g.monitorRoom + (rest.map fun v => v.category).sum ≤ W9) (hdg : decode c.code g.pc = .ok (.invokespecial index, 3))
    (hpre : ∀ vm₁, s.WarmedH vm₁ → Pre ⟨T.setVm vm₁, locs, cells, slots⟩ (Value.ref a :: argsL).toArray) :
    (∃ (v : Option Value) (vm₁ : Vm) (B : Pt), s.WarmedH vm₁ ∧ Stand p l e R s m args below meth c B.U B.locs B.cells B.slots ∧ Post ⟨T.setVm vm₁, locs, cells, slots⟩ (Value.ref a :: argsL).toArray v B ∧
      ∀ target, Steps p.tables e below (B.U.setTop { g with pc := g.pc + 3, stack := v.toList ++ rest }) target → Steps p.tables e below (T.setTop g) target) ∨
    (∃ (q : Addr) (vm₁ : Vm) (B : Pt), s.WarmedH vm₁ ∧ Stand p l e R s m args below meth c B.U B.locs B.cells B.slots ∧ PostX ⟨T.setVm vm₁, locs, cells, slots⟩ (Value.ref a :: argsL).toArray q B ∧
      Steps p.tables e below (T.setTop g) ((B.U.setTop { g with stack := rest }).pushFrame (.throwing q))) := by
  subst hg
  have hpl : e.platform.magicAccessors = ({} : Platform).magicAccessors := by rw [X.admits.platform]
  obtain ⟨mk, methM, cM, kP, vm₁, hnamed, hmethM, hcodeM, -, hlocalsM, -, hkP, -, hW₁, hstep₁⟩ := Steps.initColdArgsNest (e := e) X.here hexec X.warmed hpl hown hy1 hy hlink hinst hcode (f := g) rfl hlen hstack hdg
  have X₁ := X.noted hW₁
  rcases hK g.method meth c ⟨T.setVm vm₁, locs, cells, slots⟩ { g with stack := rest } (.invokespecial index) mk (Value.ref a :: argsL).toArray X₁ rfl hsize hdg hW (X₁.named hnamed) (hpre vm₁ X₁.warmed) with ⟨v, B, X', hpost, hsteps⟩ | ⟨q, B, X', hpost, hsteps⟩
  · exact Or.inl ⟨v, vm₁, B, X₁.warmed, X', hpost, fun target h => hstep₁ _ fun acts => by rw [doInvoke_state]; exact hsteps.trans h⟩
  · exact Or.inr ⟨q, vm₁, B, X₁.warmed, X', hpost, hstep₁ _ fun acts => by rw [doInvoke_state]; exact hsteps⟩
end VXIC
section VXID
variable {p : Program} {l : Launch} {e : Env} {R : Room} {s : State} {m : MethodId} {args : Array Value} {below : List Frame} {meth : Method} {c : Code} {H : Heap} {locs : List Loc} {cells slots : Nat}
theorem vx_runIN {y : MethodName} {bytes cc : ByteArray} {maxL nL mc ms n index : Nat} {ws : List Cond} {rm : Room} {Pc : Array Value → State → Prop} {Qc : Array Value → State → Outcome → State → Prop} {XC : String → State → State → Prop} {free : Addr → Prop} {Ts : List Cond} {own host : String} {b : Addr} {As rest : List Value} {g : JFrame}
    (S : CallFix p m c cc nL s args Ts own) (hM : vx_Met l y ws rm Pc Qc XC mc ms free) (cw : va_CN R s args own index y host bytes maxL none ws rm mc ms n ∧ y.name = "<init>" ∧ (Cond.instanceMethod y).before args s = true) (hp : PreS s H Pc (.ref b :: As))
    (hg : g.method = m) (hn : As.length = n) (hsize : g.locals.size = nL) (hstack : g.stack = As.reverse ++ .ref b :: rest) (hW : 2 * g.monitorRoom + (rest.map fun v => v.category).sum ≤ 8) (hdg : decode cc g.pc = .ok (.invokespecial index, 3)) (hf : cells + mc ≤ R.cells ∧ slots + ms ≤ R.slots) :
    vx_Run p l e R s m args below meth c H locs cells slots mc ms g rest (Qc (Value.ref b :: As).toArray) XC free := by
  obtain ⟨⟨⟨hrc, hrs, hfr, hlo, hws, hcw⟩, hcode, hini, hy, hlen, hl⟩, hx1, hx2⟩ := cw
  have hK : vx_Back l R p e below s args y 3 8 (PreOf R mc ms Pc) (PostOf Qc mc ms free) (vx_Post XC mc ms free) := vx_back (bytes := bytes) (maxL := maxL) (ret := none) hM hp.1 hrc hrs hfr hlo hws hcw (fun a' U hW => word_at hW (Or.inl (by first | rfl | simp [Cond.onTables, Cond.keeps, Cond.steady])) hini)
  obtain ⟨hx, hb, hml, ho, -⟩ := S
  have hPc := hp.2
  intro T hT X
  rcases vx_callIN X hx (bytes := bytes) (maxL := maxL) ho hx1 hl hx2 hcode hy hK hg (hsize.trans hml.symm) (a := b) (argsL := As) (rest := rest) (fun sig h => hn.trans (hlen sig h)) hstack hW (by rw [hb]; exact hdg)
    (fun vm₁ hW₁ => ⟨hf.1, hf.2, hPc (T.setVm vm₁) hT hW₁⟩) with ⟨v, vm₁, ⟨U', l2, c2, s2⟩, hW₁, X', ⟨g', mk, t, L, e1, e2, hq, h1, hL, h2, h3⟩, st⟩ | ⟨q, vm₁, ⟨U', l2, c2, s2⟩, hW₁, X', ⟨g', mk, t, L, E, ce, e1, e2, hq, hce, hcv, hcl, h1, hL, h2, h3⟩, st⟩
  · dsimp only [Pt.U, Pt.locs, Pt.cells, Pt.slots] at X' e1 e2 h1 h2 h3 st
    subst h1; subst h2; subst h3
    exact Or.inl ⟨v, (T.setVm vm₁).calling g' mk (Value.ref b :: As).toArray, t, U', L, hT, X', hL, e1, e2, hq, st⟩
  · dsimp only [Pt.U, Pt.locs, Pt.cells, Pt.slots] at X' e1 e2 h1 h2 h3 st hcl
    subst h1; subst h2; subst h3
    exact Or.inr ⟨q, (T.setVm vm₁).calling g' mk (Value.ref b :: As).toArray, t, U', L, E, ce, hT, X', hL, e1, e2, hq, hce, hcv, vx_cls hW₁ hcl, st⟩
end VXID
/-! ===== END ===== -/
/-! ===== BEGIN a method of a class above, found by the receiver, that may throw (follows va_callVU, va_runU of this kit) ===== -/
section
variable {p : Program} {l : Launch} {e : Env} {R : Room} {s : State} {m : MethodId} {args : Array Value} {below : List Frame} {meth : Method} {c : Code} {H : Heap} {locs : List Loc} {cells slots : Nat}
theorem vx_callVU {T : State} {locs : List Loc} {cells slots : Nat} (X : Stand p l e R s m args below meth c T locs cells slots) (hexec : p.tables.exec = Jvm.exec) {own C owner : String} {index : Nat} {x y : MethodName} {bytes : ByteArray} {maxL : Nat} {ret : Option FieldType}
    (hown : s.vm.findClass own = some m.cls) (hlink : (Cond.methodLink own index x).before args s = true) (hsame : (Cond.sameMethod x.cls owner x.name x.desc).before args s = true)
    (hd0 : va_Decl s ⟨owner, x.name, x.desc⟩) (howner : owner ≠ "java/lang/invoke/MethodHandle" ∧ owner ≠ "java/lang/invoke/VarHandle")
    (hsel : (Cond.selects C x y).before args s = true) (hinst : (Cond.instanceMethod y).before args s = true) (hcode : (Cond.code y bytes maxL ret).before args s = true)
    {W : Nat} {Pre : Pt → Array Value → Prop} {Post : Pt → Array Value → Option Value → Pt → Prop} {PostX : Pt → Array Value → Addr → Pt → Prop} (hK : vx_Back l R p e below s args y 3 W Pre Post PostX)
    {b : Addr} {cellB : Cell} (hcell : T.heap[b]? = some cellB) (hobj : cellB.vm.isStatics = false) (hcls : s.vm.findClass C = some cellB.cls)
    {g : JFrame} (hg : g.method = m) (hsize : g.locals.size = c.maxLocals) {argsL rest : List Value} (hlen : ∀ sig, parseMethodDescriptor x.desc = some sig → argsL.length = sig.parameters.length)
    (hstack : g.stack = argsL.reverse ++ .ref b :: rest) (hW : 2 * g.monitorRoom + (rest.map fun v => v.category).sum ≤ W) (hdg : decode c.code g.pc = .ok (.invokevirtual index, 3))
    (hpre : ∀ vm₁, s.WarmedH vm₁ → Pre ⟨T.setVm vm₁, locs, cells, slots⟩ (Value.ref b :: argsL).toArray) :
    (∃ (v : Option Value) (vm₁ : Vm) (B : Pt), s.WarmedH vm₁ ∧ Stand p l e R s m args below meth c B.U B.locs B.cells B.slots ∧ Post ⟨T.setVm vm₁, locs, cells, slots⟩ (Value.ref b :: argsL).toArray v B ∧
      ∀ target, Steps p.tables e below (B.U.setTop { g with pc := g.pc + 3, stack := v.toList ++ rest }) target → Steps p.tables e below (T.setTop g) target) ∨
    (∃ (q : Addr) (vm₁ : Vm) (B : Pt), s.WarmedH vm₁ ∧ Stand p l e R s m args below meth c B.U B.locs B.cells B.slots ∧ PostX ⟨T.setVm vm₁, locs, cells, slots⟩ (Value.ref b :: argsL).toArray q B ∧
      Steps p.tables e below (T.setTop g) ((B.U.setTop { g with stack := rest }).pushFrame (.throwing q))) := by
  obtain ⟨r0, r, hn, hrm, hstR, hsigR⟩ := hd0
  obtain ⟨cn, ck, r1, hcn, hck, hni, hf, hn1⟩ := Cond.sameMethod_found hsame
  cases hn.symm.trans hn1
  obtain ⟨mk, methM, hnamed, hmethM, -, habM⟩ := Cond.instanceMethod_spec hinst
  obtain ⟨c2, r2, m2, q1, q2, q3, q4, kP, hkP, hkPi⟩ := Cond.selects_spec hsel
  cases hcls.symm.trans q1
  cases hf.symm.trans q2
  cases hnamed.symm.trans q3
  have hselP : selectMethod e.platform s.vm cellB.cls r0 = .method mk := by rw [Launch.admits_selectMethod X.admits]; exact q4
  obtain ⟨vm₁, X₁, hstep₁⟩ := X.invokevirtualUp hexec hown hlink hsame howner hn hrm hstR (a := b) (cell := cellB) hcell
    (fun z h => by rw [h] at hobj; cases hobj) hselP hmethM habM hkP hkPi (g := g) hg (argsL := argsL) (rest := rest) (hlen _ hsigR) hstack hdg
  rcases hK m meth c ⟨T.setVm vm₁, locs, cells, slots⟩ { g with stack := rest } (.invokevirtual index) mk (Value.ref b :: argsL).toArray X₁ hg hsize hdg hW (X₁.named hnamed) (hpre vm₁ X₁.warmed) with ⟨v, B, X', hpost, hsteps⟩ | ⟨q, B, X', hpost, hsteps⟩
  · exact Or.inl ⟨v, vm₁, B, X₁.warmed, X', hpost, fun target h => hstep₁ _ fun acts => by rw [doInvoke_state]; exact hsteps.trans h⟩
  · exact Or.inr ⟨q, vm₁, B, X₁.warmed, X', hpost, hstep₁ _ fun acts => by rw [doInvoke_state]; exact hsteps⟩
theorem vx_runU {x y : MethodName} {bytes cc : ByteArray} {maxL nL mc ms n index : Nat} {ret : Option FieldType} {ws : List Cond} {rm : Room} {Pc : Array Value → State → Prop} {Qc : Array Value → State → Outcome → State → Prop} {XC : String → State → State → Prop} {free : Addr → Prop} {Ts : List Cond} {own C owner : String} {b : Addr} {As rest : List Value} {g : JFrame}
    (S : CallFix p m c cc nL s args Ts own) (hM : vx_Met l y ws rm Pc Qc XC mc ms free) (cw : va_CU R s args own C owner index x y bytes maxL ret ws rm mc ms n) (hp : PreV s H C b Pc As)
    (hg : g.method = m) (hn : As.length = n) (hsize : g.locals.size = nL) (hstack : g.stack = As.reverse ++ .ref b :: rest) (hW : 2 * g.monitorRoom + (rest.map fun v => v.category).sum ≤ 8) (hdg : decode cc g.pc = .ok (.invokevirtual index, 3)) (hf : cells + mc ≤ R.cells ∧ slots + ms ≤ R.slots) :
    vx_Run p l e R s m args below meth c H locs cells slots mc ms g rest (Qc (Value.ref b :: As).toArray) XC free := by
  obtain ⟨hrc, hrs, hfr, hlo, hws, hcw⟩ := cw.back
  have hini := cw.init
  have hK : vx_Back l R p e below s args y 3 8 (PreOf R mc ms Pc) (PostOf Qc mc ms free) (vx_Post XC mc ms free) := vx_back (bytes := bytes) (maxL := maxL) (ret := ret) hM hp.1 hrc hrs hfr hlo hws hcw (fun a' U hW => word_at hW (Or.inl (by first | rfl | simp [Cond.onTables, Cond.keeps, Cond.steady])) hini)
  obtain ⟨hx, hb, hml, ho, -⟩ := S
  obtain ⟨-, ⟨cellB, hcB, hoB, hclB⟩, hPc⟩ := hp
  intro T hT X
  rcases vx_callVU X hx (C := C) (owner := owner) (bytes := bytes) (maxL := maxL) (ret := ret) ho cw.link cw.same cw.decl cw.notMH cw.sel cw.inst cw.code hK (by rw [hT]; exact hcB) hoB hclB hg (hsize.trans hml.symm) (argsL := As) (rest := rest) (fun sig h => hn.trans (cw.len sig h)) hstack hW (by rw [hb]; exact hdg)
    (fun vm₁ hW₁ => ⟨hf.1, hf.2, hPc (T.setVm vm₁) hT hW₁⟩) with ⟨v, vm₁, ⟨U', l2, c2, s2⟩, hW₁, X', ⟨g', mk, t, L, e1, e2, hq, h1, hL, h2, h3⟩, st⟩ | ⟨q, vm₁, ⟨U', l2, c2, s2⟩, hW₁, X', ⟨g', mk, t, L, E, ce, e1, e2, hq, hce, hcv, hcl, h1, hL, h2, h3⟩, st⟩
  · dsimp only [Pt.U, Pt.locs, Pt.cells, Pt.slots] at X' e1 e2 h1 h2 h3 st
    subst h1; subst h2; subst h3
    exact Or.inl ⟨v, (T.setVm vm₁).calling g' mk (Value.ref b :: As).toArray, t, U', L, hT, X', hL, e1, e2, hq, st⟩
  · dsimp only [Pt.U, Pt.locs, Pt.cells, Pt.slots] at X' e1 e2 h1 h2 h3 st hcl
    subst h1; subst h2; subst h3
    exact Or.inr ⟨q, (T.setVm vm₁).calling g' mk (Value.ref b :: As).toArray, t, U', L, E, ce, hT, X', hL, e1, e2, hq, hce, hcv, vx_cls hW₁ hcl, st⟩
end
/-! ===== END ===== -/
/-! ===== BEGIN super.m(..) that may throw (follows va_callSU, va_runSU) ===== -/
section
variable {p : Program} {l : Launch} {e : Env} {R : Room} {s : State} {m : MethodId} {args : Array Value} {below : List Frame} {meth : Method} {c : Code} {H : Heap} {locs : List Loc} {cells slots : Nat}
theorem vx_callSU {T : State} {locs : List Loc} {cells slots : Nat} (X : Stand p l e R s m args below meth c T locs cells slots) (hexec : p.tables.exec = Jvm.exec) {own : String} {index : Nat} {y : MethodName} {bytes : ByteArray} {maxL : Nat} {ret : Option FieldType}
    (hown : s.vm.findClass own = some m.cls) (hlink : (Cond.methodLink own index y).before args s = true) (hsame : (Cond.sameMethod y.cls y.cls y.name y.desc).before args s = true) (hsup : (Cond.superclass own y.cls).before args s = true)
    (hinst : (Cond.instanceMethod y).before args s = true) (hcode : (Cond.code y bytes maxL ret).before args s = true) (hno : y.name ≠ "<init>")
    {W : Nat} {Pre : Pt → Array Value → Prop} {Post : Pt → Array Value → Option Value → Pt → Prop} {PostX : Pt → Array Value → Addr → Pt → Prop} (hK : vx_Back l R p e below s args y 3 W Pre Post PostX)
    {b : Addr} {cellB : Cell} {kB : Class} (hcell : T.heap[b]? = some cellB) (hobj : cellB.vm.isStatics = false) (hkB : s.vm.classes[cellB.cls]? = some kB)
    {g : JFrame} (hg : g.method = m) (hsize : g.locals.size = c.maxLocals) {argsL rest : List Value} (hlen : ∀ sig, parseMethodDescriptor y.desc = some sig → argsL.length = sig.parameters.length)
    (hstack : g.stack = argsL.reverse ++ .ref b :: rest) (hW : 2 * g.monitorRoom + (rest.map fun v => v.category).sum ≤ W) (hdg : decode c.code g.pc = .ok (.invokespecial index, 3))
    (hpre : ∀ vm₁, s.WarmedH vm₁ → Pre ⟨T.setVm vm₁, locs, cells, slots⟩ (Value.ref b :: argsL).toArray) :
    (∃ (v : Option Value) (vm₁ : Vm) (B : Pt), s.WarmedH vm₁ ∧ Stand p l e R s m args below meth c B.U B.locs B.cells B.slots ∧ Post ⟨T.setVm vm₁, locs, cells, slots⟩ (Value.ref b :: argsL).toArray v B ∧
      ∀ target, Steps p.tables e below (B.U.setTop { g with pc := g.pc + 3, stack := v.toList ++ rest }) target → Steps p.tables e below (T.setTop g) target) ∨
    (∃ (q : Addr) (vm₁ : Vm) (B : Pt), s.WarmedH vm₁ ∧ Stand p l e R s m args below meth c B.U B.locs B.cells B.slots ∧ PostX ⟨T.setVm vm₁, locs, cells, slots⟩ (Value.ref b :: argsL).toArray q B ∧
      Steps p.tables e below (T.setTop g) ((B.U.setTop { g with stack := rest }).pushFrame (.throwing q))) := by
  obtain ⟨mk, methM, hnamed, hmethM, hstM, habM⟩ := Cond.instanceMethod_spec hinst
  obtain ⟨methM', cM, hmethM', -, -, -, -, -, -, hsigM⟩ := Cond.code_spec hnamed hcode
  cases hmethM.symm.trans hmethM'
  obtain ⟨ps, dk, kp, hps, hdk, hkp, hsuper, -, -, hnid⟩ := Cond.superclass_spec hown hsup
  have hn : s.methodNamed? ⟨y.cls, y.name, y.desc⟩ = some mk := hnamed
  have hpm : ps = mk.cls := Option.some.inj (hps.symm.trans (findClass_of_methodNamed hnamed))
  have hsub : s.vm.isSubclass ps mk.cls = true := by rw [hpm]; simp [Vm.isSubclass, Vm.isSubclassAux]
  obtain ⟨vm₁, X₁, hstep₁⟩ := X.invokespecialUp hexec hown hlink hsame hn hmethM hstM habM hno hdk hnid hps hsuper hsub (a := b) (cell := cellB) hcell
    (fun z h => by rw [h] at hobj; cases hobj) hkB (g := g) hg (argsL := argsL) (rest := rest) (hlen _ hsigM) hstack hdg
  rcases hK m meth c ⟨T.setVm vm₁, locs, cells, slots⟩ { g with stack := rest } (.invokespecial index) mk (Value.ref b :: argsL).toArray X₁ hg hsize hdg hW (X₁.named hnamed) (hpre vm₁ X₁.warmed) with ⟨v, B, X', hpost, hsteps⟩ | ⟨q, B, X', hpost, hsteps⟩
  · exact Or.inl ⟨v, vm₁, B, X₁.warmed, X', hpost, fun target h => hstep₁ _ (by rw [doInvoke_state]; exact hsteps.trans h)⟩
  · exact Or.inr ⟨q, vm₁, B, X₁.warmed, X', hpost, hstep₁ _ (by rw [doInvoke_state]; exact hsteps)⟩
theorem vx_runSU {y : MethodName} {bytes cc : ByteArray} {maxL nL mc ms n index : Nat} {ret : Option FieldType} {ws : List Cond} {rm : Room} {Pc : Array Value → State → Prop} {Qc : Array Value → State → Outcome → State → Prop} {XC : String → State → State → Prop} {free : Addr → Prop} {Ts : List Cond} {own C : String} {cC : ClassId} {b : Addr} {As rest : List Value} {g : JFrame}
    (hat : ClassAt s C cC) (S : CallFix p m c cc nL s args Ts own) (hM : vx_Met l y ws rm Pc Qc XC mc ms free) (cw : va_CS R s args own index y bytes maxL ret ws rm mc ms n) (hp : PreV s H C b Pc As)
    (hg : g.method = m) (hn : As.length = n) (hsize : g.locals.size = nL) (hstack : g.stack = As.reverse ++ .ref b :: rest) (hW : 2 * g.monitorRoom + (rest.map fun v => v.category).sum ≤ 8) (hdg : decode cc g.pc = .ok (.invokespecial index, 3)) (hf : cells + mc ≤ R.cells ∧ slots + ms ≤ R.slots) :
    vx_Run p l e R s m args below meth c H locs cells slots mc ms g rest (Qc (Value.ref b :: As).toArray) XC free := by
  obtain ⟨⟨hrc, hrs, hfr, hlo, hws, hcw⟩, hl1, hl2, hl3, hl4, hini, hcode, hno, hlen⟩ := cw
  have hK : vx_Back l R p e below s args y 3 8 (PreOf R mc ms Pc) (PostOf Qc mc ms free) (vx_Post XC mc ms free) := vx_back (bytes := bytes) (maxL := maxL) (ret := ret) hM hp.1 hrc hrs hfr hlo hws hcw (fun a' U hW => word_at hW (Or.inl (by first | rfl | simp [Cond.onTables, Cond.keeps, Cond.steady])) hini)
  obtain ⟨hx, hb, hml, ho, -⟩ := S
  obtain ⟨-, ⟨cellB, hcB, hoB, hclB⟩, hPc⟩ := hp
  obtain ⟨hfc, kB, hkB, -⟩ := hat
  cases hfc.symm.trans hclB
  intro T hT X
  rcases vx_callSU X hx (bytes := bytes) (maxL := maxL) (ret := ret) ho hl1 hl2 hl3 hl4 hcode hno hK (by rw [hT]; exact hcB) hoB hkB hg (hsize.trans hml.symm) (argsL := As) (rest := rest) (fun sig h => hn.trans (hlen sig h)) hstack hW (by rw [hb]; exact hdg)
    (fun vm₁ hW₁ => ⟨hf.1, hf.2, hPc (T.setVm vm₁) hT hW₁⟩) with ⟨v, vm₁, ⟨U', l2, c2, s2⟩, hW₁, X', ⟨g', mk, t, L, e1, e2, hq, h1, hL, h2, h3⟩, st⟩ | ⟨q, vm₁, ⟨U', l2, c2, s2⟩, hW₁, X', ⟨g', mk, t, L, E, ce, e1, e2, hq, hce, hcv, hcl, h1, hL, h2, h3⟩, st⟩
  · dsimp only [Pt.U, Pt.locs, Pt.cells, Pt.slots] at X' e1 e2 h1 h2 h3 st
    subst h1; subst h2; subst h3
    exact Or.inl ⟨v, (T.setVm vm₁).calling g' mk (Value.ref b :: As).toArray, t, U', L, hT, X', hL, e1, e2, hq, st⟩
  · dsimp only [Pt.U, Pt.locs, Pt.cells, Pt.slots] at X' e1 e2 h1 h2 h3 st hcl
    subst h1; subst h2; subst h3
    exact Or.inr ⟨q, (T.setVm vm₁).calling g' mk (Value.ref b :: As).toArray, t, U', L, E, ce, hT, X', hL, e1, e2, hq, hce, hcv, vx_cls hW₁ hcl, st⟩
end
/-! ===== END ===== -/
/-! ===== BEGIN a private method of a nest mate that may throw (follows va_callVN, va_callSN, va_runVN, va_runSN) ===== -/
section
variable {p : Program} {l : Launch} {e : Env} {R : Room} {s : State} {m : MethodId} {args : Array Value} {below : List Frame} {meth : Method} {c : Code} {H : Heap} {locs : List Loc} {cells slots : Nat}
variable {T : State}
theorem vx_callVN (X : Stand p l e R s m args below meth c T locs cells slots) (hexec : p.tables.exec = Jvm.exec) {own C : String} {index : Nat} {host : String} {y : MethodName} {bytes : ByteArray} {maxL : Nat} {ret : Option FieldType}
    (hown : s.vm.findClass own = some m.cls) (hlink : (Cond.methodLinkNest own index y host).before args s = true) (hinst : (Cond.instanceMethod y).before args s = true) (hsel : (Cond.selects C y y).before args s = true)
    (hcode : (Cond.code y bytes maxL ret).before args s = true) (hy : y.cls ≠ "java/lang/invoke/MethodHandle" ∧ y.cls ≠ "java/lang/invoke/VarHandle")
    {W : Nat} {Pre : Pt → Array Value → Prop} {Post : Pt → Array Value → Option Value → Pt → Prop} {PostX : Pt → Array Value → Addr → Pt → Prop} (hK : vx_Back l R p e below s args y 3 W Pre Post PostX)
    {b : Addr} {cellB : Cell} (hcell : T.heap[b]? = some cellB) (hobj : cellB.vm.isStatics = false) (hcls : s.vm.findClass C = some cellB.cls)
    {g : JFrame} (hg : g.method = m) (hsize : g.locals.size = c.maxLocals) {argsL rest : List Value} (hlen : ∀ sig, parseMethodDescriptor y.desc = some sig → argsL.length = sig.parameters.length)
    (hstack : g.stack = argsL.reverse ++ .ref b :: rest) (hW : 2 * g.monitorRoom + (rest.map fun v => v.category).sum ≤ W) (hdg : decode c.code g.pc = .ok (.invokevirtual index, 3))
    (hpre : ∀ vm₁, s.WarmedH vm₁ → Pre ⟨T.setVm vm₁, locs, cells, slots⟩ (Value.ref b :: argsL).toArray) :
    (∃ (v : Option Value) (vm₁ : Vm) (B : Pt), s.WarmedH vm₁ ∧ Stand p l e R s m args below meth c B.U B.locs B.cells B.slots ∧ Post ⟨T.setVm vm₁, locs, cells, slots⟩ (Value.ref b :: argsL).toArray v B ∧
      ∀ target, Steps p.tables e below (B.U.setTop { g with pc := g.pc + 3, stack := v.toList ++ rest }) target → Steps p.tables e below (T.setTop g) target) ∨
    (∃ (q : Addr) (vm₁ : Vm) (B : Pt), s.WarmedH vm₁ ∧ Stand p l e R s m args below meth c B.U B.locs B.cells B.slots ∧ PostX ⟨T.setVm vm₁, locs, cells, slots⟩ (Value.ref b :: argsL).toArray q B ∧
      Steps p.tables e below (T.setTop g) ((B.U.setTop { g with stack := rest }).pushFrame (.throwing q))) := by
  obtain ⟨mk, methM, hnamed, hmethM, hstM, habM⟩ := Cond.instanceMethod_spec hinst
  obtain ⟨methM', cM, hmethM', -, -, -, -, -, -, hsigM⟩ := Cond.code_spec hnamed hcode
  cases hmethM.symm.trans hmethM'
  obtain ⟨c2, r2, m2, q1, q2, q3, q4, kP, hkP, hkPi⟩ := Cond.selects_spec hsel
  cases hcls.symm.trans q1
  cases (State.methodFound?_of_named hnamed hy).symm.trans q2
  cases hnamed.symm.trans q3
  have hselP : selectMethod e.platform s.vm cellB.cls mk = .method mk := by rw [Launch.admits_selectMethod X.admits]; exact q4
  obtain ⟨vm₁, X₁, hstep₁⟩ := X.invokevirtualNest hexec hown hlink hnamed hmethM hstM hkP hkPi hy (a := b) (cell := cellB) hcell
    (fun z h => by rw [h] at hobj; cases hobj) hselP hmethM habM hkP hkPi (g := g) hg (argsL := argsL) (rest := rest) (hlen _ hsigM) hstack hdg
  rcases hK m meth c ⟨T.setVm vm₁, locs, cells, slots⟩ { g with stack := rest } (.invokevirtual index) mk (Value.ref b :: argsL).toArray X₁ hg hsize hdg hW (X₁.named hnamed) (hpre vm₁ X₁.warmed) with ⟨v, B, X', hpost, hsteps⟩ | ⟨q, B, X', hpost, hsteps⟩
  · exact Or.inl ⟨v, vm₁, B, X₁.warmed, X', hpost, fun target h => hstep₁ _ fun acts => by rw [doInvoke_state]; exact hsteps.trans h⟩
  · exact Or.inr ⟨q, vm₁, B, X₁.warmed, X', hpost, hstep₁ _ fun acts => by rw [doInvoke_state]; exact hsteps⟩
theorem vx_callSN (X : Stand p l e R s m args below meth c T locs cells slots) (hexec : p.tables.exec = Jvm.exec) {own : String} {index : Nat} {host : String} {y : MethodName} {bytes : ByteArray} {maxL : Nat} {ret : Option FieldType}
    (hown : s.vm.findClass own = some m.cls) (hlink : (Cond.methodLinkNest own index y host).before args s = true) (hstat : (Cond.static y).before args s = true) (hinit : (Cond.initialized y.cls).before args s = true)
    (hcode : (Cond.code y bytes maxL ret).before args s = true) (hy : y.cls ≠ "java/lang/invoke/MethodHandle" ∧ y.cls ≠ "java/lang/invoke/VarHandle")
    {W : Nat} {Pre : Pt → Array Value → Prop} {Post : Pt → Array Value → Option Value → Pt → Prop} {PostX : Pt → Array Value → Addr → Pt → Prop} (hK : vx_Back l R p e below s args y 3 W Pre Post PostX)
    {g : JFrame} (hg : g.method = m) (hsize : g.locals.size = c.maxLocals) {argsL rest : List Value} (hlen : ∀ sig, parseMethodDescriptor y.desc = some sig → argsL.length = sig.parameters.length)
    (hstack : g.stack = argsL.reverse ++ rest) (hW : 2 * g.monitorRoom + (rest.map fun v => v.category).sum ≤ W) (hdg : decode c.code g.pc = .ok (.invokestatic index, 3))
    (hpre : ∀ vm₁, s.WarmedH vm₁ → Pre ⟨T.setVm vm₁, locs, cells, slots⟩ argsL.toArray) :
    (∃ (v : Option Value) (vm₁ : Vm) (B : Pt), s.WarmedH vm₁ ∧ Stand p l e R s m args below meth c B.U B.locs B.cells B.slots ∧ Post ⟨T.setVm vm₁, locs, cells, slots⟩ argsL.toArray v B ∧
      ∀ target, Steps p.tables e below (B.U.setTop { g with pc := g.pc + 3, stack := v.toList ++ rest }) target → Steps p.tables e below (T.setTop g) target) ∨
    (∃ (q : Addr) (vm₁ : Vm) (B : Pt), s.WarmedH vm₁ ∧ Stand p l e R s m args below meth c B.U B.locs B.cells B.slots ∧ PostX ⟨T.setVm vm₁, locs, cells, slots⟩ argsL.toArray q B ∧
      Steps p.tables e below (T.setTop g) ((B.U.setTop { g with stack := rest }).pushFrame (.throwing q))) := by
  obtain ⟨mk, hnamed⟩ := Cond.code_named hcode
  obtain ⟨methM, cM, hmethM, -, -, -, -, -, -, hsigM⟩ := Cond.code_spec hnamed hcode
  have hstatic : methM.isStatic = true := Cond.static_spec hnamed hmethM hstat
  obtain ⟨kP, hkP, -⟩ := className_of_methodNamed hnamed
  have hinitP : kP.init = .initialized := Cond.initialized_spec (findClass_of_methodNamed hnamed) hkP hinit
  obtain ⟨vm₁, X₁, hstep₁⟩ := X.invokestaticNest hexec hown hlink hnamed hmethM hstatic hkP hinitP hy (g := g) hg (argsL := argsL) (rest := rest) (hlen _ hsigM) hstack hdg
  rcases hK m meth c ⟨T.setVm vm₁, locs, cells, slots⟩ { g with stack := rest } (.invokestatic index) mk argsL.toArray X₁ hg hsize hdg hW (X₁.named hnamed) (hpre vm₁ X₁.warmed) with ⟨v, B, X', hpost, hsteps⟩ | ⟨q, B, X', hpost, hsteps⟩
  · exact Or.inl ⟨v, vm₁, B, X₁.warmed, X', hpost, fun target h => hstep₁ _ fun acts => by rw [doInvoke_state]; exact hsteps.trans h⟩
  · exact Or.inr ⟨q, vm₁, B, X₁.warmed, X', hpost, hstep₁ _ fun acts => by rw [doInvoke_state]; exact hsteps⟩
theorem vx_runVN {y : MethodName} {bytes cc : ByteArray} {maxL nL mc ms n index : Nat} {ret : Option FieldType} {ws : List Cond} {rm : Room} {Pc : Array Value → State → Prop} {Qc : Array Value → State → Outcome → State → Prop} {XC : String → State → State → Prop} {free : Addr → Prop} {Ts : List Cond} {own C host : String} {b : Addr} {As rest : List Value} {g : JFrame}
    (S : CallFix p m c cc nL s args Ts own) (hM : vx_Met l y ws rm Pc Qc XC mc ms free) (cw : va_CN R s args own index y host bytes maxL ret ws rm mc ms n ∧ (Cond.instanceMethod y).before args s = true ∧ (Cond.selects C y y).before args s = true) (hp : PreV s H C b Pc As)
    (hg : g.method = m) (hn : As.length = n) (hsize : g.locals.size = nL) (hstack : g.stack = As.reverse ++ .ref b :: rest) (hW : 2 * g.monitorRoom + (rest.map fun v => v.category).sum ≤ 8) (hdg : decode cc g.pc = .ok (.invokevirtual index, 3)) (hf : cells + mc ≤ R.cells ∧ slots + ms ≤ R.slots) :
    vx_Run p l e R s m args below meth c H locs cells slots mc ms g rest (Qc (Value.ref b :: As).toArray) XC free := by
  obtain ⟨⟨⟨hrc, hrs, hfr, hlo, hws, hcw⟩, hcode, hini, hy, hlen, hl⟩, hx1, hx2⟩ := cw
  have hK : vx_Back l R p e below s args y 3 8 (PreOf R mc ms Pc) (PostOf Qc mc ms free) (vx_Post XC mc ms free) := vx_back (bytes := bytes) (maxL := maxL) (ret := ret) hM hp.1 hrc hrs hfr hlo hws hcw (fun a' U hW => word_at hW (Or.inl (by first | rfl | simp [Cond.onTables, Cond.keeps, Cond.steady])) hini)
  obtain ⟨hx, hb, hml, ho, -⟩ := S
  obtain ⟨-, ⟨cellB, hcB, hoB, hclB⟩, hPc⟩ := hp
  intro T hT X
  rcases vx_callVN X hx (C := C) (bytes := bytes) (maxL := maxL) (ret := ret) ho hl hx1 hx2 hcode hy hK (by rw [hT]; exact hcB) hoB hclB hg (hsize.trans hml.symm) (argsL := As) (rest := rest) (fun sig h => hn.trans (hlen sig h)) hstack hW (by rw [hb]; exact hdg)
    (fun vm₁ hW₁ => ⟨hf.1, hf.2, hPc (T.setVm vm₁) hT hW₁⟩) with ⟨v, vm₁, ⟨U', l2, c2, s2⟩, hW₁, X', ⟨g', mk, t, L, e1, e2, hq, h1, hL, h2, h3⟩, st⟩ | ⟨q, vm₁, ⟨U', l2, c2, s2⟩, hW₁, X', ⟨g', mk, t, L, E, ce, e1, e2, hq, hce, hcv, hcl, h1, hL, h2, h3⟩, st⟩
  · dsimp only [Pt.U, Pt.locs, Pt.cells, Pt.slots] at X' e1 e2 h1 h2 h3 st
    subst h1; subst h2; subst h3
    exact Or.inl ⟨v, (T.setVm vm₁).calling g' mk (Value.ref b :: As).toArray, t, U', L, hT, X', hL, e1, e2, hq, st⟩
  · dsimp only [Pt.U, Pt.locs, Pt.cells, Pt.slots] at X' e1 e2 h1 h2 h3 st hcl
    subst h1; subst h2; subst h3
    exact Or.inr ⟨q, (T.setVm vm₁).calling g' mk (Value.ref b :: As).toArray, t, U', L, E, ce, hT, X', hL, e1, e2, hq, hce, hcv, vx_cls hW₁ hcl, st⟩
theorem vx_runSN {y : MethodName} {bytes cc : ByteArray} {maxL nL mc ms n index : Nat} {ret : Option FieldType} {ws : List Cond} {rm : Room} {Pc : Array Value → State → Prop} {Qc : Array Value → State → Outcome → State → Prop} {XC : String → State → State → Prop} {free : Addr → Prop} {Ts : List Cond} {own host : String} {As rest : List Value} {g : JFrame}
    (S : CallFix p m c cc nL s args Ts own) (hM : vx_Met l y ws rm Pc Qc XC mc ms free) (cw : va_CN R s args own index y host bytes maxL ret ws rm mc ms n ∧ (Cond.static y).before args s = true ∧ True) (hp : PreS s H Pc As)
    (hg : g.method = m) (hn : As.length = n) (hsize : g.locals.size = nL) (hstack : g.stack = As.reverse ++ rest) (hW : 2 * g.monitorRoom + (rest.map fun v => v.category).sum ≤ 8) (hdg : decode cc g.pc = .ok (.invokestatic index, 3)) (hf : cells + mc ≤ R.cells ∧ slots + ms ≤ R.slots) :
    vx_Run p l e R s m args below meth c H locs cells slots mc ms g rest (Qc As.toArray) XC free := by
  obtain ⟨⟨⟨hrc, hrs, hfr, hlo, hws, hcw⟩, hcode, hini, hy, hlen, hl⟩, hx1, hx2⟩ := cw
  have hK : vx_Back l R p e below s args y 3 8 (PreOf R mc ms Pc) (PostOf Qc mc ms free) (vx_Post XC mc ms free) := vx_back (bytes := bytes) (maxL := maxL) (ret := ret) hM hp.1 hrc hrs hfr hlo hws hcw (fun a' U hW => word_at hW (Or.inl (by first | rfl | simp [Cond.onTables, Cond.keeps, Cond.steady])) hini)
  obtain ⟨hx, hb, hml, ho, -⟩ := S
  have hPc := hp.2
  intro T hT X
  rcases vx_callSN X hx (bytes := bytes) (maxL := maxL) (ret := ret) ho hl hx1 hini hcode hy hK hg (hsize.trans hml.symm) (argsL := As) (rest := rest) (fun sig h => hn.trans (hlen sig h)) hstack hW (by rw [hb]; exact hdg)
    (fun vm₁ hW₁ => ⟨hf.1, hf.2, hPc (T.setVm vm₁) hT hW₁⟩) with ⟨v, vm₁, ⟨U', l2, c2, s2⟩, hW₁, X', ⟨g', mk, t, L, e1, e2, hq, h1, hL, h2, h3⟩, st⟩ | ⟨q, vm₁, ⟨U', l2, c2, s2⟩, hW₁, X', ⟨g', mk, t, L, E, ce, e1, e2, hq, hce, hcv, hcl, h1, hL, h2, h3⟩, st⟩
  · dsimp only [Pt.U, Pt.locs, Pt.cells, Pt.slots] at X' e1 e2 h1 h2 h3 st
    subst h1; subst h2; subst h3
    exact Or.inl ⟨v, (T.setVm vm₁).calling g' mk As.toArray, t, U', L, hT, X', hL, e1, e2, hq, st⟩
  · dsimp only [Pt.U, Pt.locs, Pt.cells, Pt.slots] at X' e1 e2 h1 h2 h3 st hcl
    subst h1; subst h2; subst h3
    exact Or.inr ⟨q, (T.setVm vm₁).calling g' mk As.toArray, t, U', L, E, ce, hT, X', hL, e1, e2, hq, hce, hcv, vx_cls hW₁ hcl, st⟩
end
/-! ===== END ===== -/
/-! ===== BEGIN calls by an interface of methods that may throw (vx_callIF, vx_runF follow va_callIF, va_runF of this kit) ===== -/
section
variable {p : Program} {l : Launch} {e : Env} {R : Room} {s : State} {m : MethodId} {args : Array Value} {below : List Frame} {meth : Method} {c : Code} {H : Heap} {locs : List Loc} {cells slots : Nat} {Q : State → Prop}
variable {mc ms : Nat} {free : Addr → Prop} {A0 A1 : Nat → Prop} {H0 : Heap} {a : Array Value} {pc : Nat} {ls : Array Slot} {st0 rest : List Value}
def vx_Run5 (p : Program) (l : Launch) (e : Env) (R : Room) (s : State) (m : MethodId) (args : Array Value) (below : List Frame) (meth : Method) (c : Code) (H : Heap) (locs : List Loc) (cells slots mc ms : Nat) (g : JFrame) (rest : List Value) (Qa : State → Outcome → State → Prop) (XC : String → State → State → Prop) (free : Addr → Prop) : Prop :=
  ∀ T : State, T.heap = H → Stand p l e R s m args below meth c T locs cells slots →
    (∃ (v : Option Value) (st₀ t T' : State) (L : List Loc), st₀.heap = H ∧ Stand p l e R s m args below meth c T' (locs ++ L) (cells + mc) (slots + ms) ∧ (∀ q ∈ L, free q.base) ∧ T'.heap = t.heap ∧ T'.vm = t.vm ∧ Qa st₀ (.returned v) t ∧
      Goes p e below T g T' { g with pc := g.pc + 5, stack := v.toList ++ rest }) ∨
    (∃ (q : Addr) (st₀ t T' : State) (L : List Loc) (E : String) (ce : Cell), st₀.heap = H ∧ Stand p l e R s m args below meth c T' (locs ++ L) (cells + mc) (slots + ms) ∧ (∀ z ∈ L, free z.base) ∧ T'.heap = t.heap ∧ T'.vm = t.vm ∧ XC E st₀ t ∧ t.heap[q]? = some ce ∧ ce.vm = .none ∧ s.vm.findClass E = some ce.cls ∧
      Steps p.tables e below (T.setTop g) ((T'.setTop { g with stack := rest }).pushFrame (.throwing q)))
theorem vx_callIF {T : State} (X : Stand p l e R s m args below meth c T locs cells slots) (hexec : p.tables.exec = Jvm.exec) {own C : String} {index count : Nat} {x y : MethodName} {bytes : ByteArray} {maxL : Nat} {ret : Option FieldType}
    (hown : s.vm.findClass own = some m.cls) (hlink : (Cond.methodLink own index x).before args s = true) (hdecl : (Cond.declares x).before args s = true) (hface : (Cond.interfaceMethod x.cls x.cls x.name x.desc).before args s = true)
    (hsel : (Cond.selects C x y).before args s = true) (hinst : (Cond.instanceMethod y).before args s = true) (hpub : (Cond.publicMethod y).before args s = true) (hunh : (Cond.unhidden C x.name x.desc).before args s = true)
    (hcast : (Cond.castable C x.cls).before args s = true) (hcode : (Cond.code y bytes maxL ret).before args s = true) (hx : x.cls ≠ "java/lang/invoke/MethodHandle" ∧ x.cls ≠ "java/lang/invoke/VarHandle")
    {W9 : Nat} {Pre : Pt → Array Value → Prop} {Post : Pt → Array Value → Option Value → Pt → Prop} {PostX : Pt → Array Value → Addr → Pt → Prop} (hK : vx_Back l R p e below s args y 5 W9 Pre Post PostX)
    {b : Addr} {cellB : Cell} {kB : Class} (hcell : T.heap[b]? = some cellB) (hobj : cellB.vm.isStatics = false) (hcls : s.vm.findClass C = some cellB.cls) (hkB : s.vm.classes[cellB.cls]? = some kB)
    {g : JFrame} (hg : g.method = m) (hsize : g.locals.size = c.maxLocals) {argsL rest : List Value} (hlen : ∀ sig, parseMethodDescriptor x.desc = some sig → argsL.length = sig.parameters.length)
    (hstack : g.stack = argsL.reverse ++ .ref b :: rest) (hW : 2 * g.monitorRoom + (rest.map fun v => v.category).sum ≤ W9) (hdg : decode c.code g.pc = .ok (.invokeinterface index count, 5))
    (hpre : ∀ vm₁, s.WarmedH vm₁ → Pre ⟨T.setVm vm₁, locs, cells, slots⟩ (Value.ref b :: argsL).toArray) :
    (∃ (v : Option Value) (vm₁ : Vm) (B : Pt), s.WarmedH vm₁ ∧ Stand p l e R s m args below meth c B.U B.locs B.cells B.slots ∧ Post ⟨T.setVm vm₁, locs, cells, slots⟩ (Value.ref b :: argsL).toArray v B ∧
      ∀ target, Steps p.tables e below (B.U.setTop { g with pc := g.pc + 5, stack := v.toList ++ rest }) target → Steps p.tables e below (T.setTop g) target) ∨
    (∃ (q : Addr) (vm₁ : Vm) (B : Pt), s.WarmedH vm₁ ∧ Stand p l e R s m args below meth c B.U B.locs B.cells B.slots ∧ PostX ⟨T.setVm vm₁, locs, cells, slots⟩ (Value.ref b :: argsL).toArray q B ∧
      Steps p.tables e below (T.setTop g) ((B.U.setTop { g with stack := rest }).pushFrame (.throwing q))) := by
  obtain ⟨r0, r, hn, hrm, hstR, hsigR⟩ := Cond.declares_spec hdecl
  obtain ⟨cL, kL, r1, hcL, hkL, hiL, hfoundL, hn1⟩ := Cond.interfaceMethod_spec hface
  cases hn.symm.trans hn1
  have hr0cls : r0.cls = cL := Option.some.inj ((findClass_of_methodNamed hn).symm.trans hcL)
  obtain ⟨hnameR, hdescR⟩ := name_of_methodNamed hn hrm
  obtain ⟨mk, methM, hnamed, hmethM, -, habM⟩ := Cond.instanceMethod_spec hinst
  obtain ⟨c2, r2, m2, q1, q2, q3, q4, -⟩ := Cond.selects_spec hsel
  cases hcls.symm.trans q1
  cases hfoundL.symm.trans q2
  cases hnamed.symm.trans q3
  have hselP : selectMethod e.platform s.vm cellB.cls r0 = .method mk := by rw [Launch.admits_selectMethod X.admits]; exact q4
  have hpubM : hasFlag methM.accessFlags Acc.public_ = true := Cond.publicMethod_spec hnamed hmethM hpub
  have hway : ((cellB.cls :: s.vm.superclasses cellB.cls).any fun k => (declaredIn s.vm r.name r.desc k).any fun (_, z) => z.isPrivate || z.isStatic) = false := by
    rw [hnameR, hdescR]; exact Cond.unhidden_spec hcls hunh
  obtain ⟨c3, t3, w1, w2, w3⟩ := Cond.castable_spec hcast
  cases hcls.symm.trans w1
  cases hcL.symm.trans w2
  obtain ⟨vm₁, X₁, hstep₁⟩ := X.invokeinterface hexec hown hlink hn hrm hstR (by rw [hr0cls]; exact hkL) hiL hx (a := b) (cell := cellB) (kcell := kB) hcell
    (fun z h => by rw [h] at hobj; cases hobj) hkB (by rw [hr0cls]; exact w3) hselP hmethM hway hpubM habM (g := g) hg (argsL := argsL) (rest := rest) (hlen _ hsigR) hstack hdg
  rcases hK m meth c ⟨T.setVm vm₁, locs, cells, slots⟩ { g with stack := rest } (.invokeinterface index count) mk (Value.ref b :: argsL).toArray X₁ hg hsize hdg hW (X₁.named hnamed) (hpre vm₁ X₁.warmed) with ⟨v, B, X', hpost, hsteps⟩ | ⟨q, B, X', hpost, hsteps⟩
  · exact Or.inl ⟨v, vm₁, B, X₁.warmed, X', hpost, fun target h => hstep₁ _ fun acts => by rw [doInvoke_state]; exact hsteps.trans h⟩
  · exact Or.inr ⟨q, vm₁, B, X₁.warmed, X', hpost, hstep₁ _ fun acts => by rw [doInvoke_state]; exact hsteps⟩
theorem vx_runF {x y : MethodName} {bytes cc : ByteArray} {maxL nL mc ms n index count : Nat} {ret : Option FieldType} {ws : List Cond} {rm : Room} {Pc : Array Value → State → Prop} {Qc : Array Value → State → Outcome → State → Prop} {XC : String → State → State → Prop} {free : Addr → Prop} {Ts : List Cond} {own C : String} {cC : ClassId} {b : Addr} {As rest : List Value} {g : JFrame}
    (hat : ClassAt s C cC) (S : CallFix p m c cc nL s args Ts own) (hM : vx_Met l y ws rm Pc Qc XC mc ms free) (cw : va_CI R s args own C index x y bytes maxL ret ws rm mc ms n) (hp : PreV s H C b Pc As)
    (hg : g.method = m) (hn : As.length = n) (hsize : g.locals.size = nL) (hstack : g.stack = As.reverse ++ .ref b :: rest) (hW : 2 * g.monitorRoom + (rest.map fun v => v.category).sum ≤ 8) (hdg : decode cc g.pc = .ok (.invokeinterface index count, 5)) (hf : cells + mc ≤ R.cells ∧ slots + ms ≤ R.slots) :
    vx_Run5 p l e R s m args below meth c H locs cells slots mc ms g rest (Qc (Value.ref b :: As).toArray) XC free := by
  obtain ⟨hrc, hrs, hfr, hlo, hws, hcw⟩ := cw.back
  have hini := cw.init
  have hK : vx_Back l R p e below s args y 5 8 (PreOf R mc ms Pc) (PostOf Qc mc ms free) (vx_Post XC mc ms free) := vx_back (bytes := bytes) (maxL := maxL) (ret := ret) hM hp.1 hrc hrs hfr hlo hws hcw (fun a' U hW => word_at hW (Or.inl (by first | rfl | simp [Cond.onTables, Cond.keeps, Cond.steady])) hini)
  obtain ⟨hx, hb, hml, ho, -⟩ := S
  obtain ⟨-, ⟨cellB, hcB, hoB, hclB⟩, hPc⟩ := hp
  obtain ⟨hfc, kB, hkB, -⟩ := hat
  cases hfc.symm.trans hclB
  intro T hT X
  rcases vx_callIF X hx (C := C) (bytes := bytes) (maxL := maxL) (ret := ret) ho cw.link cw.decl cw.face cw.sel cw.inst cw.pub cw.unh cw.cast cw.code cw.notMH hK (by rw [hT]; exact hcB) hoB hclB hkB hg (hsize.trans hml.symm) (argsL := As) (rest := rest) (fun sig h => hn.trans (cw.len sig h)) hstack hW (by rw [hb]; exact hdg)
    (fun vm₁ hW₁ => ⟨hf.1, hf.2, hPc (T.setVm vm₁) hT hW₁⟩) with ⟨v, vm₁, ⟨U', l2, c2, s2⟩, hW₁, X', ⟨g', mk, t, L, e1, e2, hq, h1, hL, h2, h3⟩, st⟩ | ⟨q, vm₁, ⟨U', l2, c2, s2⟩, hW₁, X', ⟨g', mk, t, L, E, ce, e1, e2, hq, hce, hcv, hcl, h1, hL, h2, h3⟩, st⟩
  · dsimp only [Pt.U, Pt.locs, Pt.cells, Pt.slots] at X' e1 e2 h1 h2 h3 st
    subst h1; subst h2; subst h3
    exact Or.inl ⟨v, (T.setVm vm₁).calling g' mk (Value.ref b :: As).toArray, t, U', L, hT, X', hL, e1, e2, hq, st⟩
  · dsimp only [Pt.U, Pt.locs, Pt.cells, Pt.slots] at X' e1 e2 h1 h2 h3 st hcl
    subst h1; subst h2; subst h3
    exact Or.inr ⟨q, (T.setVm vm₁).calling g' mk (Value.ref b :: As).toArray, t, U', L, E, ce, hT, X', hL, e1, e2, hq, hce, hcv, vx_cls hW₁ hcl, st⟩
theorem vx_callFv {S SX : Type} {post : S → Prop} {px : SX → Prop} {B : S → State → Prop} {BX : String → SX → State → Prop} {AX : Nat → Prop} (hr : vx_Run5 p l e R s m args below meth c H locs cells slots mc ms (F0 m pc ls st0) rest (va_Qv post B A1 a) (vx_X px BX AX) free) (hS : va_S A0 H0 H locs) (hA : ∀ q, q < H.size → A1 q → A0 q) (hf : ∀ q, free q → A0 q) (hAX : ∀ q, q < H.size → AX q → A0 q)
    (kx : ∀ (E : String) (ce : Cell) (q9 : Addr) (u : SX) (t : State) (H1 : Heap) (locs1 : List Loc), t.heap = H1 → s.vm.Alike t.vm → px u → BX E u t → H.size ≤ H1.size → (∀ q : Nat, q < H.size → ¬ AX q → H1[q]? = H[q]?) → va_S A0 H0 H1 locs1 → H1[q9]? = some ce → ce.vm = .none → s.vm.findClass E = some ce.cls → vx_W p l e R s m args below meth c H1 locs1 (cells + mc) (slots + ms) Q (F0 m pc ls rest) q9)
    (kk : ∀ (u : S) (t : State) (H1 : Heap) (locs1 : List Loc), t.heap = H1 → s.vm.Alike t.vm → post u → B u t → H.size ≤ H1.size → (∀ q : Nat, q < H.size → ¬ A1 q → H1[q]? = H[q]?) → va_S A0 H0 H1 locs1 → W p l e R s m args below meth c H1 locs1 (cells + mc) (slots + ms) Q (F0 m (pc + 5) ls (rest))) : W p l e R s m args below meth c H locs cells slots Q (F0 m pc ls st0) := by
  intro T hT X
  rcases hr T hT X with ⟨v, st₀, t, T', L, h0, X', hL, e1, e2, ⟨⟨u, hv, hp, hb⟩, hF⟩, st⟩ | ⟨q, st₀, t, T', L, E, ce, h0, X', hL, e1, e2, ⟨u, hp, hb, hF⟩, hce, hcv, hcl, st⟩
  · cases hv
    obtain ⟨k1, k2, k3⟩ := vx_keep h0 e1 hS hA hf hL hF
    obtain ⟨t2, a1, b1⟩ := kk u t T'.heap (locs ++ L) e1.symm (by rw [← e2]; exact X'.warmed.alike) hp hb k1 k2 k3 T' rfl X'
    exact ⟨t2, st t2 a1, b1⟩
  · obtain ⟨k1, k2, k3⟩ := vx_keep h0 e1 hS hAX hf hL hF
    obtain ⟨t2, a1, b1⟩ := kx E ce q u t T'.heap (locs ++ L) e1.symm (by rw [← e2]; exact X'.warmed.alike) hp hb k1 k2 k3 (by rw [e1]; exact hce) hcv hcl T' rfl X'
    exact ⟨t2, st.trans a1, b1⟩
theorem vx_callFi {S SX : Type} {post : Int32 → S → Prop} {px : SX → Prop} {B : S → State → Prop} {BX : String → SX → State → Prop} {AX : Nat → Prop} (hr : vx_Run5 p l e R s m args below meth c H locs cells slots mc ms (F0 m pc ls st0) rest (va_Qi post B A1 a) (vx_X px BX AX) free) (hS : va_S A0 H0 H locs) (hA : ∀ q, q < H.size → A1 q → A0 q) (hf : ∀ q, free q → A0 q) (hAX : ∀ q, q < H.size → AX q → A0 q)
    (kx : ∀ (E : String) (ce : Cell) (q9 : Addr) (u : SX) (t : State) (H1 : Heap) (locs1 : List Loc), t.heap = H1 → s.vm.Alike t.vm → px u → BX E u t → H.size ≤ H1.size → (∀ q : Nat, q < H.size → ¬ AX q → H1[q]? = H[q]?) → va_S A0 H0 H1 locs1 → H1[q9]? = some ce → ce.vm = .none → s.vm.findClass E = some ce.cls → vx_W p l e R s m args below meth c H1 locs1 (cells + mc) (slots + ms) Q (F0 m pc ls rest) q9)
    (kk : ∀ (r : Int32) (u : S) (t : State) (H1 : Heap) (locs1 : List Loc), t.heap = H1 → s.vm.Alike t.vm → post r u → B u t → H.size ≤ H1.size → (∀ q : Nat, q < H.size → ¬ A1 q → H1[q]? = H[q]?) → va_S A0 H0 H1 locs1 → W p l e R s m args below meth c H1 locs1 (cells + mc) (slots + ms) Q (F0 m (pc + 5) ls (.int r :: rest))) : W p l e R s m args below meth c H locs cells slots Q (F0 m pc ls st0) := by
  intro T hT X
  rcases hr T hT X with ⟨v, st₀, t, T', L, h0, X', hL, e1, e2, ⟨⟨r, u, hv, hp, hb⟩, hF⟩, st⟩ | ⟨q, st₀, t, T', L, E, ce, h0, X', hL, e1, e2, ⟨u, hp, hb, hF⟩, hce, hcv, hcl, st⟩
  · cases hv
    obtain ⟨k1, k2, k3⟩ := vx_keep h0 e1 hS hA hf hL hF
    obtain ⟨t2, a1, b1⟩ := kk r u t T'.heap (locs ++ L) e1.symm (by rw [← e2]; exact X'.warmed.alike) hp hb k1 k2 k3 T' rfl X'
    exact ⟨t2, st t2 a1, b1⟩
  · obtain ⟨k1, k2, k3⟩ := vx_keep h0 e1 hS hAX hf hL hF
    obtain ⟨t2, a1, b1⟩ := kx E ce q u t T'.heap (locs ++ L) e1.symm (by rw [← e2]; exact X'.warmed.alike) hp hb k1 k2 k3 (by rw [e1]; exact hce) hcv hcl T' rfl X'
    exact ⟨t2, st.trans a1, b1⟩
theorem vx_callFl {S SX : Type} {post : Int64 → S → Prop} {px : SX → Prop} {B : S → State → Prop} {BX : String → SX → State → Prop} {AX : Nat → Prop} (hr : vx_Run5 p l e R s m args below meth c H locs cells slots mc ms (F0 m pc ls st0) rest (va_Ql post B A1 a) (vx_X px BX AX) free) (hS : va_S A0 H0 H locs) (hA : ∀ q, q < H.size → A1 q → A0 q) (hf : ∀ q, free q → A0 q) (hAX : ∀ q, q < H.size → AX q → A0 q)
    (kx : ∀ (E : String) (ce : Cell) (q9 : Addr) (u : SX) (t : State) (H1 : Heap) (locs1 : List Loc), t.heap = H1 → s.vm.Alike t.vm → px u → BX E u t → H.size ≤ H1.size → (∀ q : Nat, q < H.size → ¬ AX q → H1[q]? = H[q]?) → va_S A0 H0 H1 locs1 → H1[q9]? = some ce → ce.vm = .none → s.vm.findClass E = some ce.cls → vx_W p l e R s m args below meth c H1 locs1 (cells + mc) (slots + ms) Q (F0 m pc ls rest) q9)
    (kk : ∀ (r : Int64) (u : S) (t : State) (H1 : Heap) (locs1 : List Loc), t.heap = H1 → s.vm.Alike t.vm → post r u → B u t → H.size ≤ H1.size → (∀ q : Nat, q < H.size → ¬ A1 q → H1[q]? = H[q]?) → va_S A0 H0 H1 locs1 → W p l e R s m args below meth c H1 locs1 (cells + mc) (slots + ms) Q (F0 m (pc + 5) ls (.long r :: rest))) : W p l e R s m args below meth c H locs cells slots Q (F0 m pc ls st0) := by
  intro T hT X
  rcases hr T hT X with ⟨v, st₀, t, T', L, h0, X', hL, e1, e2, ⟨⟨r, u, hv, hp, hb⟩, hF⟩, st⟩ | ⟨q, st₀, t, T', L, E, ce, h0, X', hL, e1, e2, ⟨u, hp, hb, hF⟩, hce, hcv, hcl, st⟩
  · cases hv
    obtain ⟨k1, k2, k3⟩ := vx_keep h0 e1 hS hA hf hL hF
    obtain ⟨t2, a1, b1⟩ := kk r u t T'.heap (locs ++ L) e1.symm (by rw [← e2]; exact X'.warmed.alike) hp hb k1 k2 k3 T' rfl X'
    exact ⟨t2, st t2 a1, b1⟩
  · obtain ⟨k1, k2, k3⟩ := vx_keep h0 e1 hS hAX hf hL hF
    obtain ⟨t2, a1, b1⟩ := kx E ce q u t T'.heap (locs ++ L) e1.symm (by rw [← e2]; exact X'.warmed.alike) hp hb k1 k2 k3 (by rw [e1]; exact hce) hcv hcl T' rfl X'
    exact ⟨t2, st.trans a1, b1⟩
theorem vx_callFf {S SX : Type} {post : UInt32 → S → Prop} {px : SX → Prop} {B : S → State → Prop} {BX : String → SX → State → Prop} {AX : Nat → Prop} (hr : vx_Run5 p l e R s m args below meth c H locs cells slots mc ms (F0 m pc ls st0) rest (va_Qf post B A1 a) (vx_X px BX AX) free) (hS : va_S A0 H0 H locs) (hA : ∀ q, q < H.size → A1 q → A0 q) (hf : ∀ q, free q → A0 q) (hAX : ∀ q, q < H.size → AX q → A0 q)
    (kx : ∀ (E : String) (ce : Cell) (q9 : Addr) (u : SX) (t : State) (H1 : Heap) (locs1 : List Loc), t.heap = H1 → s.vm.Alike t.vm → px u → BX E u t → H.size ≤ H1.size → (∀ q : Nat, q < H.size → ¬ AX q → H1[q]? = H[q]?) → va_S A0 H0 H1 locs1 → H1[q9]? = some ce → ce.vm = .none → s.vm.findClass E = some ce.cls → vx_W p l e R s m args below meth c H1 locs1 (cells + mc) (slots + ms) Q (F0 m pc ls rest) q9)
    (kk : ∀ (r : UInt32) (u : S) (t : State) (H1 : Heap) (locs1 : List Loc), t.heap = H1 → s.vm.Alike t.vm → post r u → B u t → H.size ≤ H1.size → (∀ q : Nat, q < H.size → ¬ A1 q → H1[q]? = H[q]?) → va_S A0 H0 H1 locs1 → W p l e R s m args below meth c H1 locs1 (cells + mc) (slots + ms) Q (F0 m (pc + 5) ls (.float r :: rest))) : W p l e R s m args below meth c H locs cells slots Q (F0 m pc ls st0) := by
  intro T hT X
  rcases hr T hT X with ⟨v, st₀, t, T', L, h0, X', hL, e1, e2, ⟨⟨r, u, hv, hp, hb⟩, hF⟩, st⟩ | ⟨q, st₀, t, T', L, E, ce, h0, X', hL, e1, e2, ⟨u, hp, hb, hF⟩, hce, hcv, hcl, st⟩
  · cases hv
    obtain ⟨k1, k2, k3⟩ := vx_keep h0 e1 hS hA hf hL hF
    obtain ⟨t2, a1, b1⟩ := kk r u t T'.heap (locs ++ L) e1.symm (by rw [← e2]; exact X'.warmed.alike) hp hb k1 k2 k3 T' rfl X'
    exact ⟨t2, st t2 a1, b1⟩
  · obtain ⟨k1, k2, k3⟩ := vx_keep h0 e1 hS hAX hf hL hF
    obtain ⟨t2, a1, b1⟩ := kx E ce q u t T'.heap (locs ++ L) e1.symm (by rw [← e2]; exact X'.warmed.alike) hp hb k1 k2 k3 (by rw [e1]; exact hce) hcv hcl T' rfl X'
    exact ⟨t2, st.trans a1, b1⟩
theorem vx_callFd {S SX : Type} {post : UInt64 → S → Prop} {px : SX → Prop} {B : S → State → Prop} {BX : String → SX → State → Prop} {AX : Nat → Prop} (hr : vx_Run5 p l e R s m args below meth c H locs cells slots mc ms (F0 m pc ls st0) rest (va_Qd post B A1 a) (vx_X px BX AX) free) (hS : va_S A0 H0 H locs) (hA : ∀ q, q < H.size → A1 q → A0 q) (hf : ∀ q, free q → A0 q) (hAX : ∀ q, q < H.size → AX q → A0 q)
    (kx : ∀ (E : String) (ce : Cell) (q9 : Addr) (u : SX) (t : State) (H1 : Heap) (locs1 : List Loc), t.heap = H1 → s.vm.Alike t.vm → px u → BX E u t → H.size ≤ H1.size → (∀ q : Nat, q < H.size → ¬ AX q → H1[q]? = H[q]?) → va_S A0 H0 H1 locs1 → H1[q9]? = some ce → ce.vm = .none → s.vm.findClass E = some ce.cls → vx_W p l e R s m args below meth c H1 locs1 (cells + mc) (slots + ms) Q (F0 m pc ls rest) q9)
    (kk : ∀ (r : UInt64) (u : S) (t : State) (H1 : Heap) (locs1 : List Loc), t.heap = H1 → s.vm.Alike t.vm → post r u → B u t → H.size ≤ H1.size → (∀ q : Nat, q < H.size → ¬ A1 q → H1[q]? = H[q]?) → va_S A0 H0 H1 locs1 → W p l e R s m args below meth c H1 locs1 (cells + mc) (slots + ms) Q (F0 m (pc + 5) ls (.double r :: rest))) : W p l e R s m args below meth c H locs cells slots Q (F0 m pc ls st0) := by
  intro T hT X
  rcases hr T hT X with ⟨v, st₀, t, T', L, h0, X', hL, e1, e2, ⟨⟨r, u, hv, hp, hb⟩, hF⟩, st⟩ | ⟨q, st₀, t, T', L, E, ce, h0, X', hL, e1, e2, ⟨u, hp, hb, hF⟩, hce, hcv, hcl, st⟩
  · cases hv
    obtain ⟨k1, k2, k3⟩ := vx_keep h0 e1 hS hA hf hL hF
    obtain ⟨t2, a1, b1⟩ := kk r u t T'.heap (locs ++ L) e1.symm (by rw [← e2]; exact X'.warmed.alike) hp hb k1 k2 k3 T' rfl X'
    exact ⟨t2, st t2 a1, b1⟩
  · obtain ⟨k1, k2, k3⟩ := vx_keep h0 e1 hS hAX hf hL hF
    obtain ⟨t2, a1, b1⟩ := kx E ce q u t T'.heap (locs ++ L) e1.symm (by rw [← e2]; exact X'.warmed.alike) hp hb k1 k2 k3 (by rw [e1]; exact hce) hcv hcl T' rfl X'
    exact ⟨t2, st.trans a1, b1⟩
end
/-! ===== END ===== -/
/-! ===== BEGIN by an interface, a method with a table of its own that may throw (follows va_callIFW, va_runFW) ===== -/
section
variable {p : Program} {l : Launch} {e : Env} {R : Room} {s : State} {m : MethodId} {args : Array Value} {below : List Frame} {meth : Method} {c : Code} {H : Heap} {locs : List Loc} {cells slots : Nat}
theorem vx_callIFW {T : State} (X : Stand p l e R s m args below meth c T locs cells slots) (hexec : p.tables.exec = Jvm.exec) {own C : String} {index count : Nat} {x y : MethodName} {bytes : ByteArray} {maxL : Nat} {ret : Option FieldType} {hh : List (Nat × Nat × Nat × Nat)}
    (hown : s.vm.findClass own = some m.cls) (hlink : (Cond.methodLink own index x).before args s = true) (hdecl : (Cond.declares x).before args s = true) (hface : (Cond.interfaceMethod x.cls x.cls x.name x.desc).before args s = true)
    (hsel : (Cond.selects C x y).before args s = true) (hinst : (Cond.instanceMethod y).before args s = true) (hpub : (Cond.publicMethod y).before args s = true) (hunh : (Cond.unhidden C x.name x.desc).before args s = true)
    (hcast : (Cond.castable C x.cls).before args s = true) (hcode : (Cond.codeWith y bytes maxL ret hh).before args s = true) (hx : x.cls ≠ "java/lang/invoke/MethodHandle" ∧ x.cls ≠ "java/lang/invoke/VarHandle")
    {W : Nat} {Pre : Pt → Array Value → Prop} {Post : Pt → Array Value → Option Value → Pt → Prop} {PostX : Pt → Array Value → Addr → Pt → Prop} (hK : vx_Back l R p e below s args y 5 W Pre Post PostX)
    {b : Addr} {cellB : Cell} {kB : Class} (hcell : T.heap[b]? = some cellB) (hobj : cellB.vm.isStatics = false) (hcls : s.vm.findClass C = some cellB.cls) (hkB : s.vm.classes[cellB.cls]? = some kB)
    {g : JFrame} (hg : g.method = m) (hsize : g.locals.size = c.maxLocals) {argsL rest : List Value} (hlen : ∀ sig, parseMethodDescriptor x.desc = some sig → argsL.length = sig.parameters.length)
    (hstack : g.stack = argsL.reverse ++ .ref b :: rest) (hW : 2 * g.monitorRoom + (rest.map fun v => v.category).sum ≤ W) (hdg : decode c.code g.pc = .ok (.invokeinterface index count, 5))
    (hpre : ∀ vm₁, s.WarmedH vm₁ → Pre ⟨T.setVm vm₁, locs, cells, slots⟩ (Value.ref b :: argsL).toArray) :
    (∃ (v : Option Value) (vm₁ : Vm) (B : Pt), s.WarmedH vm₁ ∧ Stand p l e R s m args below meth c B.U B.locs B.cells B.slots ∧ Post ⟨T.setVm vm₁, locs, cells, slots⟩ (Value.ref b :: argsL).toArray v B ∧
      ∀ target, Steps p.tables e below (B.U.setTop { g with pc := g.pc + 5, stack := v.toList ++ rest }) target → Steps p.tables e below (T.setTop g) target) ∨
    (∃ (q : Addr) (vm₁ : Vm) (B : Pt), s.WarmedH vm₁ ∧ Stand p l e R s m args below meth c B.U B.locs B.cells B.slots ∧ PostX ⟨T.setVm vm₁, locs, cells, slots⟩ (Value.ref b :: argsL).toArray q B ∧
      Steps p.tables e below (T.setTop g) ((B.U.setTop { g with stack := rest }).pushFrame (.throwing q))) := by
  obtain ⟨r0, r, hn, hrm, hstR, hsigR⟩ := Cond.declares_spec hdecl
  obtain ⟨cL, kL, r1, hcL, hkL, hiL, hfoundL, hn1⟩ := Cond.interfaceMethod_spec hface
  cases hn.symm.trans hn1
  have hr0cls : r0.cls = cL := Option.some.inj ((findClass_of_methodNamed hn).symm.trans hcL)
  obtain ⟨hnameR, hdescR⟩ := name_of_methodNamed hn hrm
  obtain ⟨mk, methM, hnamed, hmethM, -, habM⟩ := Cond.instanceMethod_spec hinst
  obtain ⟨c2, r2, m2, q1, q2, q3, q4, -⟩ := Cond.selects_spec hsel
  cases hcls.symm.trans q1
  cases hfoundL.symm.trans q2
  cases hnamed.symm.trans q3
  have hselP : selectMethod e.platform s.vm cellB.cls r0 = .method mk := by rw [Launch.admits_selectMethod X.admits]; exact q4
  have hpubM : hasFlag methM.accessFlags Acc.public_ = true := Cond.publicMethod_spec hnamed hmethM hpub
  have hway : ((cellB.cls :: s.vm.superclasses cellB.cls).any fun k => (declaredIn s.vm r.name r.desc k).any fun (_, z) => z.isPrivate || z.isStatic) = false := by
    rw [hnameR, hdescR]; exact Cond.unhidden_spec hcls hunh
  obtain ⟨c3, t3, w1, w2, w3⟩ := Cond.castable_spec hcast
  cases hcls.symm.trans w1
  cases hcL.symm.trans w2
  obtain ⟨vm₁, X₁, hstep₁⟩ := X.invokeinterface hexec hown hlink hn hrm hstR (by rw [hr0cls]; exact hkL) hiL hx (a := b) (cell := cellB) (kcell := kB) hcell
    (fun z h => by rw [h] at hobj; cases hobj) hkB (by rw [hr0cls]; exact w3) hselP hmethM hway hpubM habM (g := g) hg (argsL := argsL) (rest := rest) (hlen _ hsigR) hstack hdg
  rcases hK m meth c ⟨T.setVm vm₁, locs, cells, slots⟩ { g with stack := rest } (.invokeinterface index count) mk (Value.ref b :: argsL).toArray X₁ hg hsize hdg hW (X₁.named hnamed) (hpre vm₁ X₁.warmed) with ⟨v, B, X', hpost, hsteps⟩ | ⟨q, B, X', hpost, hsteps⟩
  · exact Or.inl ⟨v, vm₁, B, X₁.warmed, X', hpost, fun target h => hstep₁ _ fun acts => by rw [doInvoke_state]; exact hsteps.trans h⟩
  · exact Or.inr ⟨q, vm₁, B, X₁.warmed, X', hpost, hstep₁ _ fun acts => by rw [doInvoke_state]; exact hsteps⟩
theorem vx_runFW {x y : MethodName} {bytes cc : ByteArray} {maxL nL mc ms n index count : Nat} {ret : Option FieldType} {hh : List (Nat × Nat × Nat × Nat)} {ws : List Cond} {rm : Room} {Pc : Array Value → State → Prop} {Qc : Array Value → State → Outcome → State → Prop} {XC : String → State → State → Prop} {free : Addr → Prop} {Ts : List Cond} {own C : String} {cC : ClassId} {b : Addr} {As rest : List Value} {g : JFrame}
    (hat : ClassAt s C cC) (S : CallFix p m c cc nL s args Ts own) (hM : vx_Met l y ws rm Pc Qc XC mc ms free) (cw : va_CIW R s args own C index x y bytes maxL ret hh ws rm mc ms n) (hp : PreV s H C b Pc As)
    (hg : g.method = m) (hn : As.length = n) (hsize : g.locals.size = nL) (hstack : g.stack = As.reverse ++ .ref b :: rest) (hW : 2 * g.monitorRoom + (rest.map fun v => v.category).sum ≤ 8) (hdg : decode cc g.pc = .ok (.invokeinterface index count, 5)) (hf : cells + mc ≤ R.cells ∧ slots + ms ≤ R.slots) :
    vx_Run5 p l e R s m args below meth c H locs cells slots mc ms g rest (Qc (Value.ref b :: As).toArray) XC free := by
  obtain ⟨hrc, hrs, hfr, hlo, hws, hcw⟩ := cw.back
  have hini := cw.init
  have hK : vx_Back l R p e below s args y 5 8 (PreOf R mc ms Pc) (PostOf Qc mc ms free) (vx_Post XC mc ms free) := vx_backW (hh := hh) (bytes := bytes) (maxL := maxL) (ret := ret) hM hp.1 hrc hrs hfr hlo hws hcw (fun a' U hW => word_at hW (Or.inl (by first | rfl | simp [Cond.onTables, Cond.keeps, Cond.steady])) hini)
  obtain ⟨hx, hb, hml, ho, -⟩ := S
  obtain ⟨-, ⟨cellB, hcB, hoB, hclB⟩, hPc⟩ := hp
  obtain ⟨hfc, kB, hkB, -⟩ := hat
  cases hfc.symm.trans hclB
  intro T hT X
  rcases vx_callIFW X hx (C := C) (hh := hh) (bytes := bytes) (maxL := maxL) (ret := ret) ho cw.link cw.decl cw.face cw.sel cw.inst cw.pub cw.unh cw.cast cw.code cw.notMH hK (by rw [hT]; exact hcB) hoB hclB hkB hg (hsize.trans hml.symm) (argsL := As) (rest := rest) (fun sig h => hn.trans (cw.len sig h)) hstack hW (by rw [hb]; exact hdg)
    (fun vm₁ hW₁ => ⟨hf.1, hf.2, hPc (T.setVm vm₁) hT hW₁⟩) with ⟨v, vm₁, ⟨U', l2, c2, s2⟩, hW₁, X', ⟨g', mk, t, L, e1, e2, hq, h1, hL, h2, h3⟩, st⟩ | ⟨q, vm₁, ⟨U', l2, c2, s2⟩, hW₁, X', ⟨g', mk, t, L, E, ce, e1, e2, hq, hce, hcv, hcl, h1, hL, h2, h3⟩, st⟩
  · dsimp only [Pt.U, Pt.locs, Pt.cells, Pt.slots] at X' e1 e2 h1 h2 h3 st
    subst h1; subst h2; subst h3
    exact Or.inl ⟨v, (T.setVm vm₁).calling g' mk (Value.ref b :: As).toArray, t, U', L, hT, X', hL, e1, e2, hq, st⟩
  · dsimp only [Pt.U, Pt.locs, Pt.cells, Pt.slots] at X' e1 e2 h1 h2 h3 st hcl
    subst h1; subst h2; subst h3
    exact Or.inr ⟨q, (T.setVm vm₁).calling g' mk (Value.ref b :: As).toArray, t, U', L, E, ce, hT, X', hL, e1, e2, hq, hce, hcv, vx_cls hW₁ hcl, st⟩
end
/-! ===== END ===== -/
/-! ===== BEGIN .. of methods that hand back an object of the pool ===== -/
section
variable {p : Program} {l : Launch} {e : Env} {R : Room} {s : State} {m : MethodId} {args : Array Value} {below : List Frame} {meth : Method} {c : Code} {H : Heap} {locs : List Loc} {cells slots : Nat} {Q : State → Prop}
variable {mc ms : Nat} {free : Addr → Prop} {A0 A1 : Nat → Prop} {H0 : Heap} {a : Array Value} {pc : Nat} {ls : Array Slot} {st0 rest : List Value}
theorem vx_callq {S SX : Type} {post : Option Nat → S → Prop} {px : SX → Prop} {B : S → State → Prop} {BX : String → SX → State → Prop} {AX : Nat → Prop} (hr : vx_Run p l e R s m args below meth c H locs cells slots mc ms (F0 m pc ls st0) rest (va_Qq post B A1 a) (vx_X px BX AX) free) (hS : va_S A0 H0 H locs) (hA : ∀ q, q < H.size → A1 q → A0 q) (hf : ∀ q, free q → A0 q) (hAX : ∀ q, q < H.size → AX q → A0 q)
    (kx : ∀ (E : String) (ce : Cell) (q9 : Addr) (u : SX) (t : State) (H1 : Heap) (locs1 : List Loc), t.heap = H1 → s.vm.Alike t.vm → px u → BX E u t → H.size ≤ H1.size → (∀ q : Nat, q < H.size → ¬ AX q → H1[q]? = H[q]?) → va_S A0 H0 H1 locs1 → H1[q9]? = some ce → ce.vm = .none → s.vm.findClass E = some ce.cls → vx_W p l e R s m args below meth c H1 locs1 (cells + mc) (slots + ms) Q (F0 m pc ls rest) q9)
    (kk : ∀ (r : Option Nat) (u : S) (t : State) (H1 : Heap) (locs1 : List Loc), t.heap = H1 → s.vm.Alike t.vm → post r u → B u t → H.size ≤ H1.size → (∀ q : Nat, q < H.size → ¬ A1 q → H1[q]? = H[q]?) → va_S A0 H0 H1 locs1 → W p l e R s m args below meth c H1 locs1 (cells + mc) (slots + ms) Q (F0 m (pc + 3) ls (va_rf r :: rest))) : W p l e R s m args below meth c H locs cells slots Q (F0 m pc ls st0) := by
  intro T hT X
  rcases hr T hT X with ⟨v, st₀, t, T', L, h0, X', hL, e1, e2, ⟨⟨r, u, hv, hp, hb⟩, hF⟩, st⟩ | ⟨q, st₀, t, T', L, E, ce, h0, X', hL, e1, e2, ⟨u, hp, hb, hF⟩, hce, hcv, hcl, st⟩
  · cases hv
    obtain ⟨k1, k2, k3⟩ := vx_keep h0 e1 hS hA hf hL hF
    obtain ⟨t2, a1, b1⟩ := kk r u t T'.heap (locs ++ L) e1.symm (by rw [← e2]; exact X'.warmed.alike) hp hb k1 k2 k3 T' rfl X'
    exact ⟨t2, st t2 a1, b1⟩
  · obtain ⟨k1, k2, k3⟩ := vx_keep h0 e1 hS hAX hf hL hF
    obtain ⟨t2, a1, b1⟩ := kx E ce q u t T'.heap (locs ++ L) e1.symm (by rw [← e2]; exact X'.warmed.alike) hp hb k1 k2 k3 (by rw [e1]; exact hce) hcv hcl T' rfl X'
    exact ⟨t2, st.trans a1, b1⟩
end
/-! ===== END ===== -/
/-! ===== BEGIN .. a constant ===== -/
section
variable {p : Program} {l : Launch} {e : Env} {R : Room} {s : State} {m : MethodId} {args : Array Value} {below : List Frame} {meth : Method} {c : Code} {H : Heap} {locs : List Loc} {cells slots : Nat} {Q : State → Prop}
variable {mc ms : Nat} {free : Addr → Prop} {A0 A1 : Nat → Prop} {H0 : Heap} {a : Array Value} {pc : Nat} {ls : Array Slot} {st0 rest : List Value}
theorem vx_calle {ad : Nat → Nat} {S SX : Type} {post : Option Nat → S → Prop} {px : SX → Prop} {B : S → State → Prop} {BX : String → SX → State → Prop} {AX : Nat → Prop} (hr : vx_Run p l e R s m args below meth c H locs cells slots mc ms (F0 m pc ls st0) rest (va_Qe ad post B A1 a) (vx_X px BX AX) free) (hS : va_S A0 H0 H locs) (hA : ∀ q, q < H.size → A1 q → A0 q) (hf : ∀ q, free q → A0 q) (hAX : ∀ q, q < H.size → AX q → A0 q)
    (kx : ∀ (E : String) (ce : Cell) (q9 : Addr) (u : SX) (t : State) (H1 : Heap) (locs1 : List Loc), t.heap = H1 → s.vm.Alike t.vm → px u → BX E u t → H.size ≤ H1.size → (∀ q : Nat, q < H.size → ¬ AX q → H1[q]? = H[q]?) → va_S A0 H0 H1 locs1 → H1[q9]? = some ce → ce.vm = .none → s.vm.findClass E = some ce.cls → vx_W p l e R s m args below meth c H1 locs1 (cells + mc) (slots + ms) Q (F0 m pc ls rest) q9)
    (kk : ∀ (r : Option Nat) (u : S) (t : State) (H1 : Heap) (locs1 : List Loc), t.heap = H1 → s.vm.Alike t.vm → post r u → B u t → H.size ≤ H1.size → (∀ q : Nat, q < H.size → ¬ A1 q → H1[q]? = H[q]?) → va_S A0 H0 H1 locs1 → W p l e R s m args below meth c H1 locs1 (cells + mc) (slots + ms) Q (F0 m (pc + 3) ls (va_re ad r :: rest))) : W p l e R s m args below meth c H locs cells slots Q (F0 m pc ls st0) := by
  intro T hT X
  rcases hr T hT X with ⟨v, st₀, t, T', L, h0, X', hL, e1, e2, ⟨⟨r, u, hv, hp, hb⟩, hF⟩, st⟩ | ⟨q, st₀, t, T', L, E, ce, h0, X', hL, e1, e2, ⟨u, hp, hb, hF⟩, hce, hcv, hcl, st⟩
  · cases hv
    obtain ⟨k1, k2, k3⟩ := vx_keep h0 e1 hS hA hf hL hF
    obtain ⟨t2, a1, b1⟩ := kk r u t T'.heap (locs ++ L) e1.symm (by rw [← e2]; exact X'.warmed.alike) hp hb k1 k2 k3 T' rfl X'
    exact ⟨t2, st t2 a1, b1⟩
  · obtain ⟨k1, k2, k3⟩ := vx_keep h0 e1 hS hAX hf hL hF
    obtain ⟨t2, a1, b1⟩ := kx E ce q u t T'.heap (locs ++ L) e1.symm (by rw [← e2]; exact X'.warmed.alike) hp hb k1 k2 k3 (by rw [e1]; exact hce) hcv hcl T' rfl X'
    exact ⟨t2, st.trans a1, b1⟩
end
/-! ===== END ===== -/
/-! ===== BEGIN .. by an interface, an object ===== -/
section
variable {p : Program} {l : Launch} {e : Env} {R : Room} {s : State} {m : MethodId} {args : Array Value} {below : List Frame} {meth : Method} {c : Code} {H : Heap} {locs : List Loc} {cells slots : Nat} {Q : State → Prop}
variable {mc ms : Nat} {free : Addr → Prop} {A0 A1 : Nat → Prop} {H0 : Heap} {a : Array Value} {pc : Nat} {ls : Array Slot} {st0 rest : List Value}
theorem vx_callFq {S SX : Type} {post : Option Nat → S → Prop} {px : SX → Prop} {B : S → State → Prop} {BX : String → SX → State → Prop} {AX : Nat → Prop} (hr : vx_Run5 p l e R s m args below meth c H locs cells slots mc ms (F0 m pc ls st0) rest (va_Qq post B A1 a) (vx_X px BX AX) free) (hS : va_S A0 H0 H locs) (hA : ∀ q, q < H.size → A1 q → A0 q) (hf : ∀ q, free q → A0 q) (hAX : ∀ q, q < H.size → AX q → A0 q)
    (kx : ∀ (E : String) (ce : Cell) (q9 : Addr) (u : SX) (t : State) (H1 : Heap) (locs1 : List Loc), t.heap = H1 → s.vm.Alike t.vm → px u → BX E u t → H.size ≤ H1.size → (∀ q : Nat, q < H.size → ¬ AX q → H1[q]? = H[q]?) → va_S A0 H0 H1 locs1 → H1[q9]? = some ce → ce.vm = .none → s.vm.findClass E = some ce.cls → vx_W p l e R s m args below meth c H1 locs1 (cells + mc) (slots + ms) Q (F0 m pc ls rest) q9)
    (kk : ∀ (r : Option Nat) (u : S) (t : State) (H1 : Heap) (locs1 : List Loc), t.heap = H1 → s.vm.Alike t.vm → post r u → B u t → H.size ≤ H1.size → (∀ q : Nat, q < H.size → ¬ A1 q → H1[q]? = H[q]?) → va_S A0 H0 H1 locs1 → W p l e R s m args below meth c H1 locs1 (cells + mc) (slots + ms) Q (F0 m (pc + 5) ls (va_rf r :: rest))) : W p l e R s m args below meth c H locs cells slots Q (F0 m pc ls st0) := by
  intro T hT X
  rcases hr T hT X with ⟨v, st₀, t, T', L, h0, X', hL, e1, e2, ⟨⟨r, u, hv, hp, hb⟩, hF⟩, st⟩ | ⟨q, st₀, t, T', L, E, ce, h0, X', hL, e1, e2, ⟨u, hp, hb, hF⟩, hce, hcv, hcl, st⟩
  · cases hv
    obtain ⟨k1, k2, k3⟩ := vx_keep h0 e1 hS hA hf hL hF
    obtain ⟨t2, a1, b1⟩ := kk r u t T'.heap (locs ++ L) e1.symm (by rw [← e2]; exact X'.warmed.alike) hp hb k1 k2 k3 T' rfl X'
    exact ⟨t2, st t2 a1, b1⟩
  · obtain ⟨k1, k2, k3⟩ := vx_keep h0 e1 hS hAX hf hL hF
    obtain ⟨t2, a1, b1⟩ := kx E ce q u t T'.heap (locs ++ L) e1.symm (by rw [← e2]; exact X'.warmed.alike) hp hb k1 k2 k3 (by rw [e1]; exact hce) hcv hcl T' rfl X'
    exact ⟨t2, st.trans a1, b1⟩
end
/-! ===== END ===== -/
/-! ===== BEGIN .. by an interface, a constant ===== -/
section
variable {p : Program} {l : Launch} {e : Env} {R : Room} {s : State} {m : MethodId} {args : Array Value} {below : List Frame} {meth : Method} {c : Code} {H : Heap} {locs : List Loc} {cells slots : Nat} {Q : State → Prop}
variable {mc ms : Nat} {free : Addr → Prop} {A0 A1 : Nat → Prop} {H0 : Heap} {a : Array Value} {pc : Nat} {ls : Array Slot} {st0 rest : List Value}
theorem vx_callFe {ad : Nat → Nat} {S SX : Type} {post : Option Nat → S → Prop} {px : SX → Prop} {B : S → State → Prop} {BX : String → SX → State → Prop} {AX : Nat → Prop} (hr : vx_Run5 p l e R s m args below meth c H locs cells slots mc ms (F0 m pc ls st0) rest (va_Qe ad post B A1 a) (vx_X px BX AX) free) (hS : va_S A0 H0 H locs) (hA : ∀ q, q < H.size → A1 q → A0 q) (hf : ∀ q, free q → A0 q) (hAX : ∀ q, q < H.size → AX q → A0 q)
    (kx : ∀ (E : String) (ce : Cell) (q9 : Addr) (u : SX) (t : State) (H1 : Heap) (locs1 : List Loc), t.heap = H1 → s.vm.Alike t.vm → px u → BX E u t → H.size ≤ H1.size → (∀ q : Nat, q < H.size → ¬ AX q → H1[q]? = H[q]?) → va_S A0 H0 H1 locs1 → H1[q9]? = some ce → ce.vm = .none → s.vm.findClass E = some ce.cls → vx_W p l e R s m args below meth c H1 locs1 (cells + mc) (slots + ms) Q (F0 m pc ls rest) q9)
    (kk : ∀ (r : Option Nat) (u : S) (t : State) (H1 : Heap) (locs1 : List Loc), t.heap = H1 → s.vm.Alike t.vm → post r u → B u t → H.size ≤ H1.size → (∀ q : Nat, q < H.size → ¬ A1 q → H1[q]? = H[q]?) → va_S A0 H0 H1 locs1 → W p l e R s m args below meth c H1 locs1 (cells + mc) (slots + ms) Q (F0 m (pc + 5) ls (va_re ad r :: rest))) : W p l e R s m args below meth c H locs cells slots Q (F0 m pc ls st0) := by
  intro T hT X
  rcases hr T hT X with ⟨v, st₀, t, T', L, h0, X', hL, e1, e2, ⟨⟨r, u, hv, hp, hb⟩, hF⟩, st⟩ | ⟨q, st₀, t, T', L, E, ce, h0, X', hL, e1, e2, ⟨u, hp, hb, hF⟩, hce, hcv, hcl, st⟩
  · cases hv
    obtain ⟨k1, k2, k3⟩ := vx_keep h0 e1 hS hA hf hL hF
    obtain ⟨t2, a1, b1⟩ := kk r u t T'.heap (locs ++ L) e1.symm (by rw [← e2]; exact X'.warmed.alike) hp hb k1 k2 k3 T' rfl X'
    exact ⟨t2, st t2 a1, b1⟩
  · obtain ⟨k1, k2, k3⟩ := vx_keep h0 e1 hS hAX hf hL hF
    obtain ⟨t2, a1, b1⟩ := kx E ce q u t T'.heap (locs ++ L) e1.symm (by rw [← e2]; exact X'.warmed.alike) hp hb k1 k2 k3 (by rw [e1]; exact hce) hcv hcl T' rfl X'
    exact ⟨t2, st.trans a1, b1⟩
end
/-! ===== END ===== -/
/-! ===== BEGIN what the machine throws by itself: null at a field, at athrow ===== -/
section VXM2
variable {p : Program} {l : Launch} {e : Env} {R : Room} {s : State} {m : MethodId} {args : Array Value} {below : List Frame} {meth : Method} {c : Code} {H : Heap} {locs : List Loc} {cells slots : Nat}
variable {Q : State → Prop} {cc : ByteArray} {pc : Nat} {ls : Array Slot} {rest : List Value}
theorem vx_getfN {D cl tys} {own ref C : String} {T : u_T} {N ci index : Nat} {Ts : List Cond} (hexec : p.tables.exec = Jvm.exec) (hb : c.code = cc) (hts : ∀ w ∈ Ts, w.before args s = true) (hin : ∀ w ∈ u_ws C T N, w ∈ Ts) (hown : s.vm.findClass own = some m.cls) (hK : va_K D cl tys s) (hc : cl[ci]? = some (C, T, N)) (k : Nat) (hk : k < N) (hlink : (Cond.fieldLink own index ref (T k).2.1 (T k).2.2.1).before args s = true) (hsame : ∀ x, s.fieldFound? (T k).1 (T k).2.1 (T k).2.2.1 = some x → s.fieldFound? ref (T k).2.1 (T k).2.2.1 = some x) (hdg : decode cc pc = .ok (.getfield index, 3)) (kk : vx_NoteN p l e R s m args below meth c H locs cells slots Q (F0 m pc ls rest)) : W p l e R s m args below meth c H locs cells slots Q (F0 m pc ls (.null :: rest)) := by
  obtain ⟨hS, hfc, kC, hkC, -⟩ := hK.1 ci _ hc
  obtain ⟨cf, kf, fi, f, hi, -⟩ := hS k hk
  intro U hU X
  obtain ⟨vm', X1, st1⟩ := X.getfieldNull hexec hown hlink (hsame _ hi) (u_facts hfc hkC (u_lays hts hin hk) hi).1 (g := F0 m pc ls (.null :: rest)) rfl (rest := rest) rfl (by rw [hb]; exact hdg)
  obtain ⟨t, st, q⟩ := kk (U.setVm vm') hU X1
  exact ⟨t, st1 t st, q⟩
theorem vx_getfNN {D cl tys} {own ref C host : String} {T : u_T} {N ci index : Nat} {Ts : List Cond} (hexec : p.tables.exec = Jvm.exec) (hb : c.code = cc) (hts : ∀ w ∈ Ts, w.before args s = true) (hin : ∀ w ∈ u_ws C T N, w ∈ Ts) (hown : s.vm.findClass own = some m.cls) (hK : va_K D cl tys s) (hc : cl[ci]? = some (C, T, N)) (k : Nat) (hk : k < N) (hlink : (Cond.fieldLinkNest own index ref (T k).2.1 (T k).2.2.1 host).before args s = true) (hsame : ∀ x, s.fieldFound? (T k).1 (T k).2.1 (T k).2.2.1 = some x → s.fieldFound? ref (T k).2.1 (T k).2.2.1 = some x) (hdg : decode cc pc = .ok (.getfield index, 3)) (kk : vx_NoteN p l e R s m args below meth c H locs cells slots Q (F0 m pc ls rest)) : W p l e R s m args below meth c H locs cells slots Q (F0 m pc ls (.null :: rest)) := by
  obtain ⟨hS, hfc, kC, hkC, -⟩ := hK.1 ci _ hc
  obtain ⟨cf, kf, fi, f, hi, -⟩ := hS k hk
  intro U hU X
  obtain ⟨vm', X1, st1⟩ := X.getfieldNullNest hexec hown hlink (hsame _ hi) (u_facts hfc hkC (u_lays hts hin hk) hi).1 (g := F0 m pc ls (.null :: rest)) rfl (rest := rest) rfl (by rw [hb]; exact hdg)
  obtain ⟨t, st, q⟩ := kk (U.setVm vm') hU X1
  exact ⟨t, st1 t st, q⟩
theorem vx_putfN {D cl tys} {own ref C : String} {T : u_T} {N ci index : Nat} {Ts : List Cond} (hexec : p.tables.exec = Jvm.exec) (hb : c.code = cc) (hts : ∀ w ∈ Ts, w.before args s = true) (hin : ∀ w ∈ u_ws C T N, w ∈ Ts) (hown : s.vm.findClass own = some m.cls) (hK : va_K D cl tys s) (hc : cl[ci]? = some (C, T, N)) (k : Nat) (hk : k < N) (hlink : (Cond.fieldLink own index ref (T k).2.1 (T k).2.2.1).before args s = true) (hsame : ∀ x, s.fieldFound? (T k).1 (T k).2.1 (T k).2.2.1 = some x → s.fieldFound? ref (T k).2.1 (T k).2.2.1 = some x) (hfin : (T k).2.2.2 = false) {v : Value} (hdg : decode cc pc = .ok (.putfield index, 3)) (kk : vx_NoteN p l e R s m args below meth c H locs cells slots Q (F0 m pc ls rest)) : W p l e R s m args below meth c H locs cells slots Q (F0 m pc ls (v :: .null :: rest)) := by
  obtain ⟨hS, hfc, kC, hkC, -⟩ := hK.1 ci _ hc
  obtain ⟨cf, kf, fi, f, hi, -⟩ := hS k hk
  have hlay := hts _ (hin _ (u_in_lay hk))
  unfold u_lay at hlay
  rw [if_neg (by rw [hfin]; decide)] at hlay
  obtain ⟨c9, k9, cf9, kf9, fi9, f9, -, -, hi9, hst9, hnf9, -⟩ := Cond.lays_spec hlay
  cases hi.symm.trans hi9
  intro U hU X
  obtain ⟨vm', X1, st1⟩ := X.putfieldNull hexec hown hlink (hsame _ hi) hst9 hnf9 (g := F0 m pc ls (v :: .null :: rest)) rfl (v := v) (rest := rest) rfl (by rw [hb]; exact hdg)
  obtain ⟨t, st, q⟩ := kk (U.setVm vm') hU X1
  exact ⟨t, st1 t st, q⟩
theorem vx_putfNN {D cl tys} {own ref C host : String} {T : u_T} {N ci index : Nat} {Ts : List Cond} (hexec : p.tables.exec = Jvm.exec) (hb : c.code = cc) (hts : ∀ w ∈ Ts, w.before args s = true) (hin : ∀ w ∈ u_ws C T N, w ∈ Ts) (hown : s.vm.findClass own = some m.cls) (hK : va_K D cl tys s) (hc : cl[ci]? = some (C, T, N)) (k : Nat) (hk : k < N) (hlink : (Cond.fieldLinkNest own index ref (T k).2.1 (T k).2.2.1 host).before args s = true) (hsame : ∀ x, s.fieldFound? (T k).1 (T k).2.1 (T k).2.2.1 = some x → s.fieldFound? ref (T k).2.1 (T k).2.2.1 = some x) (hfin : (T k).2.2.2 = false) {v : Value} (hdg : decode cc pc = .ok (.putfield index, 3)) (kk : vx_NoteN p l e R s m args below meth c H locs cells slots Q (F0 m pc ls rest)) : W p l e R s m args below meth c H locs cells slots Q (F0 m pc ls (v :: .null :: rest)) := by
  obtain ⟨hS, hfc, kC, hkC, -⟩ := hK.1 ci _ hc
  obtain ⟨cf, kf, fi, f, hi, -⟩ := hS k hk
  have hlay := hts _ (hin _ (u_in_lay hk))
  unfold u_lay at hlay
  rw [if_neg (by rw [hfin]; decide)] at hlay
  obtain ⟨c9, k9, cf9, kf9, fi9, f9, -, -, hi9, hst9, hnf9, -⟩ := Cond.lays_spec hlay
  cases hi.symm.trans hi9
  intro U hU X
  obtain ⟨vm', X1, st1⟩ := X.putfieldNullNest hexec hown hlink (hsame _ hi) hst9 hnf9 (g := F0 m pc ls (v :: .null :: rest)) rfl (v := v) (rest := rest) rfl (by rw [hb]; exact hdg)
  obtain ⟨t, st, q⟩ := kk (U.setVm vm') hU X1
  exact ⟨t, st1 t st, q⟩
theorem vx_athrowN (hexec : p.tables.exec = Jvm.exec) (hb : c.code = cc) (hdg : decode cc pc = .ok (.athrow, 1)) (k : vx_NoteN p l e R s m args below meth c H locs cells slots Q (F0 m pc ls rest)) : W p l e R s m args below meth c H locs cells slots Q (F0 m pc ls (.null :: rest)) := by
  intro T hT X
  obtain ⟨t, st, q⟩ := k T hT X
  exact ⟨t, X.athrowNull hexec (g := F0 m pc ls (.null :: rest)) rfl (rest := rest) rfl (by rw [hb]; exact hdg) t st, q⟩
end VXM2
/-! ===== END ===== -/
end
section
def RX0 : String := "VowelTorus$Board"
def TX0 : u_T := fun k => match k with
  | 0 => ("VowelTorus$Board", "rows", "I", false)
  | 1 => ("VowelTorus$Board", "columns", "I", false)
  | 2 => ("VowelTorus$Board", "letters", "J", false)
  | 3 => ("VowelTorus$Board", "aim", "J", false)
  | 4 => ("VowelTorus$Board", "bars", "I", false)
  | 5 => ("VowelTorus$Board", "turnsMade", "I", false)
  | 6 => ("VowelTorus$Board", "swapsMade", "I", false)
  | 7 => ("VowelTorus$Board", "scramblesMade", "I", false)
  | 8 => ("VowelTorus$Board", "stepsMade", "I", false)
  | 9 => ("VowelTorus$Board", "boardsMade", "I", false)
  | _ => ("VowelTorus$Board", "goalsReached", "I", false)
def tyX0 : Nat → FieldType := fun k => match k with
  | 0 => .int
  | 1 => .int
  | 2 => .long
  | 3 => .long
  | 4 => .int
  | 5 => .int
  | 6 => .int
  | 7 => .int
  | 8 => .int
  | 9 => .int
  | _ => .int
abbrev wsX00 : List Cond := u_ws RX0 TX0 11
theorem nmX0 : ∀ a, a < 11 → ∀ b, b < 11 → a ≠ b → (TX0 a).2.1 ≠ (TX0 b).2.1 := by decide +kernel
theorem tyX0_ok : ∀ k, k < 11 → parseFieldDescriptor (TX0 k).2.2.1 = some (tyX0 k) := by decide +kernel
abbrev cX0_init : ByteArray := prog_2_method_1_code
def yX0_init : MethodName := ⟨RX0, "<init>", "()V"⟩
abbrev cX0_copy : ByteArray := prog_2_method_2_code
def yX0_copy : MethodName := ⟨RX0, "copy", "(LVowelTorus$Board;)V"⟩
abbrev cX0_lay : ByteArray := prog_2_method_3_code
def yX0_lay : MethodName := ⟨RX0, "lay", "(II)V"⟩
abbrev cX0_places : ByteArray := prog_2_method_4_code
def yX0_places : MethodName := ⟨RX0, "places", "()I"⟩
abbrev cX0_lines : ByteArray := prog_2_method_5_code
def yX0_lines : MethodName := ⟨RX0, "lines", "()I"⟩
abbrev cX0_turns : ByteArray := prog_2_method_6_code
def yX0_turns : MethodName := ⟨RX0, "turns", "()I"⟩
abbrev cX0_hasPlace : ByteArray := prog_2_method_7_code
def yX0_hasPlace : MethodName := ⟨RX0, "hasPlace", "(I)Z"⟩
abbrev cX0_hasLine : ByteArray := prog_2_method_8_code
def yX0_hasLine : MethodName := ⟨RX0, "hasLine", "(I)Z"⟩
abbrev cX0_hasTurn : ByteArray := prog_2_method_9_code
def yX0_hasTurn : MethodName := ⟨RX0, "hasTurn", "(I)Z"⟩
abbrev cX0_hasBar : ByteArray := prog_2_method_10_code
def yX0_hasBar : MethodName := ⟨RX0, "hasBar", "(I)Z"⟩
abbrev cX0_canTurn : ByteArray := prog_2_method_11_code
def yX0_canTurn : MethodName := ⟨RX0, "canTurn", "(I)Z"⟩
abbrev cX0_barredLines : ByteArray := prog_2_method_12_code
def yX0_barredLines : MethodName := ⟨RX0, "barredLines", "()I"⟩
abbrev cX0_rowOf : ByteArray := prog_2_method_13_code
def yX0_rowOf : MethodName := ⟨RX0, "rowOf", "(I)I"⟩
abbrev cX0_columnOf : ByteArray := prog_2_method_14_code
def yX0_columnOf : MethodName := ⟨RX0, "columnOf", "(I)I"⟩
abbrev cX0_lineLength : ByteArray := prog_2_method_15_code
def yX0_lineLength : MethodName := ⟨RX0, "lineLength", "(I)I"⟩
abbrev cX0_lineStart : ByteArray := prog_2_method_16_code
def yX0_lineStart : MethodName := ⟨RX0, "lineStart", "(I)I"⟩
abbrev cX0_lineStride : ByteArray := prog_2_method_17_code
def yX0_lineStride : MethodName := ⟨RX0, "lineStride", "(I)I"⟩
abbrev cX0_placeOn : ByteArray := prog_2_method_18_code
def yX0_placeOn : MethodName := ⟨RX0, "placeOn", "(II)I"⟩
abbrev cX0_turned : ByteArray := prog_2_method_19_code
def yX0_turned : MethodName := ⟨RX0, "turned", "(JI)J"⟩
abbrev cX0_areTurnsTakenBack : ByteArray := prog_2_method_20_code
def yX0_areTurnsTakenBack : MethodName := ⟨RX0, "areTurnsTakenBack", "()Z"⟩
abbrev cX0_turnToGoal : ByteArray := prog_2_method_21_code
def yX0_turnToGoal : MethodName := ⟨RX0, "turnToGoal", "(I)V"⟩
abbrev cX0_makeTurn : ByteArray := prog_2_method_22_code
def yX0_makeTurn : MethodName := ⟨RX0, "makeTurn", "(I)V"⟩
abbrev cX0_exchange : ByteArray := prog_2_method_23_code
def yX0_exchange : MethodName := ⟨RX0, "exchange", "(II)V"⟩
abbrev cX0_mix : ByteArray := prog_2_method_24_code
def yX0_mix : MethodName := ⟨RX0, "mix", "(II)V"⟩
abbrev cX0_atHome : ByteArray := prog_2_method_25_code
def yX0_atHome : MethodName := ⟨RX0, "atHome", "(J)I"⟩
abbrev cX0_isReached : ByteArray := prog_2_method_26_code
def yX0_isReached : MethodName := ⟨RX0, "isReached", "()Z"⟩
abbrev cX0_isGoal : ByteArray := prog_2_method_27_code
def yX0_isGoal : MethodName := ⟨RX0, "isGoal", "(J)Z"⟩
abbrev cX0_cares : ByteArray := prog_2_method_28_code
def yX0_cares : MethodName := ⟨RX0, "cares", "()J"⟩
abbrev cX0_count : ByteArray := prog_2_method_29_code
def yX0_count : MethodName := ⟨RX0, "count", "(JI)I"⟩
abbrev cX0_placeOf : ByteArray := prog_2_method_30_code
def yX0_placeOf : MethodName := ⟨RX0, "placeOf", "(JI)I"⟩
abbrev cX0_unlikeLetters : ByteArray := prog_2_method_31_code
def yX0_unlikeLetters : MethodName := ⟨RX0, "unlikeLetters", "()I"⟩
abbrev cX0_areAllUnlike : ByteArray := prog_2_method_32_code
def yX0_areAllUnlike : MethodName := ⟨RX0, "areAllUnlike", "()Z"⟩
abbrev cX0_hasSameLetters : ByteArray := prog_2_method_33_code
def yX0_hasSameLetters : MethodName := ⟨RX0, "hasSameLetters", "()Z"⟩
abbrev cX0_isBeyondReach : ByteArray := prog_2_method_34_code
def yX0_isBeyondReach : MethodName := ⟨RX0, "isBeyondReach", "()Z"⟩
abbrev cX0_filledAim : ByteArray := prog_2_method_35_code
def yX0_filledAim : MethodName := ⟨RX0, "filledAim", "()J"⟩
abbrev cX0_isOddByCycles : ByteArray := prog_2_method_36_code
def yX0_isOddByCycles : MethodName := ⟨RX0, "isOddByCycles", "(J)Z"⟩
abbrev cX0_isOddByPairs : ByteArray := prog_2_method_37_code
def yX0_isOddByPairs : MethodName := ⟨RX0, "isOddByPairs", "(J)Z"⟩
abbrev cX0_bestTurn : ByteArray := prog_2_method_38_code
def yX0_bestTurn : MethodName := ⟨RX0, "bestTurn", "()I"⟩
abbrev cX0_placeBehind : ByteArray := prog_2_method_39_code
def yX0_placeBehind : MethodName := ⟨RX0, "placeBehind", "(III)I"⟩
abbrev cX0_distance : ByteArray := prog_2_method_40_code
def yX0_distance : MethodName := ⟨RX0, "distance", "(II)I"⟩
abbrev cX0_isVowelOn : ByteArray := prog_2_method_41_code
def yX0_isVowelOn : MethodName := ⟨RX0, "isVowelOn", "(II)Z"⟩
abbrev cX0_vowelsOn : ByteArray := prog_2_method_42_code
def yX0_vowelsOn : MethodName := ⟨RX0, "vowelsOn", "(I)I"⟩
abbrev cX0_vowels : ByteArray := prog_2_method_43_code
def yX0_vowels : MethodName := ⟨RX0, "vowels", "()I"⟩
abbrev cX0_hasSong : ByteArray := prog_2_method_44_code
def yX0_hasSong : MethodName := ⟨RX0, "hasSong", "(I)Z"⟩
abbrev cX0_lineByVowels : ByteArray := prog_2_method_45_code
def yX0_lineByVowels : MethodName := ⟨RX0, "lineByVowels", "(I)I"⟩
def RX1 : String := "VowelTorus$Halfway"
def TX1 : u_T := fun k => match k with
  | 0 => ("VowelTorus$Halfway", "boards", "[J", true)
  | 1 => ("VowelTorus$Halfway", "firsts", "[I", true)
  | 2 => ("VowelTorus$Halfway", "goals", "[J", true)
  | 3 => ("VowelTorus$Halfway", "cares", "[J", true)
  | 4 => ("VowelTorus$Halfway", "boardCount", "I", false)
  | 5 => ("VowelTorus$Halfway", "goalCount", "I", false)
  | 6 => ("VowelTorus$Halfway", "fewest", "I", false)
  | _ => ("VowelTorus$Halfway", "first", "I", false)
def tyX1 : Nat → FieldType := fun k => match k with
  | 0 => .array .long
  | 1 => .array .int
  | 2 => .array .long
  | 3 => .array .long
  | 4 => .int
  | 5 => .int
  | 6 => .int
  | _ => .int
abbrev wsX10 : List Cond := u_ws RX1 TX1 8
theorem nmX1 : ∀ a, a < 8 → ∀ b, b < 8 → a ≠ b → (TX1 a).2.1 ≠ (TX1 b).2.1 := by decide +kernel
theorem tyX1_ok : ∀ k, k < 8 → parseFieldDescriptor (TX1 k).2.2.1 = some (tyX1 k) := by decide +kernel
abbrev cX1_init : ByteArray := prog_3_method_1_code
def yX1_init : MethodName := ⟨RX1, "<init>", "()V"⟩
abbrev cX1_search : ByteArray := prog_3_method_2_code
def yX1_search : MethodName := ⟨RX1, "search", "(LVowelTorus$Board;)V"⟩
abbrev cX1_takeGoalsBack : ByteArray := prog_3_method_3_code
def yX1_takeGoalsBack : MethodName := ⟨RX1, "takeGoalsBack", "(LVowelTorus$Board;)V"⟩
abbrev cX1_addGoal : ByteArray := prog_3_method_4_code
def yX1_addGoal : MethodName := ⟨RX1, "addGoal", "(JJ)V"⟩
abbrev cX1_addBoard : ByteArray := prog_3_method_5_code
def yX1_addBoard : MethodName := ⟨RX1, "addBoard", "(JI)V"⟩
abbrev cX1_spread : ByteArray := prog_3_method_6_code
def yX1_spread : MethodName := ⟨RX1, "spread", "(LVowelTorus$Board;II)V"⟩
abbrev cX1_meet : ByteArray := prog_3_method_7_code
def yX1_meet : MethodName := ⟨RX1, "meet", "(IIIII)Z"⟩
abbrev cX1_isMet : ByteArray := prog_3_method_8_code
def yX1_isMet : MethodName := ⟨RX1, "isMet", "(JII)Z"⟩
def RX2 : String := "VowelTorus$History"
def TX2 : u_T := fun k => match k with
  | 0 => ("VowelTorus$History", "ring", "[LVowelTorus$Board;", true)
  | 1 => ("VowelTorus$History", "next", "I", false)
  | _ => ("VowelTorus$History", "count", "I", false)
def tyX2 : Nat → FieldType := fun k => match k with
  | 0 => .array (.object "VowelTorus$Board")
  | 1 => .int
  | _ => .int
abbrev wsX20 : List Cond := u_ws RX2 TX2 3
theorem nmX2 : ∀ a, a < 3 → ∀ b, b < 3 → a ≠ b → (TX2 a).2.1 ≠ (TX2 b).2.1 := by decide +kernel
theorem tyX2_ok : ∀ k, k < 3 → parseFieldDescriptor (TX2 k).2.2.1 = some (tyX2 k) := by decide +kernel
abbrev cX2_init : ByteArray := prog_4_method_1_code
def yX2_init : MethodName := ⟨RX2, "<init>", "()V"⟩
abbrev cX2_keep : ByteArray := prog_4_method_2_code
def yX2_keep : MethodName := ⟨RX2, "keep", "(LVowelTorus$Board;)V"⟩
abbrev cX2_takeBack : ByteArray := prog_4_method_3_code
def yX2_takeBack : MethodName := ⟨RX2, "takeBack", "(LVowelTorus$Board;)V"⟩
abbrev cX2_forget : ByteArray := prog_4_method_4_code
def yX2_forget : MethodName := ⟨RX2, "forget", "()V"⟩
abbrev cX2_at : ByteArray := prog_4_method_5_code
def yX2_at : MethodName := ⟨RX2, "at", "(I)LVowelTorus$Board;"⟩
abbrev cX2_copyBoard : ByteArray := prog_4_method_6_code
def yX2_copyBoard : MethodName := ⟨RX2, "copyBoard", "(LVowelTorus$Board;LVowelTorus$Board;)V"⟩
def RX3 : String := "VowelTorus$Line"
def TX3 : u_T := fun k => match k with
  | 0 => ("VowelTorus$Line", "signs", "[C", true)
  | _ => ("VowelTorus$Line", "length", "I", false)
def tyX3 : Nat → FieldType := fun k => match k with
  | 0 => .array .char
  | _ => .int
abbrev wsX30 : List Cond := u_ws RX3 TX3 2
theorem nmX3 : ∀ a, a < 2 → ∀ b, b < 2 → a ≠ b → (TX3 a).2.1 ≠ (TX3 b).2.1 := by decide +kernel
theorem tyX3_ok : ∀ k, k < 2 → parseFieldDescriptor (TX3 k).2.2.1 = some (tyX3 k) := by decide +kernel
abbrev cX3_init : ByteArray := prog_5_method_1_code
def yX3_init : MethodName := ⟨RX3, "<init>", "()V"⟩
abbrev cX3_clear : ByteArray := prog_5_method_2_code
def yX3_clear : MethodName := ⟨RX3, "clear", "()V"⟩
abbrev cX3_add : ByteArray := prog_5_method_3_code
def yX3_add : MethodName := ⟨RX3, "add", "(C)V"⟩
abbrev cX3_signAt : ByteArray := prog_5_method_4_code
def yX3_signAt : MethodName := ⟨RX3, "signAt", "(I)C"⟩
def RX4 : String := "VowelTorus$Orders"
def TX4 : u_T := fun k => match k with
  | 0 => ("VowelTorus$Orders", "kinds", "[I", true)
  | 1 => ("VowelTorus$Orders", "ones", "[I", true)
  | 2 => ("VowelTorus$Orders", "others", "[I", true)
  | 3 => ("VowelTorus$Orders", "source", "[C", false)
  | 4 => ("VowelTorus$Orders", "length", "I", false)
  | 5 => ("VowelTorus$Orders", "at", "I", false)
  | _ => ("VowelTorus$Orders", "count", "I", false)
def tyX4 : Nat → FieldType := fun k => match k with
  | 0 => .array .int
  | 1 => .array .int
  | 2 => .array .int
  | 3 => .array .char
  | 4 => .int
  | 5 => .int
  | _ => .int
abbrev wsX40 : List Cond := u_ws RX4 TX4 7
theorem nmX4 : ∀ a, a < 7 → ∀ b, b < 7 → a ≠ b → (TX4 a).2.1 ≠ (TX4 b).2.1 := by decide +kernel
theorem tyX4_ok : ∀ k, k < 7 → parseFieldDescriptor (TX4 k).2.2.1 = some (tyX4 k) := by decide +kernel
abbrev cX4_init : ByteArray := prog_6_method_1_code
def yX4_init : MethodName := ⟨RX4, "<init>", "()V"⟩
abbrev cX4_kindOf : ByteArray := prog_6_method_2_code
def yX4_kindOf : MethodName := ⟨RX4, "kindOf", "(I)I"⟩
abbrev cX4_oneOf : ByteArray := prog_6_method_3_code
def yX4_oneOf : MethodName := ⟨RX4, "oneOf", "(I)I"⟩
abbrev cX4_otherOf : ByteArray := prog_6_method_4_code
def yX4_otherOf : MethodName := ⟨RX4, "otherOf", "(I)I"⟩
abbrev cX4_read : ByteArray := prog_6_method_5_code
def yX4_read : MethodName := ⟨RX4, "read", "([CI)I"⟩
abbrev cX4_readOrder : ByteArray := prog_6_method_6_code
def yX4_readOrder : MethodName := ⟨RX4, "readOrder", "()Z"⟩
abbrev cX4_takeOther : ByteArray := prog_6_method_7_code
def yX4_takeOther : MethodName := ⟨RX4, "takeOther", "(I)I"⟩
abbrev cX4_add : ByteArray := prog_6_method_8_code
def yX4_add : MethodName := ⟨RX4, "add", "(III)V"⟩
abbrev cX4_isKind : ByteArray := prog_6_method_9_code
def yX4_isKind : MethodName := ⟨RX4, "isKind", "(I)Z"⟩
abbrev cX4_peek : ByteArray := prog_6_method_10_code
def yX4_peek : MethodName := ⟨RX4, "peek", "()C"⟩
abbrev cX4_take : ByteArray := prog_6_method_11_code
def yX4_take : MethodName := ⟨RX4, "take", "(C)Z"⟩
abbrev cX4_takeDigit : ByteArray := prog_6_method_12_code
def yX4_takeDigit : MethodName := ⟨RX4, "takeDigit", "()I"⟩
abbrev cX4_takeNumber : ByteArray := prog_6_method_13_code
def yX4_takeNumber : MethodName := ⟨RX4, "takeNumber", "()I"⟩
abbrev cX4_takeCode : ByteArray := prog_6_method_14_code
def yX4_takeCode : MethodName := ⟨RX4, "takeCode", "(I)I"⟩
def RX5 : String := "VowelTorus"
def TX5 : u_T := fun k => match k with
  | 0 => ("VowelTorus", "now", "LVowelTorus$Board;", true)
  | 1 => ("VowelTorus", "before", "LVowelTorus$Board;", true)
  | 2 => ("VowelTorus", "saved", "LVowelTorus$Board;", true)
  | 3 => ("VowelTorus", "history", "LVowelTorus$History;", true)
  | 4 => ("VowelTorus", "halfway", "LVowelTorus$Halfway;", true)
  | 5 => ("VowelTorus", "written", "LVowelTorus$Line;", true)
  | 6 => ("VowelTorus", "orders", "LVowelTorus$Orders;", true)
  | 7 => ("VowelTorus", "input", "[C", true)
  | 8 => ("VowelTorus", "inputLength", "I", false)
  | 9 => ("VowelTorus", "errorAt", "I", false)
  | 10 => ("VowelTorus", "reason", "I", false)
  | 11 => ("VowelTorus", "detail", "I", false)
  | _ => ("VowelTorus", "isSaved", "Z", false)
def tyX5 : Nat → FieldType := fun k => match k with
  | 0 => .object "VowelTorus$Board"
  | 1 => .object "VowelTorus$Board"
  | 2 => .object "VowelTorus$Board"
  | 3 => .object "VowelTorus$History"
  | 4 => .object "VowelTorus$Halfway"
  | 5 => .object "VowelTorus$Line"
  | 6 => .object "VowelTorus$Orders"
  | 7 => .array .char
  | 8 => .int
  | 9 => .int
  | 10 => .int
  | 11 => .int
  | _ => .boolean
abbrev wsX50 : List Cond := u_ws RX5 TX5 13
theorem nmX5 : ∀ a, a < 13 → ∀ b, b < 13 → a ≠ b → (TX5 a).2.1 ≠ (TX5 b).2.1 := by decide +kernel
theorem tyX5_ok : ∀ k, k < 13 → parseFieldDescriptor (TX5 k).2.2.1 = some (tyX5 k) := by decide +kernel
abbrev cX5_init : ByteArray := prog_1_method_1_code
def yX5_init : MethodName := ⟨RX5, "<init>", "()V"⟩
abbrev cX5_board : ByteArray := prog_1_method_2_code
def yX5_board : MethodName := ⟨RX5, "board", "(II)I"⟩
abbrev cX5_put : ByteArray := prog_1_method_3_code
def yX5_put : MethodName := ⟨RX5, "put", "(IC)C"⟩
abbrev cX5_goal : ByteArray := prog_1_method_4_code
def yX5_goal : MethodName := ⟨RX5, "goal", "(IC)C"⟩
abbrev cX5_turn : ByteArray := prog_1_method_5_code
def yX5_turn : MethodName := ⟨RX5, "turn", "(I)I"⟩
abbrev cX5_swap : ByteArray := prog_1_method_6_code
def yX5_swap : MethodName := ⟨RX5, "swap", "(II)I"⟩
abbrev cX5_bar : ByteArray := prog_1_method_7_code
def yX5_bar : MethodName := ⟨RX5, "bar", "(I)Z"⟩
abbrev cX5_scramble : ByteArray := prog_1_method_8_code
def yX5_scramble : MethodName := ⟨RX5, "scramble", "(II)I"⟩
abbrev cX5_step : ByteArray := prog_1_method_9_code
def yX5_step : MethodName := ⟨RX5, "step", "()I"⟩
abbrev cX5_letter : ByteArray := prog_1_method_10_code
def yX5_letter : MethodName := ⟨RX5, "letter", "(I)C"⟩
abbrev cX5_sign : ByteArray := prog_1_method_11_code
def yX5_sign : MethodName := ⟨RX5, "sign", "(I)C"⟩
abbrev cX5_isBarred : ByteArray := prog_1_method_12_code
def yX5_isBarred : MethodName := ⟨RX5, "isBarred", "(I)Z"⟩
abbrev cX5_boardOf : ByteArray := prog_1_method_13_code
def yX5_boardOf : MethodName := ⟨RX5, "boardOf", "(I)I"⟩
abbrev cX5_away : ByteArray := prog_1_method_14_code
def yX5_away : MethodName := ⟨RX5, "away", "(Z)I"⟩
abbrev cX5_firstTurn : ByteArray := prog_1_method_15_code
def yX5_firstTurn : MethodName := ⟨RX5, "firstTurn", "()I"⟩
abbrev cX5_isOut : ByteArray := prog_1_method_16_code
def yX5_isOut : MethodName := ⟨RX5, "isOut", "()Z"⟩
abbrev cX5_isOdd : ByteArray := prog_1_method_17_code
def yX5_isOdd : MethodName := ⟨RX5, "isOdd", "(Z)Z"⟩
abbrev cX5_home : ByteArray := prog_1_method_18_code
def yX5_home : MethodName := ⟨RX5, "home", "()I"⟩
abbrev cX5_would : ByteArray := prog_1_method_19_code
def yX5_would : MethodName := ⟨RX5, "would", "(I)I"⟩
abbrev cX5_best : ByteArray := prog_1_method_20_code
def yX5_best : MethodName := ⟨RX5, "best", "()I"⟩
abbrev cX5_where : ByteArray := prog_1_method_21_code
def yX5_where : MethodName := ⟨RX5, "where", "(III)I"⟩
abbrev cX5_far : ByteArray := prog_1_method_22_code
def yX5_far : MethodName := ⟨RX5, "far", "(II)I"⟩
abbrev cX5_sings : ByteArray := prog_1_method_23_code
def yX5_sings : MethodName := ⟨RX5, "sings", "(I)Z"⟩
abbrev cX5_singing : ByteArray := prog_1_method_24_code
def yX5_singing : MethodName := ⟨RX5, "singing", "()I"⟩
abbrev cX5_ranked : ByteArray := prog_1_method_25_code
def yX5_ranked : MethodName := ⟨RX5, "ranked", "(I)I"⟩
abbrev cX5_text : ByteArray := prog_1_method_26_code
def yX5_text : MethodName := ⟨RX5, "text", "()I"⟩
abbrev cX5_goalText : ByteArray := prog_1_method_27_code
def yX5_goalText : MethodName := ⟨RX5, "goalText", "()I"⟩
abbrev cX5_lineText : ByteArray := prog_1_method_28_code
def yX5_lineText : MethodName := ⟨RX5, "lineText", "(I)I"⟩
abbrev cX5_character : ByteArray := prog_1_method_29_code
def yX5_character : MethodName := ⟨RX5, "character", "(I)C"⟩
abbrev cX5_append : ByteArray := prog_1_method_30_code
def yX5_append : MethodName := ⟨RX5, "append", "(C)I"⟩
abbrev cX5_run : ByteArray := prog_1_method_31_code
def yX5_run : MethodName := ⟨RX5, "run", "()I"⟩
abbrev cX5_errorPosition : ByteArray := prog_1_method_32_code
def yX5_errorPosition : MethodName := ⟨RX5, "errorPosition", "()I"⟩
abbrev cX5_refusal : ByteArray := prog_1_method_33_code
def yX5_refusal : MethodName := ⟨RX5, "refusal", "(Z)I"⟩
abbrev cX5_account : ByteArray := prog_1_method_34_code
def yX5_account : MethodName := ⟨RX5, "account", "(I)I"⟩
abbrev cX5_isWell : ByteArray := prog_1_method_35_code
def yX5_isWell : MethodName := ⟨RX5, "isWell", "()Z"⟩
abbrev cX5_meanFar : ByteArray := prog_1_method_36_code
def yX5_meanFar : MethodName := ⟨RX5, "meanFar", "()D"⟩
abbrev cX5_homeShare : ByteArray := prog_1_method_37_code
def yX5_homeShare : MethodName := ⟨RX5, "homeShare", "()F"⟩
abbrev cX5_undo : ByteArray := prog_1_method_38_code
def yX5_undo : MethodName := ⟨RX5, "undo", "()I"⟩
abbrev cX5_save : ByteArray := prog_1_method_39_code
def yX5_save : MethodName := ⟨RX5, "save", "()I"⟩
abbrev cX5_restore : ByteArray := prog_1_method_40_code
def yX5_restore : MethodName := ⟨RX5, "restore", "()I"⟩
abbrev cX5_needIndex : ByteArray := prog_1_method_41_code
def yX5_needIndex : MethodName := ⟨RX5, "needIndex", "(Z)V"⟩
abbrev cX5_raise : ByteArray := prog_1_method_42_code
def yX5_raise : MethodName := ⟨RX5, "raise", "(I)V"⟩
abbrev cX5_change : ByteArray := prog_1_method_43_code
def yX5_change : MethodName := ⟨RX5, "change", "(III)V"⟩
abbrev cX5_judge : ByteArray := prog_1_method_44_code
def yX5_judge : MethodName := ⟨RX5, "judge", "(III)I"⟩
abbrev cX5_judgeSign : ByteArray := prog_1_method_45_code
def yX5_judgeSign : MethodName := ⟨RX5, "judgeSign", "(IIJI)I"⟩
abbrev cX5_judgeTurn : ByteArray := prog_1_method_46_code
def yX5_judgeTurn : MethodName := ⟨RX5, "judgeTurn", "(I)I"⟩
abbrev cX5_judgeSwap : ByteArray := prog_1_method_47_code
def yX5_judgeSwap : MethodName := ⟨RX5, "judgeSwap", "(II)I"⟩
abbrev cX5_judgeScramble : ByteArray := prog_1_method_48_code
def yX5_judgeScramble : MethodName := ⟨RX5, "judgeScramble", "(II)I"⟩
abbrev cX5_judgeStep : ByteArray := prog_1_method_49_code
def yX5_judgeStep : MethodName := ⟨RX5, "judgeStep", "()I"⟩
abbrev cX5_refuse : ByteArray := prog_1_method_50_code
def yX5_refuse : MethodName := ⟨RX5, "refuse", "(II)I"⟩
abbrev cX5_carryOut : ByteArray := prog_1_method_51_code
def yX5_carryOut : MethodName := ⟨RX5, "carryOut", "(III)V"⟩
abbrev cX5_carryOutAll : ByteArray := prog_1_method_52_code
def yX5_carryOutAll : MethodName := ⟨RX5, "carryOutAll", "()I"⟩
abbrev cX5_fewestByHalves : ByteArray := prog_1_method_53_code
def yX5_fewestByHalves : MethodName := ⟨RX5, "fewestByHalves", "()I"⟩
abbrev cX5_fewestByAll : ByteArray := prog_1_method_54_code
def yX5_fewestByAll : MethodName := ⟨RX5, "fewestByAll", "()I"⟩
abbrev cX5_fewestFrom : ByteArray := prog_1_method_55_code
def yX5_fewestFrom : MethodName := ⟨RX5, "fewestFrom", "(LVowelTorus$Board;JI)I"⟩
abbrev cX5_writeAll : ByteArray := prog_1_method_56_code
def yX5_writeAll : MethodName := ⟨RX5, "writeAll", "(J)I"⟩
abbrev cX5_isSide : ByteArray := prog_1_method_57_code
def yX5_isSide : MethodName := ⟨RX5, "isSide", "(I)Z"⟩
abbrev cX5_codeOf : ByteArray := prog_1_method_58_code
def yX5_codeOf : MethodName := ⟨RX5, "codeOf", "(C)I"⟩
abbrev cX5_signOf : ByteArray := prog_1_method_59_code
def yX5_signOf : MethodName := ⟨RX5, "signOf", "(I)C"⟩
abbrev cX5_isVowel : ByteArray := prog_1_method_60_code
def yX5_isVowel : MethodName := ⟨RX5, "isVowel", "(C)Z"⟩
abbrev cX5_codeAt : ByteArray := prog_1_method_61_code
def yX5_codeAt : MethodName := ⟨RX5, "codeAt", "(JI)I"⟩
abbrev cX5_withCode : ByteArray := prog_1_method_62_code
def yX5_withCode : MethodName := ⟨RX5, "withCode", "(JII)J"⟩
def RX6 : String := "VowelTorusModel"
def TX6 : u_T := fun k => match k with
  | 0 => ("VowelTorusModel", "g", "[I", true)
  | 1 => ("VowelTorusModel", "before", "[I", true)
  | 2 => ("VowelTorusModel", "history", "[I", true)
  | 3 => ("VowelTorusModel", "changes", "I", false)
  | 4 => ("VowelTorusModel", "savedOnes", "[I", true)
  | 5 => ("VowelTorusModel", "hasSaved", "Z", false)
  | 6 => ("VowelTorusModel", "input", "[C", true)
  | 7 => ("VowelTorusModel", "typed", "I", false)
  | 8 => ("VowelTorusModel", "errorAt", "I", false)
  | 9 => ("VowelTorusModel", "why", "I", false)
  | 10 => ("VowelTorusModel", "whyDetail", "I", false)
  | 11 => ("VowelTorusModel", "isRefused", "Z", false)
  | 12 => ("VowelTorusModel", "letters", "[C", true)
  | 13 => ("VowelTorusModel", "lined", "I", false)
  | 14 => ("VowelTorusModel", "thrown", "I", false)
  | 15 => ("VowelTorusModel", "tried", "[I", true)
  | 16 => ("VowelTorusModel", "moved", "[I", true)
  | 17 => ("VowelTorusModel", "firstOne", "I", false)
  | 18 => ("VowelTorusModel", "spot", "I", false)
  | 19 => ("VowelTorusModel", "isWrong", "Z", false)
  | _ => ("VowelTorusModel", "told", "[I", true)
def tyX6 : Nat → FieldType := fun k => match k with
  | 0 => .array .int
  | 1 => .array .int
  | 2 => .array .int
  | 3 => .int
  | 4 => .array .int
  | 5 => .boolean
  | 6 => .array .char
  | 7 => .int
  | 8 => .int
  | 9 => .int
  | 10 => .int
  | 11 => .boolean
  | 12 => .array .char
  | 13 => .int
  | 14 => .int
  | 15 => .array .int
  | 16 => .array .int
  | 17 => .int
  | 18 => .int
  | 19 => .boolean
  | _ => .array .int
abbrev wsX60 : List Cond := u_ws RX6 TX6 21
theorem nmX6 : ∀ a, a < 21 → ∀ b, b < 21 → a ≠ b → (TX6 a).2.1 ≠ (TX6 b).2.1 := by decide +kernel
theorem tyX6_ok : ∀ k, k < 21 → parseFieldDescriptor (TX6 k).2.2.1 = some (tyX6 k) := by decide +kernel
abbrev cX6_init : ByteArray := prog_8_method_1_code
def yX6_init : MethodName := ⟨RX6, "<init>", "()V"⟩
abbrev cX6_thrown : ByteArray := prog_8_method_2_code
def yX6_thrown : MethodName := ⟨RX6, "thrown", "()I"⟩
abbrev cX6_in : ByteArray := prog_8_method_3_code
def yX6_in : MethodName := ⟨RX6, "in", "(III)Z"⟩
abbrev cX6_done : ByteArray := prog_8_method_4_code
def yX6_done : MethodName := ⟨RX6, "done", "(I)I"⟩
abbrev cX6_fails : ByteArray := prog_8_method_5_code
def yX6_fails : MethodName := ⟨RX6, "fails", "(I)I"⟩
abbrev cX6_refused : ByteArray := prog_8_method_6_code
def yX6_refused : MethodName := ⟨RX6, "refused", "(III)I"⟩
abbrev cX6_copy : ByteArray := prog_8_method_7_code
def yX6_copy : MethodName := ⟨RX6, "copy", "([II[II)V"⟩
abbrev cX6_looksBack : ByteArray := prog_8_method_8_code
def yX6_looksBack : MethodName := ⟨RX6, "looksBack", "()V"⟩
abbrev cX6_kept : ByteArray := prog_8_method_9_code
def yX6_kept : MethodName := ⟨RX6, "kept", "(I)I"⟩
abbrev cX6_places : ByteArray := prog_8_method_10_code
def yX6_places : MethodName := ⟨RX6, "places", "()I"⟩
abbrev cX6_lines : ByteArray := prog_8_method_11_code
def yX6_lines : MethodName := ⟨RX6, "lines", "()I"⟩
abbrev cX6_isPlace : ByteArray := prog_8_method_12_code
def yX6_isPlace : MethodName := ⟨RX6, "isPlace", "(I)Z"⟩
abbrev cX6_isLine : ByteArray := prog_8_method_13_code
def yX6_isLine : MethodName := ⟨RX6, "isLine", "(I)Z"⟩
abbrev cX6_isTurn : ByteArray := prog_8_method_14_code
def yX6_isTurn : MethodName := ⟨RX6, "isTurn", "(I)Z"⟩
abbrev cX6_lays : ByteArray := prog_8_method_15_code
def yX6_lays : MethodName := ⟨RX6, "lays", "(II)V"⟩
abbrev cX6_boards : ByteArray := prog_8_method_16_code
def yX6_boards : MethodName := ⟨RX6, "boards", "(II)I"⟩
abbrev cX6_board : ByteArray := prog_8_method_17_code
def yX6_board : MethodName := ⟨RX6, "board", "(II)I"⟩
abbrev cX6_isLetter : ByteArray := prog_8_method_18_code
def yX6_isLetter : MethodName := ⟨RX6, "isLetter", "(I)Z"⟩
abbrev cX6_signOf : ByteArray := prog_8_method_19_code
def yX6_signOf : MethodName := ⟨RX6, "signOf", "(I)C"⟩
abbrev cX6_tells : ByteArray := prog_8_method_20_code
def yX6_tells : MethodName := ⟨RX6, "tells", "(III)I"⟩
abbrev cX6_puts : ByteArray := prog_8_method_21_code
def yX6_puts : MethodName := ⟨RX6, "puts", "(II)I"⟩
abbrev cX6_put : ByteArray := prog_8_method_22_code
def yX6_put : MethodName := ⟨RX6, "put", "(IC)C"⟩
abbrev cX6_goals : ByteArray := prog_8_method_23_code
def yX6_goals : MethodName := ⟨RX6, "goals", "(II)I"⟩
abbrev cX6_goal : ByteArray := prog_8_method_24_code
def yX6_goal : MethodName := ⟨RX6, "goal", "(IC)C"⟩
abbrev cX6_goes : ByteArray := prog_8_method_25_code
def yX6_goes : MethodName := ⟨RX6, "goes", "(II)I"⟩
abbrev cX6_tries : ByteArray := prog_8_method_26_code
def yX6_tries : MethodName := ⟨RX6, "tries", "()V"⟩
abbrev cX6_turnsTried : ByteArray := prog_8_method_27_code
def yX6_turnsTried : MethodName := ⟨RX6, "turnsTried", "(I)V"⟩
abbrev cX6_takesTried : ByteArray := prog_8_method_28_code
def yX6_takesTried : MethodName := ⟨RX6, "takesTried", "()V"⟩
abbrev cX6_homeTried : ByteArray := prog_8_method_29_code
def yX6_homeTried : MethodName := ⟨RX6, "homeTried", "()I"⟩
abbrev cX6_homes : ByteArray := prog_8_method_30_code
def yX6_homes : MethodName := ⟨RX6, "homes", "()I"⟩
abbrev cX6_isOpen : ByteArray := prog_8_method_31_code
def yX6_isOpen : MethodName := ⟨RX6, "isOpen", "(I)Z"⟩
abbrev cX6_makes : ByteArray := prog_8_method_32_code
def yX6_makes : MethodName := ⟨RX6, "makes", "(I)I"⟩
abbrev cX6_makesByHand : ByteArray := prog_8_method_33_code
def yX6_makesByHand : MethodName := ⟨RX6, "makesByHand", "(I)I"⟩
abbrev cX6_turnsOne : ByteArray := prog_8_method_34_code
def yX6_turnsOne : MethodName := ⟨RX6, "turnsOne", "(I)I"⟩
abbrev cX6_turn : ByteArray := prog_8_method_35_code
def yX6_turn : MethodName := ⟨RX6, "turn", "(I)I"⟩
abbrev cX6_swaps : ByteArray := prog_8_method_36_code
def yX6_swaps : MethodName := ⟨RX6, "swaps", "(II)I"⟩
abbrev cX6_swap : ByteArray := prog_8_method_37_code
def yX6_swap : MethodName := ⟨RX6, "swap", "(II)I"⟩
abbrev cX6_bars : ByteArray := prog_8_method_38_code
def yX6_bars : MethodName := ⟨RX6, "bars", "(I)I"⟩
abbrev cX6_bar : ByteArray := prog_8_method_39_code
def yX6_bar : MethodName := ⟨RX6, "bar", "(I)Z"⟩
abbrev cX6_scrambles : ByteArray := prog_8_method_40_code
def yX6_scrambles : MethodName := ⟨RX6, "scrambles", "(II)I"⟩
abbrev cX6_scramble : ByteArray := prog_8_method_41_code
def yX6_scramble : MethodName := ⟨RX6, "scramble", "(II)I"⟩
abbrev cX6_leads : ByteArray := prog_8_method_42_code
def yX6_leads : MethodName := ⟨RX6, "leads", "(II)Z"⟩
abbrev cX6_shortest : ByteArray := prog_8_method_43_code
def yX6_shortest : MethodName := ⟨RX6, "shortest", "()I"⟩
abbrev cX6_away : ByteArray := prog_8_method_44_code
def yX6_away : MethodName := ⟨RX6, "away", "(Z)I"⟩
abbrev cX6_firstTurn : ByteArray := prog_8_method_45_code
def yX6_firstTurn : MethodName := ⟨RX6, "firstTurn", "()I"⟩
abbrev cX6_timesOf : ByteArray := prog_8_method_46_code
def yX6_timesOf : MethodName := ⟨RX6, "timesOf", "(II)I"⟩
abbrev cX6_lacksLetters : ByteArray := prog_8_method_47_code
def yX6_lacksLetters : MethodName := ⟨RX6, "lacksLetters", "()Z"⟩
abbrev cX6_unlike : ByteArray := prog_8_method_48_code
def yX6_unlike : MethodName := ⟨RX6, "unlike", "()I"⟩
abbrev cX6_swapsAreOdd : ByteArray := prog_8_method_49_code
def yX6_swapsAreOdd : MethodName := ⟨RX6, "swapsAreOdd", "()Z"⟩
abbrev cX6_isOutOfReach : ByteArray := prog_8_method_50_code
def yX6_isOutOfReach : MethodName := ⟨RX6, "isOutOfReach", "()Z"⟩
abbrev cX6_isOut : ByteArray := prog_8_method_51_code
def yX6_isOut : MethodName := ⟨RX6, "isOut", "()Z"⟩
abbrev cX6_isOdd : ByteArray := prog_8_method_52_code
def yX6_isOdd : MethodName := ⟨RX6, "isOdd", "(Z)Z"⟩
abbrev cX6_steps : ByteArray := prog_8_method_53_code
def yX6_steps : MethodName := ⟨RX6, "steps", "()I"⟩
abbrev cX6_step : ByteArray := prog_8_method_54_code
def yX6_step : MethodName := ⟨RX6, "step", "()I"⟩
abbrev cX6_letter : ByteArray := prog_8_method_55_code
def yX6_letter : MethodName := ⟨RX6, "letter", "(I)C"⟩
abbrev cX6_sign : ByteArray := prog_8_method_56_code
def yX6_sign : MethodName := ⟨RX6, "sign", "(I)C"⟩
abbrev cX6_isBarred : ByteArray := prog_8_method_57_code
def yX6_isBarred : MethodName := ⟨RX6, "isBarred", "(I)Z"⟩
abbrev cX6_barredLines : ByteArray := prog_8_method_58_code
def yX6_barredLines : MethodName := ⟨RX6, "barredLines", "()I"⟩
abbrev cX6_isVowel : ByteArray := prog_8_method_59_code
def yX6_isVowel : MethodName := ⟨RX6, "isVowel", "(I)Z"⟩
abbrev cX6_boardOf : ByteArray := prog_8_method_60_code
def yX6_boardOf : MethodName := ⟨RX6, "boardOf", "(I)I"⟩
abbrev cX6_home : ByteArray := prog_8_method_61_code
def yX6_home : MethodName := ⟨RX6, "home", "()I"⟩
abbrev cX6_homeBehind : ByteArray := prog_8_method_62_code
def yX6_homeBehind : MethodName := ⟨RX6, "homeBehind", "(I)I"⟩
abbrev cX6_would : ByteArray := prog_8_method_63_code
def yX6_would : MethodName := ⟨RX6, "would", "(I)I"⟩
abbrev cX6_best : ByteArray := prog_8_method_64_code
def yX6_best : MethodName := ⟨RX6, "best", "()I"⟩
abbrev cX6_where : ByteArray := prog_8_method_65_code
def yX6_where : MethodName := ⟨RX6, "where", "(III)I"⟩
abbrev cX6_round : ByteArray := prog_8_method_66_code
def yX6_round : MethodName := ⟨RX6, "round", "(III)I"⟩
abbrev cX6_stepsBetween : ByteArray := prog_8_method_67_code
def yX6_stepsBetween : MethodName := ⟨RX6, "stepsBetween", "(III)I"⟩
abbrev cX6_far : ByteArray := prog_8_method_68_code
def yX6_far : MethodName := ⟨RX6, "far", "(II)I"⟩
abbrev cX6_lengthOf : ByteArray := prog_8_method_69_code
def yX6_lengthOf : MethodName := ⟨RX6, "lengthOf", "(I)I"⟩
abbrev cX6_placeOn : ByteArray := prog_8_method_70_code
def yX6_placeOn : MethodName := ⟨RX6, "placeOn", "(II)I"⟩
abbrev cX6_isVowelOn : ByteArray := prog_8_method_71_code
def yX6_isVowelOn : MethodName := ⟨RX6, "isVowelOn", "(II)Z"⟩
abbrev cX6_vowels : ByteArray := prog_8_method_72_code
def yX6_vowels : MethodName := ⟨RX6, "vowels", "(I)I"⟩
abbrev cX6_isSinging : ByteArray := prog_8_method_73_code
def yX6_isSinging : MethodName := ⟨RX6, "isSinging", "(I)Z"⟩
abbrev cX6_sings : ByteArray := prog_8_method_74_code
def yX6_sings : MethodName := ⟨RX6, "sings", "(I)Z"⟩
abbrev cX6_singing : ByteArray := prog_8_method_75_code
def yX6_singing : MethodName := ⟨RX6, "singing", "()I"⟩
abbrev cX6_ranked : ByteArray := prog_8_method_76_code
def yX6_ranked : MethodName := ⟨RX6, "ranked", "(I)I"⟩
abbrev cX6_writes : ByteArray := prog_8_method_77_code
def yX6_writes : MethodName := ⟨RX6, "writes", "(I)V"⟩
abbrev cX6_writesAll : ByteArray := prog_8_method_78_code
def yX6_writesAll : MethodName := ⟨RX6, "writesAll", "(I)I"⟩
abbrev cX6_text : ByteArray := prog_8_method_79_code
def yX6_text : MethodName := ⟨RX6, "text", "()I"⟩
abbrev cX6_goalText : ByteArray := prog_8_method_80_code
def yX6_goalText : MethodName := ⟨RX6, "goalText", "()I"⟩
abbrev cX6_lineText : ByteArray := prog_8_method_81_code
def yX6_lineText : MethodName := ⟨RX6, "lineText", "(I)I"⟩
abbrev cX6_character : ByteArray := prog_8_method_82_code
def yX6_character : MethodName := ⟨RX6, "character", "(I)C"⟩
abbrev cX6_append : ByteArray := prog_8_method_83_code
def yX6_append : MethodName := ⟨RX6, "append", "(C)I"⟩
abbrev cX6_here : ByteArray := prog_8_method_84_code
def yX6_here : MethodName := ⟨RX6, "here", "()I"⟩
abbrev cX6_needs : ByteArray := prog_8_method_85_code
def yX6_needs : MethodName := ⟨RX6, "needs", "(I)V"⟩
abbrev cX6_figures : ByteArray := prog_8_method_86_code
def yX6_figures : MethodName := ⟨RX6, "figures", "(I)I"⟩
abbrev cX6_readsSign : ByteArray := prog_8_method_87_code
def yX6_readsSign : MethodName := ⟨RX6, "readsSign", "(Z)I"⟩
abbrev cX6_readsOrder : ByteArray := prog_8_method_88_code
def yX6_readsOrder : MethodName := ⟨RX6, "readsOrder", "(I)V"⟩
abbrev cX6_does : ByteArray := prog_8_method_89_code
def yX6_does : MethodName := ⟨RX6, "does", "(I)I"⟩
abbrev cX6_run : ByteArray := prog_8_method_90_code
def yX6_run : MethodName := ⟨RX6, "run", "()I"⟩
abbrev cX6_errorPosition : ByteArray := prog_8_method_91_code
def yX6_errorPosition : MethodName := ⟨RX6, "errorPosition", "()I"⟩
abbrev cX6_refusal : ByteArray := prog_8_method_92_code
def yX6_refusal : MethodName := ⟨RX6, "refusal", "(Z)I"⟩
abbrev cX6_account : ByteArray := prog_8_method_93_code
def yX6_account : MethodName := ⟨RX6, "account", "(I)I"⟩
abbrev cX6_isWell : ByteArray := prog_8_method_94_code
def yX6_isWell : MethodName := ⟨RX6, "isWell", "()Z"⟩
abbrev cX6_farFromHome : ByteArray := prog_8_method_95_code
def yX6_farFromHome : MethodName := ⟨RX6, "farFromHome", "(I)I"⟩
abbrev cX6_meanFar : ByteArray := prog_8_method_96_code
def yX6_meanFar : MethodName := ⟨RX6, "meanFar", "()D"⟩
abbrev cX6_homeShare : ByteArray := prog_8_method_97_code
def yX6_homeShare : MethodName := ⟨RX6, "homeShare", "()F"⟩
abbrev cX6_undo : ByteArray := prog_8_method_98_code
def yX6_undo : MethodName := ⟨RX6, "undo", "()I"⟩
abbrev cX6_save : ByteArray := prog_8_method_99_code
def yX6_save : MethodName := ⟨RX6, "save", "()I"⟩
abbrev cX6_restore : ByteArray := prog_8_method_100_code
def yX6_restore : MethodName := ⟨RX6, "restore", "()I"⟩
abbrev cJx00060_init_a7421 : ByteArray := prog_11_method_2_code
abbrev cJ6_bitCount_0f7a4 : ByteArray := prog_16_method_49_code
abbrev cJ9_abs_0f7a4 : ByteArray := prog_17_method_59_code
abbrev cJ9_max_7cf53 : ByteArray := prog_17_method_65_code
abbrev cJ9_min_7cf53 : ByteArray := prog_17_method_69_code
def RL : String := "VowelTorusLaw"
abbrev cL_board : ByteArray := method_3_code
def yL_board : MethodName := ⟨RL, "board", "(LVowelTorus;II[J)I"⟩
abbrev cL_put : ByteArray := method_4_code
def yL_put : MethodName := ⟨RL, "put", "(LVowelTorus;IC[J)I"⟩
abbrev cL_goal : ByteArray := method_5_code
def yL_goal : MethodName := ⟨RL, "goal", "(LVowelTorus;IC[J)I"⟩
abbrev cL_turn : ByteArray := method_6_code
def yL_turn : MethodName := ⟨RL, "turn", "(LVowelTorus;I[J)I"⟩
abbrev cL_swap : ByteArray := method_7_code
def yL_swap : MethodName := ⟨RL, "swap", "(LVowelTorus;II[J)I"⟩
abbrev cL_bar : ByteArray := method_8_code
def yL_bar : MethodName := ⟨RL, "bar", "(LVowelTorus;I[J)I"⟩
abbrev cL_scramble : ByteArray := method_9_code
def yL_scramble : MethodName := ⟨RL, "scramble", "(LVowelTorus;II[J)I"⟩
abbrev cL_step : ByteArray := method_10_code
def yL_step : MethodName := ⟨RL, "step", "(LVowelTorus;[J)I"⟩
abbrev cL_letter : ByteArray := method_11_code
def yL_letter : MethodName := ⟨RL, "letter", "(LVowelTorus;I[J)I"⟩
abbrev cL_sign : ByteArray := method_12_code
def yL_sign : MethodName := ⟨RL, "sign", "(LVowelTorus;I[J)I"⟩
abbrev cL_isBarred : ByteArray := method_13_code
def yL_isBarred : MethodName := ⟨RL, "isBarred", "(LVowelTorus;I[J)I"⟩
abbrev cL_boardOf : ByteArray := method_14_code
def yL_boardOf : MethodName := ⟨RL, "boardOf", "(LVowelTorus;I[J)I"⟩
abbrev cL_away : ByteArray := method_15_code
def yL_away : MethodName := ⟨RL, "away", "(LVowelTorus;Z[J)I"⟩
abbrev cL_firstTurn : ByteArray := method_16_code
def yL_firstTurn : MethodName := ⟨RL, "firstTurn", "(LVowelTorus;[J)I"⟩
abbrev cL_isOdd : ByteArray := method_17_code
def yL_isOdd : MethodName := ⟨RL, "isOdd", "(LVowelTorus;Z[J)I"⟩
abbrev cL_would : ByteArray := method_18_code
def yL_would : MethodName := ⟨RL, "would", "(LVowelTorus;I[J)I"⟩
abbrev cL_best : ByteArray := method_19_code
def yL_best : MethodName := ⟨RL, "best", "(LVowelTorus;[J)I"⟩
abbrev cL_where : ByteArray := method_20_code
def yL_where : MethodName := ⟨RL, "where", "(LVowelTorus;III[J)I"⟩
abbrev cL_far : ByteArray := method_21_code
def yL_far : MethodName := ⟨RL, "far", "(LVowelTorus;II[J)I"⟩
abbrev cL_sings : ByteArray := method_22_code
def yL_sings : MethodName := ⟨RL, "sings", "(LVowelTorus;I[J)I"⟩
abbrev cL_ranked : ByteArray := method_23_code
def yL_ranked : MethodName := ⟨RL, "ranked", "(LVowelTorus;I[J)I"⟩
abbrev cL_lineText : ByteArray := method_24_code
def yL_lineText : MethodName := ⟨RL, "lineText", "(LVowelTorus;I[J)I"⟩
abbrev cL_character : ByteArray := method_25_code
def yL_character : MethodName := ⟨RL, "character", "(LVowelTorus;I[J)I"⟩
abbrev cL_append : ByteArray := method_26_code
def yL_append : MethodName := ⟨RL, "append", "(LVowelTorus;C[J)I"⟩
abbrev cL_run : ByteArray := method_27_code
def yL_run : MethodName := ⟨RL, "run", "(LVowelTorus;[J)I"⟩
abbrev cL_refusal : ByteArray := method_28_code
def yL_refusal : MethodName := ⟨RL, "refusal", "(LVowelTorus;Z[J)I"⟩
abbrev cL_account : ByteArray := method_29_code
def yL_account : MethodName := ⟨RL, "account", "(LVowelTorus;I[J)I"⟩
abbrev cL_meanFar : ByteArray := method_30_code
def yL_meanFar : MethodName := ⟨RL, "meanFar", "(LVowelTorus;[D)I"⟩
abbrev cL_undo : ByteArray := method_31_code
def yL_undo : MethodName := ⟨RL, "undo", "(LVowelTorus;[J)I"⟩
abbrev cL_restore : ByteArray := method_32_code
def yL_restore : MethodName := ⟨RL, "restore", "(LVowelTorus;[J)I"⟩
abbrev cL_law : ByteArray := code
def yL_law : MethodName := ⟨RL, "law", "([I)Z"⟩
end
section
theorem dX0_init_0 : decode cX0_init 0 = .ok (.aload_n 0, 1) := by decide +kernel
theorem dX0_init_1 : decode cX0_init 1 = .ok (.invokespecial 3, 3) := by decide +kernel
theorem dX0_init_4 : decode cX0_init 4 = .ok (.aload_n 0, 1) := by decide +kernel
theorem dX0_init_5 : decode cX0_init 5 = .ok (.iconst 3, 1) := by decide +kernel
theorem dX0_init_6 : decode cX0_init 6 = .ok (.putfield 9, 3) := by decide +kernel
theorem dX0_init_9 : decode cX0_init 9 = .ok (.aload_n 0, 1) := by decide +kernel
theorem dX0_init_10 : decode cX0_init 10 = .ok (.iconst 3, 1) := by decide +kernel
theorem dX0_init_11 : decode cX0_init 11 = .ok (.putfield 15, 3) := by decide +kernel
theorem dX0_init_14 : decode cX0_init 14 = .ok (.aload_n 0, 1) := by decide +kernel
theorem dX0_init_15 : decode cX0_init 15 = .ok (.lconst 0, 1) := by decide +kernel
theorem dX0_init_16 : decode cX0_init 16 = .ok (.putfield 18, 3) := by decide +kernel
theorem dX0_init_19 : decode cX0_init 19 = .ok (.aload_n 0, 1) := by decide +kernel
theorem dX0_init_20 : decode cX0_init 20 = .ok (.lconst 0, 1) := by decide +kernel
theorem dX0_init_21 : decode cX0_init 21 = .ok (.putfield 22, 3) := by decide +kernel
theorem dX0_init_24 : decode cX0_init 24 = .ok (.aload_n 0, 1) := by decide +kernel
theorem dX0_init_25 : decode cX0_init 25 = .ok (.iconst 0, 1) := by decide +kernel
theorem dX0_init_26 : decode cX0_init 26 = .ok (.putfield 25, 3) := by decide +kernel
theorem dX0_init_29 : decode cX0_init 29 = .ok (.aload_n 0, 1) := by decide +kernel
theorem dX0_init_30 : decode cX0_init 30 = .ok (.iconst 0, 1) := by decide +kernel
theorem dX0_init_31 : decode cX0_init 31 = .ok (.putfield 28, 3) := by decide +kernel
theorem dX0_init_34 : decode cX0_init 34 = .ok (.aload_n 0, 1) := by decide +kernel
theorem dX0_init_35 : decode cX0_init 35 = .ok (.iconst 0, 1) := by decide +kernel
theorem dX0_init_36 : decode cX0_init 36 = .ok (.putfield 31, 3) := by decide +kernel
theorem dX0_init_39 : decode cX0_init 39 = .ok (.aload_n 0, 1) := by decide +kernel
theorem dX0_init_40 : decode cX0_init 40 = .ok (.iconst 0, 1) := by decide +kernel
theorem dX0_init_41 : decode cX0_init 41 = .ok (.putfield 34, 3) := by decide +kernel
theorem dX0_init_44 : decode cX0_init 44 = .ok (.aload_n 0, 1) := by decide +kernel
theorem dX0_init_45 : decode cX0_init 45 = .ok (.iconst 0, 1) := by decide +kernel
theorem dX0_init_46 : decode cX0_init 46 = .ok (.putfield 37, 3) := by decide +kernel
theorem dX0_init_49 : decode cX0_init 49 = .ok (.aload_n 0, 1) := by decide +kernel
theorem dX0_init_50 : decode cX0_init 50 = .ok (.iconst 0, 1) := by decide +kernel
theorem dX0_init_51 : decode cX0_init 51 = .ok (.putfield 40, 3) := by decide +kernel
theorem dX0_init_54 : decode cX0_init 54 = .ok (.aload_n 0, 1) := by decide +kernel
theorem dX0_init_55 : decode cX0_init 55 = .ok (.iconst 0, 1) := by decide +kernel
theorem dX0_init_56 : decode cX0_init 56 = .ok (.putfield 43, 3) := by decide +kernel
theorem dX0_init_59 : decode cX0_init 59 = .ok (.return_, 1) := by decide +kernel
theorem dX0_copy_0 : decode cX0_copy 0 = .ok (.aload_n 0, 1) := by decide +kernel
theorem dX0_copy_1 : decode cX0_copy 1 = .ok (.aload_n 1, 1) := by decide +kernel
theorem dX0_copy_2 : decode cX0_copy 2 = .ok (.getfield 9, 3) := by decide +kernel
theorem dX0_copy_5 : decode cX0_copy 5 = .ok (.putfield 9, 3) := by decide +kernel
theorem dX0_copy_8 : decode cX0_copy 8 = .ok (.aload_n 0, 1) := by decide +kernel
theorem dX0_copy_9 : decode cX0_copy 9 = .ok (.aload_n 1, 1) := by decide +kernel
theorem dX0_copy_10 : decode cX0_copy 10 = .ok (.getfield 15, 3) := by decide +kernel
theorem dX0_copy_13 : decode cX0_copy 13 = .ok (.putfield 15, 3) := by decide +kernel
theorem dX0_copy_16 : decode cX0_copy 16 = .ok (.aload_n 0, 1) := by decide +kernel
theorem dX0_copy_17 : decode cX0_copy 17 = .ok (.aload_n 1, 1) := by decide +kernel
theorem dX0_copy_18 : decode cX0_copy 18 = .ok (.getfield 18, 3) := by decide +kernel
theorem dX0_copy_21 : decode cX0_copy 21 = .ok (.putfield 18, 3) := by decide +kernel
theorem dX0_copy_24 : decode cX0_copy 24 = .ok (.aload_n 0, 1) := by decide +kernel
theorem dX0_copy_25 : decode cX0_copy 25 = .ok (.aload_n 1, 1) := by decide +kernel
theorem dX0_copy_26 : decode cX0_copy 26 = .ok (.getfield 22, 3) := by decide +kernel
theorem dX0_copy_29 : decode cX0_copy 29 = .ok (.putfield 22, 3) := by decide +kernel
theorem dX0_copy_32 : decode cX0_copy 32 = .ok (.aload_n 0, 1) := by decide +kernel
theorem dX0_copy_33 : decode cX0_copy 33 = .ok (.aload_n 1, 1) := by decide +kernel
theorem dX0_copy_34 : decode cX0_copy 34 = .ok (.getfield 25, 3) := by decide +kernel
theorem dX0_copy_37 : decode cX0_copy 37 = .ok (.putfield 25, 3) := by decide +kernel
theorem dX0_copy_40 : decode cX0_copy 40 = .ok (.aload_n 0, 1) := by decide +kernel
theorem dX0_copy_41 : decode cX0_copy 41 = .ok (.aload_n 1, 1) := by decide +kernel
theorem dX0_copy_42 : decode cX0_copy 42 = .ok (.getfield 28, 3) := by decide +kernel
theorem dX0_copy_45 : decode cX0_copy 45 = .ok (.putfield 28, 3) := by decide +kernel
theorem dX0_copy_48 : decode cX0_copy 48 = .ok (.aload_n 0, 1) := by decide +kernel
theorem dX0_copy_49 : decode cX0_copy 49 = .ok (.aload_n 1, 1) := by decide +kernel
theorem dX0_copy_50 : decode cX0_copy 50 = .ok (.getfield 31, 3) := by decide +kernel
theorem dX0_copy_53 : decode cX0_copy 53 = .ok (.putfield 31, 3) := by decide +kernel
theorem dX0_copy_56 : decode cX0_copy 56 = .ok (.aload_n 0, 1) := by decide +kernel
theorem dX0_copy_57 : decode cX0_copy 57 = .ok (.aload_n 1, 1) := by decide +kernel
theorem dX0_copy_58 : decode cX0_copy 58 = .ok (.getfield 34, 3) := by decide +kernel
theorem dX0_copy_61 : decode cX0_copy 61 = .ok (.putfield 34, 3) := by decide +kernel
theorem dX0_copy_64 : decode cX0_copy 64 = .ok (.aload_n 0, 1) := by decide +kernel
theorem dX0_copy_65 : decode cX0_copy 65 = .ok (.aload_n 1, 1) := by decide +kernel
theorem dX0_copy_66 : decode cX0_copy 66 = .ok (.getfield 37, 3) := by decide +kernel
theorem dX0_copy_69 : decode cX0_copy 69 = .ok (.putfield 37, 3) := by decide +kernel
theorem dX0_copy_72 : decode cX0_copy 72 = .ok (.aload_n 0, 1) := by decide +kernel
theorem dX0_copy_73 : decode cX0_copy 73 = .ok (.aload_n 1, 1) := by decide +kernel
theorem dX0_copy_74 : decode cX0_copy 74 = .ok (.getfield 40, 3) := by decide +kernel
theorem dX0_copy_77 : decode cX0_copy 77 = .ok (.putfield 40, 3) := by decide +kernel
theorem dX0_copy_80 : decode cX0_copy 80 = .ok (.aload_n 0, 1) := by decide +kernel
theorem dX0_copy_81 : decode cX0_copy 81 = .ok (.aload_n 1, 1) := by decide +kernel
theorem dX0_copy_82 : decode cX0_copy 82 = .ok (.getfield 43, 3) := by decide +kernel
theorem dX0_copy_85 : decode cX0_copy 85 = .ok (.putfield 43, 3) := by decide +kernel
theorem dX0_copy_88 : decode cX0_copy 88 = .ok (.return_, 1) := by decide +kernel
theorem dX0_lay_0 : decode cX0_lay 0 = .ok (.aload_n 0, 1) := by decide +kernel
theorem dX0_lay_1 : decode cX0_lay 1 = .ok (.iload_n 1, 1) := by decide +kernel
theorem dX0_lay_2 : decode cX0_lay 2 = .ok (.putfield 9, 3) := by decide +kernel
theorem dX0_lay_5 : decode cX0_lay 5 = .ok (.aload_n 0, 1) := by decide +kernel
theorem dX0_lay_6 : decode cX0_lay 6 = .ok (.iload_n 2, 1) := by decide +kernel
theorem dX0_lay_7 : decode cX0_lay 7 = .ok (.putfield 15, 3) := by decide +kernel
theorem dX0_lay_10 : decode cX0_lay 10 = .ok (.aload_n 0, 1) := by decide +kernel
theorem dX0_lay_11 : decode cX0_lay 11 = .ok (.lconst 0, 1) := by decide +kernel
theorem dX0_lay_12 : decode cX0_lay 12 = .ok (.putfield 18, 3) := by decide +kernel
theorem dX0_lay_15 : decode cX0_lay 15 = .ok (.iconst 0, 1) := by decide +kernel
theorem dX0_lay_16 : decode cX0_lay 16 = .ok (.istore_n 3, 1) := by decide +kernel
theorem dX0_lay_17 : decode cX0_lay 17 = .ok (.iload_n 3, 1) := by decide +kernel
theorem dX0_lay_18 : decode cX0_lay 18 = .ok (.aload_n 0, 1) := by decide +kernel
theorem dX0_lay_19 : decode cX0_lay 19 = .ok (.invokevirtual 46, 3) := by decide +kernel
theorem dX0_lay_22 : decode cX0_lay 22 = .ok (.if_icmp .ge 22, 3) := by decide +kernel
theorem dX0_lay_25 : decode cX0_lay 25 = .ok (.aload_n 0, 1) := by decide +kernel
theorem dX0_lay_26 : decode cX0_lay 26 = .ok (.aload_n 0, 1) := by decide +kernel
theorem dX0_lay_27 : decode cX0_lay 27 = .ok (.getfield 18, 3) := by decide +kernel
theorem dX0_lay_30 : decode cX0_lay 30 = .ok (.iload_n 3, 1) := by decide +kernel
theorem dX0_lay_31 : decode cX0_lay 31 = .ok (.iload_n 3, 1) := by decide +kernel
theorem dX0_lay_32 : decode cX0_lay 32 = .ok (.invokestatic 50, 3) := by decide +kernel
theorem dX0_lay_35 : decode cX0_lay 35 = .ok (.putfield 18, 3) := by decide +kernel
theorem dX0_lay_38 : decode cX0_lay 38 = .ok (.iinc 3 1, 3) := by decide +kernel
theorem dX0_lay_41 : decode cX0_lay 41 = .ok (.goto (-24), 3) := by decide +kernel
theorem dX0_lay_44 : decode cX0_lay 44 = .ok (.aload_n 0, 1) := by decide +kernel
theorem dX0_lay_45 : decode cX0_lay 45 = .ok (.aload_n 0, 1) := by decide +kernel
theorem dX0_lay_46 : decode cX0_lay 46 = .ok (.getfield 18, 3) := by decide +kernel
theorem dX0_lay_49 : decode cX0_lay 49 = .ok (.putfield 22, 3) := by decide +kernel
theorem dX0_lay_52 : decode cX0_lay 52 = .ok (.aload_n 0, 1) := by decide +kernel
theorem dX0_lay_53 : decode cX0_lay 53 = .ok (.iconst 0, 1) := by decide +kernel
theorem dX0_lay_54 : decode cX0_lay 54 = .ok (.putfield 25, 3) := by decide +kernel
theorem dX0_lay_57 : decode cX0_lay 57 = .ok (.return_, 1) := by decide +kernel
theorem dX0_places_0 : decode cX0_places 0 = .ok (.aload_n 0, 1) := by decide +kernel
theorem dX0_places_1 : decode cX0_places 1 = .ok (.getfield 9, 3) := by decide +kernel
theorem dX0_places_4 : decode cX0_places 4 = .ok (.aload_n 0, 1) := by decide +kernel
theorem dX0_places_5 : decode cX0_places 5 = .ok (.getfield 15, 3) := by decide +kernel
theorem dX0_places_8 : decode cX0_places 8 = .ok (.imul, 1) := by decide +kernel
theorem dX0_places_9 : decode cX0_places 9 = .ok (.ireturn, 1) := by decide +kernel
theorem dX0_lines_0 : decode cX0_lines 0 = .ok (.aload_n 0, 1) := by decide +kernel
theorem dX0_lines_1 : decode cX0_lines 1 = .ok (.getfield 9, 3) := by decide +kernel
theorem dX0_lines_4 : decode cX0_lines 4 = .ok (.aload_n 0, 1) := by decide +kernel
theorem dX0_lines_5 : decode cX0_lines 5 = .ok (.getfield 15, 3) := by decide +kernel
theorem dX0_lines_8 : decode cX0_lines 8 = .ok (.iadd, 1) := by decide +kernel
theorem dX0_lines_9 : decode cX0_lines 9 = .ok (.ireturn, 1) := by decide +kernel
theorem dX0_turns_0 : decode cX0_turns 0 = .ok (.iconst 2, 1) := by decide +kernel
theorem dX0_turns_1 : decode cX0_turns 1 = .ok (.aload_n 0, 1) := by decide +kernel
theorem dX0_turns_2 : decode cX0_turns 2 = .ok (.invokevirtual 54, 3) := by decide +kernel
theorem dX0_turns_5 : decode cX0_turns 5 = .ok (.imul, 1) := by decide +kernel
theorem dX0_turns_6 : decode cX0_turns 6 = .ok (.ireturn, 1) := by decide +kernel
theorem dX0_hasPlace_0 : decode cX0_hasPlace 0 = .ok (.iload_n 1, 1) := by decide +kernel
theorem dX0_hasPlace_1 : decode cX0_hasPlace 1 = .ok (.ifCond .lt 15, 3) := by decide +kernel
theorem dX0_hasPlace_4 : decode cX0_hasPlace 4 = .ok (.iload_n 1, 1) := by decide +kernel
theorem dX0_hasPlace_5 : decode cX0_hasPlace 5 = .ok (.aload_n 0, 1) := by decide +kernel
theorem dX0_hasPlace_6 : decode cX0_hasPlace 6 = .ok (.invokevirtual 46, 3) := by decide +kernel
theorem dX0_hasPlace_9 : decode cX0_hasPlace 9 = .ok (.if_icmp .ge 7, 3) := by decide +kernel
theorem dX0_hasPlace_12 : decode cX0_hasPlace 12 = .ok (.iconst 1, 1) := by decide +kernel
theorem dX0_hasPlace_13 : decode cX0_hasPlace 13 = .ok (.goto 4, 3) := by decide +kernel
theorem dX0_hasPlace_16 : decode cX0_hasPlace 16 = .ok (.iconst 0, 1) := by decide +kernel
theorem dX0_hasPlace_17 : decode cX0_hasPlace 17 = .ok (.ireturn, 1) := by decide +kernel
theorem dX0_hasLine_0 : decode cX0_hasLine 0 = .ok (.iload_n 1, 1) := by decide +kernel
theorem dX0_hasLine_1 : decode cX0_hasLine 1 = .ok (.ifCond .lt 15, 3) := by decide +kernel
theorem dX0_hasLine_4 : decode cX0_hasLine 4 = .ok (.iload_n 1, 1) := by decide +kernel
theorem dX0_hasLine_5 : decode cX0_hasLine 5 = .ok (.aload_n 0, 1) := by decide +kernel
theorem dX0_hasLine_6 : decode cX0_hasLine 6 = .ok (.invokevirtual 54, 3) := by decide +kernel
theorem dX0_hasLine_9 : decode cX0_hasLine 9 = .ok (.if_icmp .ge 7, 3) := by decide +kernel
theorem dX0_hasLine_12 : decode cX0_hasLine 12 = .ok (.iconst 1, 1) := by decide +kernel
theorem dX0_hasLine_13 : decode cX0_hasLine 13 = .ok (.goto 4, 3) := by decide +kernel
theorem dX0_hasLine_16 : decode cX0_hasLine 16 = .ok (.iconst 0, 1) := by decide +kernel
theorem dX0_hasLine_17 : decode cX0_hasLine 17 = .ok (.ireturn, 1) := by decide +kernel
theorem dX0_hasTurn_0 : decode cX0_hasTurn 0 = .ok (.iload_n 1, 1) := by decide +kernel
theorem dX0_hasTurn_1 : decode cX0_hasTurn 1 = .ok (.ifCond .lt 15, 3) := by decide +kernel
theorem dX0_hasTurn_4 : decode cX0_hasTurn 4 = .ok (.iload_n 1, 1) := by decide +kernel
theorem dX0_hasTurn_5 : decode cX0_hasTurn 5 = .ok (.aload_n 0, 1) := by decide +kernel
theorem dX0_hasTurn_6 : decode cX0_hasTurn 6 = .ok (.invokevirtual 57, 3) := by decide +kernel
theorem dX0_hasTurn_9 : decode cX0_hasTurn 9 = .ok (.if_icmp .ge 7, 3) := by decide +kernel
theorem dX0_hasTurn_12 : decode cX0_hasTurn 12 = .ok (.iconst 1, 1) := by decide +kernel
theorem dX0_hasTurn_13 : decode cX0_hasTurn 13 = .ok (.goto 4, 3) := by decide +kernel
theorem dX0_hasTurn_16 : decode cX0_hasTurn 16 = .ok (.iconst 0, 1) := by decide +kernel
theorem dX0_hasTurn_17 : decode cX0_hasTurn 17 = .ok (.ireturn, 1) := by decide +kernel
theorem dX0_hasBar_0 : decode cX0_hasBar 0 = .ok (.aload_n 0, 1) := by decide +kernel
theorem dX0_hasBar_1 : decode cX0_hasBar 1 = .ok (.getfield 25, 3) := by decide +kernel
theorem dX0_hasBar_4 : decode cX0_hasBar 4 = .ok (.iload_n 1, 1) := by decide +kernel
theorem dX0_hasBar_5 : decode cX0_hasBar 5 = .ok (.ishr, 1) := by decide +kernel
theorem dX0_hasBar_6 : decode cX0_hasBar 6 = .ok (.iconst 1, 1) := by decide +kernel
theorem dX0_hasBar_7 : decode cX0_hasBar 7 = .ok (.iand, 1) := by decide +kernel
theorem dX0_hasBar_8 : decode cX0_hasBar 8 = .ok (.iconst 1, 1) := by decide +kernel
theorem dX0_hasBar_9 : decode cX0_hasBar 9 = .ok (.if_icmp .ne 7, 3) := by decide +kernel
theorem dX0_hasBar_12 : decode cX0_hasBar 12 = .ok (.iconst 1, 1) := by decide +kernel
theorem dX0_hasBar_13 : decode cX0_hasBar 13 = .ok (.goto 4, 3) := by decide +kernel
theorem dX0_hasBar_16 : decode cX0_hasBar 16 = .ok (.iconst 0, 1) := by decide +kernel
theorem dX0_hasBar_17 : decode cX0_hasBar 17 = .ok (.ireturn, 1) := by decide +kernel
theorem dX0_canTurn_0 : decode cX0_canTurn 0 = .ok (.aload_n 0, 1) := by decide +kernel
theorem dX0_canTurn_1 : decode cX0_canTurn 1 = .ok (.iload_n 1, 1) := by decide +kernel
theorem dX0_canTurn_2 : decode cX0_canTurn 2 = .ok (.iconst 2, 1) := by decide +kernel
theorem dX0_canTurn_3 : decode cX0_canTurn 3 = .ok (.idiv, 1) := by decide +kernel
theorem dX0_canTurn_4 : decode cX0_canTurn 4 = .ok (.invokevirtual 60, 3) := by decide +kernel
theorem dX0_canTurn_7 : decode cX0_canTurn 7 = .ok (.ifCond .ne 7, 3) := by decide +kernel
theorem dX0_canTurn_10 : decode cX0_canTurn 10 = .ok (.iconst 1, 1) := by decide +kernel
theorem dX0_canTurn_11 : decode cX0_canTurn 11 = .ok (.goto 4, 3) := by decide +kernel
theorem dX0_canTurn_14 : decode cX0_canTurn 14 = .ok (.iconst 0, 1) := by decide +kernel
theorem dX0_canTurn_15 : decode cX0_canTurn 15 = .ok (.ireturn, 1) := by decide +kernel
theorem dX0_barredLines_0 : decode cX0_barredLines 0 = .ok (.aload_n 0, 1) := by decide +kernel
theorem dX0_barredLines_1 : decode cX0_barredLines 1 = .ok (.getfield 25, 3) := by decide +kernel
theorem dX0_barredLines_4 : decode cX0_barredLines 4 = .ok (.invokestatic 64, 3) := by decide +kernel
theorem dX0_barredLines_7 : decode cX0_barredLines 7 = .ok (.ireturn, 1) := by decide +kernel
theorem dX0_rowOf_0 : decode cX0_rowOf 0 = .ok (.aload_n 0, 1) := by decide +kernel
theorem dX0_rowOf_1 : decode cX0_rowOf 1 = .ok (.getfield 15, 3) := by decide +kernel
theorem dX0_rowOf_4 : decode cX0_rowOf 4 = .ok (.ifCond .le 12, 3) := by decide +kernel
theorem dX0_rowOf_7 : decode cX0_rowOf 7 = .ok (.iload_n 1, 1) := by decide +kernel
theorem dX0_rowOf_8 : decode cX0_rowOf 8 = .ok (.aload_n 0, 1) := by decide +kernel
theorem dX0_rowOf_9 : decode cX0_rowOf 9 = .ok (.getfield 15, 3) := by decide +kernel
theorem dX0_rowOf_12 : decode cX0_rowOf 12 = .ok (.idiv, 1) := by decide +kernel
theorem dX0_rowOf_13 : decode cX0_rowOf 13 = .ok (.goto 4, 3) := by decide +kernel
theorem dX0_rowOf_16 : decode cX0_rowOf 16 = .ok (.iconst 0, 1) := by decide +kernel
theorem dX0_rowOf_17 : decode cX0_rowOf 17 = .ok (.ireturn, 1) := by decide +kernel
theorem dX0_columnOf_0 : decode cX0_columnOf 0 = .ok (.iload_n 1, 1) := by decide +kernel
theorem dX0_columnOf_1 : decode cX0_columnOf 1 = .ok (.aload_n 0, 1) := by decide +kernel
theorem dX0_columnOf_2 : decode cX0_columnOf 2 = .ok (.iload_n 1, 1) := by decide +kernel
theorem dX0_columnOf_3 : decode cX0_columnOf 3 = .ok (.invokevirtual 70, 3) := by decide +kernel
theorem dX0_columnOf_6 : decode cX0_columnOf 6 = .ok (.aload_n 0, 1) := by decide +kernel
theorem dX0_columnOf_7 : decode cX0_columnOf 7 = .ok (.getfield 15, 3) := by decide +kernel
theorem dX0_columnOf_10 : decode cX0_columnOf 10 = .ok (.imul, 1) := by decide +kernel
theorem dX0_columnOf_11 : decode cX0_columnOf 11 = .ok (.isub, 1) := by decide +kernel
theorem dX0_columnOf_12 : decode cX0_columnOf 12 = .ok (.ireturn, 1) := by decide +kernel
theorem dX0_lineLength_0 : decode cX0_lineLength 0 = .ok (.iload_n 1, 1) := by decide +kernel
theorem dX0_lineLength_1 : decode cX0_lineLength 1 = .ok (.aload_n 0, 1) := by decide +kernel
theorem dX0_lineLength_2 : decode cX0_lineLength 2 = .ok (.getfield 9, 3) := by decide +kernel
theorem dX0_lineLength_5 : decode cX0_lineLength 5 = .ok (.if_icmp .ge 10, 3) := by decide +kernel
theorem dX0_lineLength_8 : decode cX0_lineLength 8 = .ok (.aload_n 0, 1) := by decide +kernel
theorem dX0_lineLength_9 : decode cX0_lineLength 9 = .ok (.getfield 15, 3) := by decide +kernel
theorem dX0_lineLength_12 : decode cX0_lineLength 12 = .ok (.goto 7, 3) := by decide +kernel
theorem dX0_lineLength_15 : decode cX0_lineLength 15 = .ok (.aload_n 0, 1) := by decide +kernel
theorem dX0_lineLength_16 : decode cX0_lineLength 16 = .ok (.getfield 9, 3) := by decide +kernel
theorem dX0_lineLength_19 : decode cX0_lineLength 19 = .ok (.ireturn, 1) := by decide +kernel
theorem dX0_lineStart_0 : decode cX0_lineStart 0 = .ok (.iload_n 1, 1) := by decide +kernel
theorem dX0_lineStart_1 : decode cX0_lineStart 1 = .ok (.aload_n 0, 1) := by decide +kernel
theorem dX0_lineStart_2 : decode cX0_lineStart 2 = .ok (.getfield 9, 3) := by decide +kernel
theorem dX0_lineStart_5 : decode cX0_lineStart 5 = .ok (.if_icmp .ge 12, 3) := by decide +kernel
theorem dX0_lineStart_8 : decode cX0_lineStart 8 = .ok (.iload_n 1, 1) := by decide +kernel
theorem dX0_lineStart_9 : decode cX0_lineStart 9 = .ok (.aload_n 0, 1) := by decide +kernel
theorem dX0_lineStart_10 : decode cX0_lineStart 10 = .ok (.getfield 15, 3) := by decide +kernel
theorem dX0_lineStart_13 : decode cX0_lineStart 13 = .ok (.imul, 1) := by decide +kernel
theorem dX0_lineStart_14 : decode cX0_lineStart 14 = .ok (.goto 9, 3) := by decide +kernel
theorem dX0_lineStart_17 : decode cX0_lineStart 17 = .ok (.iload_n 1, 1) := by decide +kernel
theorem dX0_lineStart_18 : decode cX0_lineStart 18 = .ok (.aload_n 0, 1) := by decide +kernel
theorem dX0_lineStart_19 : decode cX0_lineStart 19 = .ok (.getfield 9, 3) := by decide +kernel
theorem dX0_lineStart_22 : decode cX0_lineStart 22 = .ok (.isub, 1) := by decide +kernel
theorem dX0_lineStart_23 : decode cX0_lineStart 23 = .ok (.ireturn, 1) := by decide +kernel
theorem dX0_lineStride_0 : decode cX0_lineStride 0 = .ok (.iload_n 1, 1) := by decide +kernel
theorem dX0_lineStride_1 : decode cX0_lineStride 1 = .ok (.aload_n 0, 1) := by decide +kernel
theorem dX0_lineStride_2 : decode cX0_lineStride 2 = .ok (.getfield 9, 3) := by decide +kernel
theorem dX0_lineStride_5 : decode cX0_lineStride 5 = .ok (.if_icmp .ge 7, 3) := by decide +kernel
theorem dX0_lineStride_8 : decode cX0_lineStride 8 = .ok (.iconst 1, 1) := by decide +kernel
theorem dX0_lineStride_9 : decode cX0_lineStride 9 = .ok (.goto 7, 3) := by decide +kernel
theorem dX0_lineStride_12 : decode cX0_lineStride 12 = .ok (.aload_n 0, 1) := by decide +kernel
theorem dX0_lineStride_13 : decode cX0_lineStride 13 = .ok (.getfield 15, 3) := by decide +kernel
theorem dX0_lineStride_16 : decode cX0_lineStride 16 = .ok (.ireturn, 1) := by decide +kernel
theorem dX0_placeOn_0 : decode cX0_placeOn 0 = .ok (.aload_n 0, 1) := by decide +kernel
theorem dX0_placeOn_1 : decode cX0_placeOn 1 = .ok (.iload_n 1, 1) := by decide +kernel
theorem dX0_placeOn_2 : decode cX0_placeOn 2 = .ok (.invokevirtual 73, 3) := by decide +kernel
theorem dX0_placeOn_5 : decode cX0_placeOn 5 = .ok (.iload_n 2, 1) := by decide +kernel
theorem dX0_placeOn_6 : decode cX0_placeOn 6 = .ok (.aload_n 0, 1) := by decide +kernel
theorem dX0_placeOn_7 : decode cX0_placeOn 7 = .ok (.iload_n 1, 1) := by decide +kernel
theorem dX0_placeOn_8 : decode cX0_placeOn 8 = .ok (.invokevirtual 76, 3) := by decide +kernel
theorem dX0_placeOn_11 : decode cX0_placeOn 11 = .ok (.imul, 1) := by decide +kernel
theorem dX0_placeOn_12 : decode cX0_placeOn 12 = .ok (.iadd, 1) := by decide +kernel
theorem dX0_placeOn_13 : decode cX0_placeOn 13 = .ok (.ireturn, 1) := by decide +kernel
theorem dX0_turned_0 : decode cX0_turned 0 = .ok (.iload_n 3, 1) := by decide +kernel
theorem dX0_turned_1 : decode cX0_turned 1 = .ok (.iconst 2, 1) := by decide +kernel
theorem dX0_turned_2 : decode cX0_turned 2 = .ok (.idiv, 1) := by decide +kernel
theorem dX0_turned_3 : decode cX0_turned 3 = .ok (.istore 4, 2) := by decide +kernel
theorem dX0_turned_5 : decode cX0_turned 5 = .ok (.iconst 4, 1) := by decide +kernel
theorem dX0_turned_6 : decode cX0_turned 6 = .ok (.aload_n 0, 1) := by decide +kernel
theorem dX0_turned_7 : decode cX0_turned 7 = .ok (.iload 4, 2) := by decide +kernel
theorem dX0_turned_9 : decode cX0_turned 9 = .ok (.invokevirtual 73, 3) := by decide +kernel
theorem dX0_turned_12 : decode cX0_turned 12 = .ok (.imul, 1) := by decide +kernel
theorem dX0_turned_13 : decode cX0_turned 13 = .ok (.istore 5, 2) := by decide +kernel
theorem dX0_turned_15 : decode cX0_turned 15 = .ok (.iconst 4, 1) := by decide +kernel
theorem dX0_turned_16 : decode cX0_turned 16 = .ok (.aload_n 0, 1) := by decide +kernel
theorem dX0_turned_17 : decode cX0_turned 17 = .ok (.iload 4, 2) := by decide +kernel
theorem dX0_turned_19 : decode cX0_turned 19 = .ok (.invokevirtual 76, 3) := by decide +kernel
theorem dX0_turned_22 : decode cX0_turned 22 = .ok (.imul, 1) := by decide +kernel
theorem dX0_turned_23 : decode cX0_turned 23 = .ok (.istore 6, 2) := by decide +kernel
theorem dX0_turned_25 : decode cX0_turned 25 = .ok (.iload 6, 2) := by decide +kernel
theorem dX0_turned_27 : decode cX0_turned 27 = .ok (.aload_n 0, 1) := by decide +kernel
theorem dX0_turned_28 : decode cX0_turned 28 = .ok (.iload 4, 2) := by decide +kernel
theorem dX0_turned_30 : decode cX0_turned 30 = .ok (.invokevirtual 79, 3) := by decide +kernel
theorem dX0_turned_33 : decode cX0_turned 33 = .ok (.iconst 1, 1) := by decide +kernel
theorem dX0_turned_34 : decode cX0_turned 34 = .ok (.isub, 1) := by decide +kernel
theorem dX0_turned_35 : decode cX0_turned 35 = .ok (.imul, 1) := by decide +kernel
theorem dX0_turned_36 : decode cX0_turned 36 = .ok (.istore 7, 2) := by decide +kernel
theorem dX0_turned_38 : decode cX0_turned 38 = .ok (.ldc2_w 82, 3) := by decide +kernel
theorem dX0_turned_41 : decode cX0_turned 41 = .ok (.ldc2_w 82, 3) := by decide +kernel
theorem dX0_turned_44 : decode cX0_turned 44 = .ok (.iload 6, 2) := by decide +kernel
theorem dX0_turned_46 : decode cX0_turned 46 = .ok (.lshl, 1) := by decide +kernel
theorem dX0_turned_47 : decode cX0_turned 47 = .ok (.lor, 1) := by decide +kernel
theorem dX0_turned_48 : decode cX0_turned 48 = .ok (.ldc2_w 82, 3) := by decide +kernel
theorem dX0_turned_51 : decode cX0_turned 51 = .ok (.iload 7, 2) := by decide +kernel
theorem dX0_turned_53 : decode cX0_turned 53 = .ok (.lshl, 1) := by decide +kernel
theorem dX0_turned_54 : decode cX0_turned 54 = .ok (.lor, 1) := by decide +kernel
theorem dX0_turned_55 : decode cX0_turned 55 = .ok (.lstore 8, 2) := by decide +kernel
theorem dX0_turned_57 : decode cX0_turned 57 = .ok (.lload_n 1, 1) := by decide +kernel
theorem dX0_turned_58 : decode cX0_turned 58 = .ok (.iload 5, 2) := by decide +kernel
theorem dX0_turned_60 : decode cX0_turned 60 = .ok (.lushr, 1) := by decide +kernel
theorem dX0_turned_61 : decode cX0_turned 61 = .ok (.lload 8, 2) := by decide +kernel
theorem dX0_turned_63 : decode cX0_turned 63 = .ok (.land, 1) := by decide +kernel
theorem dX0_turned_64 : decode cX0_turned 64 = .ok (.lstore 10, 2) := by decide +kernel
theorem dX0_turned_66 : decode cX0_turned 66 = .ok (.iload_n 3, 1) := by decide +kernel
theorem dX0_turned_67 : decode cX0_turned 67 = .ok (.iconst 2, 1) := by decide +kernel
theorem dX0_turned_68 : decode cX0_turned 68 = .ok (.irem, 1) := by decide +kernel
theorem dX0_turned_69 : decode cX0_turned 69 = .ok (.ifCond .ne 17, 3) := by decide +kernel
theorem dX0_turned_72 : decode cX0_turned 72 = .ok (.lload 10, 2) := by decide +kernel
theorem dX0_turned_74 : decode cX0_turned 74 = .ok (.iload 6, 2) := by decide +kernel
theorem dX0_turned_76 : decode cX0_turned 76 = .ok (.lshl, 1) := by decide +kernel
theorem dX0_turned_77 : decode cX0_turned 77 = .ok (.lload 10, 2) := by decide +kernel
theorem dX0_turned_79 : decode cX0_turned 79 = .ok (.iload 7, 2) := by decide +kernel
theorem dX0_turned_81 : decode cX0_turned 81 = .ok (.lushr, 1) := by decide +kernel
theorem dX0_turned_82 : decode cX0_turned 82 = .ok (.lor, 1) := by decide +kernel
theorem dX0_turned_83 : decode cX0_turned 83 = .ok (.goto 14, 3) := by decide +kernel
theorem dX0_turned_86 : decode cX0_turned 86 = .ok (.lload 10, 2) := by decide +kernel
theorem dX0_turned_88 : decode cX0_turned 88 = .ok (.iload 6, 2) := by decide +kernel
theorem dX0_turned_90 : decode cX0_turned 90 = .ok (.lushr, 1) := by decide +kernel
theorem dX0_turned_91 : decode cX0_turned 91 = .ok (.lload 10, 2) := by decide +kernel
theorem dX0_turned_93 : decode cX0_turned 93 = .ok (.iload 7, 2) := by decide +kernel
theorem dX0_turned_95 : decode cX0_turned 95 = .ok (.lshl, 1) := by decide +kernel
theorem dX0_turned_96 : decode cX0_turned 96 = .ok (.lor, 1) := by decide +kernel
theorem dX0_turned_97 : decode cX0_turned 97 = .ok (.lstore 12, 2) := by decide +kernel
theorem dX0_turned_99 : decode cX0_turned 99 = .ok (.lload_n 1, 1) := by decide +kernel
theorem dX0_turned_100 : decode cX0_turned 100 = .ok (.lload 8, 2) := by decide +kernel
theorem dX0_turned_102 : decode cX0_turned 102 = .ok (.iload 5, 2) := by decide +kernel
theorem dX0_turned_104 : decode cX0_turned 104 = .ok (.lshl, 1) := by decide +kernel
theorem dX0_turned_105 : decode cX0_turned 105 = .ok (.ldc2_w 84, 3) := by decide +kernel
theorem dX0_turned_108 : decode cX0_turned 108 = .ok (.lxor, 1) := by decide +kernel
theorem dX0_turned_109 : decode cX0_turned 109 = .ok (.land, 1) := by decide +kernel
theorem dX0_turned_110 : decode cX0_turned 110 = .ok (.lload 12, 2) := by decide +kernel
theorem dX0_turned_112 : decode cX0_turned 112 = .ok (.lload 8, 2) := by decide +kernel
theorem dX0_turned_114 : decode cX0_turned 114 = .ok (.land, 1) := by decide +kernel
theorem dX0_turned_115 : decode cX0_turned 115 = .ok (.iload 5, 2) := by decide +kernel
theorem dX0_turned_117 : decode cX0_turned 117 = .ok (.lshl, 1) := by decide +kernel
theorem dX0_turned_118 : decode cX0_turned 118 = .ok (.lor, 1) := by decide +kernel
theorem dX0_turned_119 : decode cX0_turned 119 = .ok (.lreturn, 1) := by decide +kernel
theorem dX0_areTurnsTakenBack_0 : decode cX0_areTurnsTakenBack 0 = .ok (.iconst 0, 1) := by decide +kernel
theorem dX0_areTurnsTakenBack_1 : decode cX0_areTurnsTakenBack 1 = .ok (.istore_n 1, 1) := by decide +kernel
theorem dX0_areTurnsTakenBack_2 : decode cX0_areTurnsTakenBack 2 = .ok (.iload_n 1, 1) := by decide +kernel
theorem dX0_areTurnsTakenBack_3 : decode cX0_areTurnsTakenBack 3 = .ok (.aload_n 0, 1) := by decide +kernel
theorem dX0_areTurnsTakenBack_4 : decode cX0_areTurnsTakenBack 4 = .ok (.invokevirtual 57, 3) := by decide +kernel
theorem dX0_areTurnsTakenBack_7 : decode cX0_areTurnsTakenBack 7 = .ok (.if_icmp .ge 35, 3) := by decide +kernel
theorem dX0_areTurnsTakenBack_10 : decode cX0_areTurnsTakenBack 10 = .ok (.aload_n 0, 1) := by decide +kernel
theorem dX0_areTurnsTakenBack_11 : decode cX0_areTurnsTakenBack 11 = .ok (.aload_n 0, 1) := by decide +kernel
theorem dX0_areTurnsTakenBack_12 : decode cX0_areTurnsTakenBack 12 = .ok (.aload_n 0, 1) := by decide +kernel
theorem dX0_areTurnsTakenBack_13 : decode cX0_areTurnsTakenBack 13 = .ok (.getfield 18, 3) := by decide +kernel
theorem dX0_areTurnsTakenBack_16 : decode cX0_areTurnsTakenBack 16 = .ok (.iload_n 1, 1) := by decide +kernel
theorem dX0_areTurnsTakenBack_17 : decode cX0_areTurnsTakenBack 17 = .ok (.invokevirtual 86, 3) := by decide +kernel
theorem dX0_areTurnsTakenBack_20 : decode cX0_areTurnsTakenBack 20 = .ok (.iload_n 1, 1) := by decide +kernel
theorem dX0_areTurnsTakenBack_21 : decode cX0_areTurnsTakenBack 21 = .ok (.iconst 1, 1) := by decide +kernel
theorem dX0_areTurnsTakenBack_22 : decode cX0_areTurnsTakenBack 22 = .ok (.ixor, 1) := by decide +kernel
theorem dX0_areTurnsTakenBack_23 : decode cX0_areTurnsTakenBack 23 = .ok (.invokevirtual 86, 3) := by decide +kernel
theorem dX0_areTurnsTakenBack_26 : decode cX0_areTurnsTakenBack 26 = .ok (.aload_n 0, 1) := by decide +kernel
theorem dX0_areTurnsTakenBack_27 : decode cX0_areTurnsTakenBack 27 = .ok (.getfield 18, 3) := by decide +kernel
theorem dX0_areTurnsTakenBack_30 : decode cX0_areTurnsTakenBack 30 = .ok (.lcmp, 1) := by decide +kernel
theorem dX0_areTurnsTakenBack_31 : decode cX0_areTurnsTakenBack 31 = .ok (.ifCond .eq 5, 3) := by decide +kernel
theorem dX0_areTurnsTakenBack_34 : decode cX0_areTurnsTakenBack 34 = .ok (.iconst 0, 1) := by decide +kernel
theorem dX0_areTurnsTakenBack_35 : decode cX0_areTurnsTakenBack 35 = .ok (.ireturn, 1) := by decide +kernel
theorem dX0_areTurnsTakenBack_36 : decode cX0_areTurnsTakenBack 36 = .ok (.iinc 1 1, 3) := by decide +kernel
theorem dX0_areTurnsTakenBack_39 : decode cX0_areTurnsTakenBack 39 = .ok (.goto (-37), 3) := by decide +kernel
theorem dX0_areTurnsTakenBack_42 : decode cX0_areTurnsTakenBack 42 = .ok (.iconst 1, 1) := by decide +kernel
theorem dX0_areTurnsTakenBack_43 : decode cX0_areTurnsTakenBack 43 = .ok (.ireturn, 1) := by decide +kernel
theorem dX0_turnToGoal_0 : decode cX0_turnToGoal 0 = .ok (.aload_n 0, 1) := by decide +kernel
theorem dX0_turnToGoal_1 : decode cX0_turnToGoal 1 = .ok (.invokevirtual 90, 3) := by decide +kernel
theorem dX0_turnToGoal_4 : decode cX0_turnToGoal 4 = .ok (.istore_n 2, 1) := by decide +kernel
theorem dX0_turnToGoal_5 : decode cX0_turnToGoal 5 = .ok (.aload_n 0, 1) := by decide +kernel
theorem dX0_turnToGoal_6 : decode cX0_turnToGoal 6 = .ok (.iload_n 1, 1) := by decide +kernel
theorem dX0_turnToGoal_7 : decode cX0_turnToGoal 7 = .ok (.invokevirtual 94, 3) := by decide +kernel
theorem dX0_turnToGoal_10 : decode cX0_turnToGoal 10 = .ok (.iload_n 2, 1) := by decide +kernel
theorem dX0_turnToGoal_11 : decode cX0_turnToGoal 11 = .ok (.ifCond .ne 20, 3) := by decide +kernel
theorem dX0_turnToGoal_14 : decode cX0_turnToGoal 14 = .ok (.aload_n 0, 1) := by decide +kernel
theorem dX0_turnToGoal_15 : decode cX0_turnToGoal 15 = .ok (.invokevirtual 90, 3) := by decide +kernel
theorem dX0_turnToGoal_18 : decode cX0_turnToGoal 18 = .ok (.ifCond .eq 13, 3) := by decide +kernel
theorem dX0_turnToGoal_21 : decode cX0_turnToGoal 21 = .ok (.aload_n 0, 1) := by decide +kernel
theorem dX0_turnToGoal_22 : decode cX0_turnToGoal 22 = .ok (.dup, 1) := by decide +kernel
theorem dX0_turnToGoal_23 : decode cX0_turnToGoal 23 = .ok (.getfield 43, 3) := by decide +kernel
theorem dX0_turnToGoal_26 : decode cX0_turnToGoal 26 = .ok (.iconst 1, 1) := by decide +kernel
theorem dX0_turnToGoal_27 : decode cX0_turnToGoal 27 = .ok (.iadd, 1) := by decide +kernel
theorem dX0_turnToGoal_28 : decode cX0_turnToGoal 28 = .ok (.putfield 43, 3) := by decide +kernel
theorem dX0_turnToGoal_31 : decode cX0_turnToGoal 31 = .ok (.return_, 1) := by decide +kernel
theorem dX0_makeTurn_0 : decode cX0_makeTurn 0 = .ok (.aload_n 0, 1) := by decide +kernel
theorem dX0_makeTurn_1 : decode cX0_makeTurn 1 = .ok (.aload_n 0, 1) := by decide +kernel
theorem dX0_makeTurn_2 : decode cX0_makeTurn 2 = .ok (.aload_n 0, 1) := by decide +kernel
theorem dX0_makeTurn_3 : decode cX0_makeTurn 3 = .ok (.getfield 18, 3) := by decide +kernel
theorem dX0_makeTurn_6 : decode cX0_makeTurn 6 = .ok (.iload_n 1, 1) := by decide +kernel
theorem dX0_makeTurn_7 : decode cX0_makeTurn 7 = .ok (.invokevirtual 86, 3) := by decide +kernel
theorem dX0_makeTurn_10 : decode cX0_makeTurn 10 = .ok (.putfield 18, 3) := by decide +kernel
theorem dX0_makeTurn_13 : decode cX0_makeTurn 13 = .ok (.aload_n 0, 1) := by decide +kernel
theorem dX0_makeTurn_14 : decode cX0_makeTurn 14 = .ok (.dup, 1) := by decide +kernel
theorem dX0_makeTurn_15 : decode cX0_makeTurn 15 = .ok (.getfield 28, 3) := by decide +kernel
theorem dX0_makeTurn_18 : decode cX0_makeTurn 18 = .ok (.iconst 1, 1) := by decide +kernel
theorem dX0_makeTurn_19 : decode cX0_makeTurn 19 = .ok (.iadd, 1) := by decide +kernel
theorem dX0_makeTurn_20 : decode cX0_makeTurn 20 = .ok (.putfield 28, 3) := by decide +kernel
theorem dX0_makeTurn_23 : decode cX0_makeTurn 23 = .ok (.return_, 1) := by decide +kernel
theorem dX0_exchange_0 : decode cX0_exchange 0 = .ok (.aload_n 0, 1) := by decide +kernel
theorem dX0_exchange_1 : decode cX0_exchange 1 = .ok (.getfield 18, 3) := by decide +kernel
theorem dX0_exchange_4 : decode cX0_exchange 4 = .ok (.iload_n 1, 1) := by decide +kernel
theorem dX0_exchange_5 : decode cX0_exchange 5 = .ok (.invokestatic 98, 3) := by decide +kernel
theorem dX0_exchange_8 : decode cX0_exchange 8 = .ok (.istore_n 3, 1) := by decide +kernel
theorem dX0_exchange_9 : decode cX0_exchange 9 = .ok (.aload_n 0, 1) := by decide +kernel
theorem dX0_exchange_10 : decode cX0_exchange 10 = .ok (.aload_n 0, 1) := by decide +kernel
theorem dX0_exchange_11 : decode cX0_exchange 11 = .ok (.getfield 18, 3) := by decide +kernel
theorem dX0_exchange_14 : decode cX0_exchange 14 = .ok (.iload_n 1, 1) := by decide +kernel
theorem dX0_exchange_15 : decode cX0_exchange 15 = .ok (.aload_n 0, 1) := by decide +kernel
theorem dX0_exchange_16 : decode cX0_exchange 16 = .ok (.getfield 18, 3) := by decide +kernel
theorem dX0_exchange_19 : decode cX0_exchange 19 = .ok (.iload_n 2, 1) := by decide +kernel
theorem dX0_exchange_20 : decode cX0_exchange 20 = .ok (.invokestatic 98, 3) := by decide +kernel
theorem dX0_exchange_23 : decode cX0_exchange 23 = .ok (.invokestatic 50, 3) := by decide +kernel
theorem dX0_exchange_26 : decode cX0_exchange 26 = .ok (.putfield 18, 3) := by decide +kernel
theorem dX0_exchange_29 : decode cX0_exchange 29 = .ok (.aload_n 0, 1) := by decide +kernel
theorem dX0_exchange_30 : decode cX0_exchange 30 = .ok (.aload_n 0, 1) := by decide +kernel
theorem dX0_exchange_31 : decode cX0_exchange 31 = .ok (.getfield 18, 3) := by decide +kernel
theorem dX0_exchange_34 : decode cX0_exchange 34 = .ok (.iload_n 2, 1) := by decide +kernel
theorem dX0_exchange_35 : decode cX0_exchange 35 = .ok (.iload_n 3, 1) := by decide +kernel
theorem dX0_exchange_36 : decode cX0_exchange 36 = .ok (.invokestatic 50, 3) := by decide +kernel
theorem dX0_exchange_39 : decode cX0_exchange 39 = .ok (.putfield 18, 3) := by decide +kernel
theorem dX0_exchange_42 : decode cX0_exchange 42 = .ok (.aload_n 0, 1) := by decide +kernel
theorem dX0_exchange_43 : decode cX0_exchange 43 = .ok (.dup, 1) := by decide +kernel
theorem dX0_exchange_44 : decode cX0_exchange 44 = .ok (.getfield 31, 3) := by decide +kernel
theorem dX0_exchange_47 : decode cX0_exchange 47 = .ok (.iconst 1, 1) := by decide +kernel
theorem dX0_exchange_48 : decode cX0_exchange 48 = .ok (.iadd, 1) := by decide +kernel
theorem dX0_exchange_49 : decode cX0_exchange 49 = .ok (.putfield 31, 3) := by decide +kernel
theorem dX0_exchange_52 : decode cX0_exchange 52 = .ok (.return_, 1) := by decide +kernel
theorem dX0_mix_0 : decode cX0_mix 0 = .ok (.iload_n 1, 1) := by decide +kernel
theorem dX0_mix_1 : decode cX0_mix 1 = .ok (.istore_n 3, 1) := by decide +kernel
theorem dX0_mix_2 : decode cX0_mix 2 = .ok (.aload_n 0, 1) := by decide +kernel
theorem dX0_mix_3 : decode cX0_mix 3 = .ok (.invokevirtual 57, 3) := by decide +kernel
theorem dX0_mix_6 : decode cX0_mix 6 = .ok (.istore 4, 2) := by decide +kernel
theorem dX0_mix_8 : decode cX0_mix 8 = .ok (.iconst 0, 1) := by decide +kernel
theorem dX0_mix_9 : decode cX0_mix 9 = .ok (.istore 5, 2) := by decide +kernel
theorem dX0_mix_11 : decode cX0_mix 11 = .ok (.iload 5, 2) := by decide +kernel
theorem dX0_mix_13 : decode cX0_mix 13 = .ok (.iload_n 2, 1) := by decide +kernel
theorem dX0_mix_14 : decode cX0_mix 14 = .ok (.if_icmp .ge 47, 3) := by decide +kernel
theorem dX0_mix_17 : decode cX0_mix 17 = .ok (.iload 4, 2) := by decide +kernel
theorem dX0_mix_19 : decode cX0_mix 19 = .ok (.ifCond .le 42, 3) := by decide +kernel
theorem dX0_mix_22 : decode cX0_mix 22 = .ok (.bipush 73, 2) := by decide +kernel
theorem dX0_mix_24 : decode cX0_mix 24 = .ok (.iload_n 3, 1) := by decide +kernel
theorem dX0_mix_25 : decode cX0_mix 25 = .ok (.imul, 1) := by decide +kernel
theorem dX0_mix_26 : decode cX0_mix 26 = .ok (.bipush 41, 2) := by decide +kernel
theorem dX0_mix_28 : decode cX0_mix 28 = .ok (.iadd, 1) := by decide +kernel
theorem dX0_mix_29 : decode cX0_mix 29 = .ok (.sipush 1000, 3) := by decide +kernel
theorem dX0_mix_32 : decode cX0_mix 32 = .ok (.irem, 1) := by decide +kernel
theorem dX0_mix_33 : decode cX0_mix 33 = .ok (.istore_n 3, 1) := by decide +kernel
theorem dX0_mix_34 : decode cX0_mix 34 = .ok (.iload_n 3, 1) := by decide +kernel
theorem dX0_mix_35 : decode cX0_mix 35 = .ok (.iload 4, 2) := by decide +kernel
theorem dX0_mix_37 : decode cX0_mix 37 = .ok (.irem, 1) := by decide +kernel
theorem dX0_mix_38 : decode cX0_mix 38 = .ok (.istore 6, 2) := by decide +kernel
theorem dX0_mix_40 : decode cX0_mix 40 = .ok (.aload_n 0, 1) := by decide +kernel
theorem dX0_mix_41 : decode cX0_mix 41 = .ok (.iload 6, 2) := by decide +kernel
theorem dX0_mix_43 : decode cX0_mix 43 = .ok (.invokevirtual 102, 3) := by decide +kernel
theorem dX0_mix_46 : decode cX0_mix 46 = .ok (.ifCond .eq 9, 3) := by decide +kernel
theorem dX0_mix_49 : decode cX0_mix 49 = .ok (.aload_n 0, 1) := by decide +kernel
theorem dX0_mix_50 : decode cX0_mix 50 = .ok (.iload 6, 2) := by decide +kernel
theorem dX0_mix_52 : decode cX0_mix 52 = .ok (.invokevirtual 94, 3) := by decide +kernel
theorem dX0_mix_55 : decode cX0_mix 55 = .ok (.iinc 5 1, 3) := by decide +kernel
theorem dX0_mix_58 : decode cX0_mix 58 = .ok (.goto (-47), 3) := by decide +kernel
theorem dX0_mix_61 : decode cX0_mix 61 = .ok (.aload_n 0, 1) := by decide +kernel
theorem dX0_mix_62 : decode cX0_mix 62 = .ok (.dup, 1) := by decide +kernel
theorem dX0_mix_63 : decode cX0_mix 63 = .ok (.getfield 34, 3) := by decide +kernel
theorem dX0_mix_66 : decode cX0_mix 66 = .ok (.iconst 1, 1) := by decide +kernel
theorem dX0_mix_67 : decode cX0_mix 67 = .ok (.iadd, 1) := by decide +kernel
theorem dX0_mix_68 : decode cX0_mix 68 = .ok (.putfield 34, 3) := by decide +kernel
theorem dX0_mix_71 : decode cX0_mix 71 = .ok (.return_, 1) := by decide +kernel
theorem dX0_atHome_0 : decode cX0_atHome 0 = .ok (.iconst 0, 1) := by decide +kernel
theorem dX0_atHome_1 : decode cX0_atHome 1 = .ok (.istore_n 3, 1) := by decide +kernel
theorem dX0_atHome_2 : decode cX0_atHome 2 = .ok (.iconst 0, 1) := by decide +kernel
theorem dX0_atHome_3 : decode cX0_atHome 3 = .ok (.istore 4, 2) := by decide +kernel
theorem dX0_atHome_5 : decode cX0_atHome 5 = .ok (.iload 4, 2) := by decide +kernel
theorem dX0_atHome_7 : decode cX0_atHome 7 = .ok (.aload_n 0, 1) := by decide +kernel
theorem dX0_atHome_8 : decode cX0_atHome 8 = .ok (.invokevirtual 46, 3) := by decide +kernel
theorem dX0_atHome_11 : decode cX0_atHome 11 = .ok (.if_icmp .ge 41, 3) := by decide +kernel
theorem dX0_atHome_14 : decode cX0_atHome 14 = .ok (.aload_n 0, 1) := by decide +kernel
theorem dX0_atHome_15 : decode cX0_atHome 15 = .ok (.getfield 22, 3) := by decide +kernel
theorem dX0_atHome_18 : decode cX0_atHome 18 = .ok (.iload 4, 2) := by decide +kernel
theorem dX0_atHome_20 : decode cX0_atHome 20 = .ok (.invokestatic 98, 3) := by decide +kernel
theorem dX0_atHome_23 : decode cX0_atHome 23 = .ok (.istore 5, 2) := by decide +kernel
theorem dX0_atHome_25 : decode cX0_atHome 25 = .ok (.iload 5, 2) := by decide +kernel
theorem dX0_atHome_27 : decode cX0_atHome 27 = .ok (.bipush 12, 2) := by decide +kernel
theorem dX0_atHome_29 : decode cX0_atHome 29 = .ok (.if_icmp .eq 14, 3) := by decide +kernel
theorem dX0_atHome_32 : decode cX0_atHome 32 = .ok (.iload 5, 2) := by decide +kernel
theorem dX0_atHome_34 : decode cX0_atHome 34 = .ok (.lload_n 1, 1) := by decide +kernel
theorem dX0_atHome_35 : decode cX0_atHome 35 = .ok (.iload 4, 2) := by decide +kernel
theorem dX0_atHome_37 : decode cX0_atHome 37 = .ok (.invokestatic 98, 3) := by decide +kernel
theorem dX0_atHome_40 : decode cX0_atHome 40 = .ok (.if_icmp .ne 6, 3) := by decide +kernel
theorem dX0_atHome_43 : decode cX0_atHome 43 = .ok (.iinc 3 1, 3) := by decide +kernel
theorem dX0_atHome_46 : decode cX0_atHome 46 = .ok (.iinc 4 1, 3) := by decide +kernel
theorem dX0_atHome_49 : decode cX0_atHome 49 = .ok (.goto (-44), 3) := by decide +kernel
theorem dX0_atHome_52 : decode cX0_atHome 52 = .ok (.iload_n 3, 1) := by decide +kernel
theorem dX0_atHome_53 : decode cX0_atHome 53 = .ok (.ireturn, 1) := by decide +kernel
theorem dX0_isReached_0 : decode cX0_isReached 0 = .ok (.aload_n 0, 1) := by decide +kernel
theorem dX0_isReached_1 : decode cX0_isReached 1 = .ok (.aload_n 0, 1) := by decide +kernel
theorem dX0_isReached_2 : decode cX0_isReached 2 = .ok (.getfield 18, 3) := by decide +kernel
theorem dX0_isReached_5 : decode cX0_isReached 5 = .ok (.invokevirtual 105, 3) := by decide +kernel
theorem dX0_isReached_8 : decode cX0_isReached 8 = .ok (.ireturn, 1) := by decide +kernel
theorem dX0_isGoal_0 : decode cX0_isGoal 0 = .ok (.iconst 0, 1) := by decide +kernel
theorem dX0_isGoal_1 : decode cX0_isGoal 1 = .ok (.istore_n 3, 1) := by decide +kernel
theorem dX0_isGoal_2 : decode cX0_isGoal 2 = .ok (.iload_n 3, 1) := by decide +kernel
theorem dX0_isGoal_3 : decode cX0_isGoal 3 = .ok (.aload_n 0, 1) := by decide +kernel
theorem dX0_isGoal_4 : decode cX0_isGoal 4 = .ok (.invokevirtual 46, 3) := by decide +kernel
theorem dX0_isGoal_7 : decode cX0_isGoal 7 = .ok (.if_icmp .ge 38, 3) := by decide +kernel
theorem dX0_isGoal_10 : decode cX0_isGoal 10 = .ok (.aload_n 0, 1) := by decide +kernel
theorem dX0_isGoal_11 : decode cX0_isGoal 11 = .ok (.getfield 22, 3) := by decide +kernel
theorem dX0_isGoal_14 : decode cX0_isGoal 14 = .ok (.iload_n 3, 1) := by decide +kernel
theorem dX0_isGoal_15 : decode cX0_isGoal 15 = .ok (.invokestatic 98, 3) := by decide +kernel
theorem dX0_isGoal_18 : decode cX0_isGoal 18 = .ok (.istore 4, 2) := by decide +kernel
theorem dX0_isGoal_20 : decode cX0_isGoal 20 = .ok (.iload 4, 2) := by decide +kernel
theorem dX0_isGoal_22 : decode cX0_isGoal 22 = .ok (.bipush 12, 2) := by decide +kernel
theorem dX0_isGoal_24 : decode cX0_isGoal 24 = .ok (.if_icmp .eq 15, 3) := by decide +kernel
theorem dX0_isGoal_27 : decode cX0_isGoal 27 = .ok (.iload 4, 2) := by decide +kernel
theorem dX0_isGoal_29 : decode cX0_isGoal 29 = .ok (.lload_n 1, 1) := by decide +kernel
theorem dX0_isGoal_30 : decode cX0_isGoal 30 = .ok (.iload_n 3, 1) := by decide +kernel
theorem dX0_isGoal_31 : decode cX0_isGoal 31 = .ok (.invokestatic 98, 3) := by decide +kernel
theorem dX0_isGoal_34 : decode cX0_isGoal 34 = .ok (.if_icmp .eq 5, 3) := by decide +kernel
theorem dX0_isGoal_37 : decode cX0_isGoal 37 = .ok (.iconst 0, 1) := by decide +kernel
theorem dX0_isGoal_38 : decode cX0_isGoal 38 = .ok (.ireturn, 1) := by decide +kernel
theorem dX0_isGoal_39 : decode cX0_isGoal 39 = .ok (.iinc 3 1, 3) := by decide +kernel
theorem dX0_isGoal_42 : decode cX0_isGoal 42 = .ok (.goto (-40), 3) := by decide +kernel
theorem dX0_isGoal_45 : decode cX0_isGoal 45 = .ok (.iconst 1, 1) := by decide +kernel
theorem dX0_isGoal_46 : decode cX0_isGoal 46 = .ok (.ireturn, 1) := by decide +kernel
theorem dX0_cares_0 : decode cX0_cares 0 = .ok (.lconst 0, 1) := by decide +kernel
theorem dX0_cares_1 : decode cX0_cares 1 = .ok (.lstore_n 1, 1) := by decide +kernel
theorem dX0_cares_2 : decode cX0_cares 2 = .ok (.iconst 0, 1) := by decide +kernel
theorem dX0_cares_3 : decode cX0_cares 3 = .ok (.istore_n 3, 1) := by decide +kernel
theorem dX0_cares_4 : decode cX0_cares 4 = .ok (.iload_n 3, 1) := by decide +kernel
theorem dX0_cares_5 : decode cX0_cares 5 = .ok (.aload_n 0, 1) := by decide +kernel
theorem dX0_cares_6 : decode cX0_cares 6 = .ok (.invokevirtual 46, 3) := by decide +kernel
theorem dX0_cares_9 : decode cX0_cares 9 = .ok (.if_icmp .ge 30, 3) := by decide +kernel
theorem dX0_cares_12 : decode cX0_cares 12 = .ok (.aload_n 0, 1) := by decide +kernel
theorem dX0_cares_13 : decode cX0_cares 13 = .ok (.getfield 22, 3) := by decide +kernel
theorem dX0_cares_16 : decode cX0_cares 16 = .ok (.iload_n 3, 1) := by decide +kernel
theorem dX0_cares_17 : decode cX0_cares 17 = .ok (.invokestatic 98, 3) := by decide +kernel
theorem dX0_cares_20 : decode cX0_cares 20 = .ok (.bipush 12, 2) := by decide +kernel
theorem dX0_cares_22 : decode cX0_cares 22 = .ok (.if_icmp .eq 11, 3) := by decide +kernel
theorem dX0_cares_25 : decode cX0_cares 25 = .ok (.lload_n 1, 1) := by decide +kernel
theorem dX0_cares_26 : decode cX0_cares 26 = .ok (.iload_n 3, 1) := by decide +kernel
theorem dX0_cares_27 : decode cX0_cares 27 = .ok (.bipush 15, 2) := by decide +kernel
theorem dX0_cares_29 : decode cX0_cares 29 = .ok (.invokestatic 50, 3) := by decide +kernel
theorem dX0_cares_32 : decode cX0_cares 32 = .ok (.lstore_n 1, 1) := by decide +kernel
theorem dX0_cares_33 : decode cX0_cares 33 = .ok (.iinc 3 1, 3) := by decide +kernel
theorem dX0_cares_36 : decode cX0_cares 36 = .ok (.goto (-32), 3) := by decide +kernel
theorem dX0_cares_39 : decode cX0_cares 39 = .ok (.lload_n 1, 1) := by decide +kernel
theorem dX0_cares_40 : decode cX0_cares 40 = .ok (.lreturn, 1) := by decide +kernel
theorem dX0_count_0 : decode cX0_count 0 = .ok (.iconst 0, 1) := by decide +kernel
theorem dX0_count_1 : decode cX0_count 1 = .ok (.istore 4, 2) := by decide +kernel
theorem dX0_count_3 : decode cX0_count 3 = .ok (.iconst 0, 1) := by decide +kernel
theorem dX0_count_4 : decode cX0_count 4 = .ok (.istore 5, 2) := by decide +kernel
theorem dX0_count_6 : decode cX0_count 6 = .ok (.iload 5, 2) := by decide +kernel
theorem dX0_count_8 : decode cX0_count 8 = .ok (.aload_n 0, 1) := by decide +kernel
theorem dX0_count_9 : decode cX0_count 9 = .ok (.invokevirtual 46, 3) := by decide +kernel
theorem dX0_count_12 : decode cX0_count 12 = .ok (.if_icmp .ge 22, 3) := by decide +kernel
theorem dX0_count_15 : decode cX0_count 15 = .ok (.lload_n 1, 1) := by decide +kernel
theorem dX0_count_16 : decode cX0_count 16 = .ok (.iload 5, 2) := by decide +kernel
theorem dX0_count_18 : decode cX0_count 18 = .ok (.invokestatic 98, 3) := by decide +kernel
theorem dX0_count_21 : decode cX0_count 21 = .ok (.iload_n 3, 1) := by decide +kernel
theorem dX0_count_22 : decode cX0_count 22 = .ok (.if_icmp .ne 6, 3) := by decide +kernel
theorem dX0_count_25 : decode cX0_count 25 = .ok (.iinc 4 1, 3) := by decide +kernel
theorem dX0_count_28 : decode cX0_count 28 = .ok (.iinc 5 1, 3) := by decide +kernel
theorem dX0_count_31 : decode cX0_count 31 = .ok (.goto (-25), 3) := by decide +kernel
theorem dX0_count_34 : decode cX0_count 34 = .ok (.iload 4, 2) := by decide +kernel
theorem dX0_count_36 : decode cX0_count 36 = .ok (.ireturn, 1) := by decide +kernel
theorem dX0_placeOf_0 : decode cX0_placeOf 0 = .ok (.iconst 0, 1) := by decide +kernel
theorem dX0_placeOf_1 : decode cX0_placeOf 1 = .ok (.istore 4, 2) := by decide +kernel
theorem dX0_placeOf_3 : decode cX0_placeOf 3 = .ok (.iload 4, 2) := by decide +kernel
theorem dX0_placeOf_5 : decode cX0_placeOf 5 = .ok (.aload_n 0, 1) := by decide +kernel
theorem dX0_placeOf_6 : decode cX0_placeOf 6 = .ok (.invokevirtual 46, 3) := by decide +kernel
theorem dX0_placeOf_9 : decode cX0_placeOf 9 = .ok (.if_icmp .ge 22, 3) := by decide +kernel
theorem dX0_placeOf_12 : decode cX0_placeOf 12 = .ok (.lload_n 1, 1) := by decide +kernel
theorem dX0_placeOf_13 : decode cX0_placeOf 13 = .ok (.iload 4, 2) := by decide +kernel
theorem dX0_placeOf_15 : decode cX0_placeOf 15 = .ok (.invokestatic 98, 3) := by decide +kernel
theorem dX0_placeOf_18 : decode cX0_placeOf 18 = .ok (.iload_n 3, 1) := by decide +kernel
theorem dX0_placeOf_19 : decode cX0_placeOf 19 = .ok (.if_icmp .ne 6, 3) := by decide +kernel
theorem dX0_placeOf_22 : decode cX0_placeOf 22 = .ok (.iload 4, 2) := by decide +kernel
theorem dX0_placeOf_24 : decode cX0_placeOf 24 = .ok (.ireturn, 1) := by decide +kernel
theorem dX0_placeOf_25 : decode cX0_placeOf 25 = .ok (.iinc 4 1, 3) := by decide +kernel
theorem dX0_placeOf_28 : decode cX0_placeOf 28 = .ok (.goto (-25), 3) := by decide +kernel
theorem dX0_placeOf_31 : decode cX0_placeOf 31 = .ok (.iconst (-1), 1) := by decide +kernel
theorem dX0_placeOf_32 : decode cX0_placeOf 32 = .ok (.ireturn, 1) := by decide +kernel
theorem dX0_unlikeLetters_0 : decode cX0_unlikeLetters 0 = .ok (.iconst 0, 1) := by decide +kernel
theorem dX0_unlikeLetters_1 : decode cX0_unlikeLetters 1 = .ok (.istore_n 1, 1) := by decide +kernel
theorem dX0_unlikeLetters_2 : decode cX0_unlikeLetters 2 = .ok (.iconst 0, 1) := by decide +kernel
theorem dX0_unlikeLetters_3 : decode cX0_unlikeLetters 3 = .ok (.istore_n 2, 1) := by decide +kernel
theorem dX0_unlikeLetters_4 : decode cX0_unlikeLetters 4 = .ok (.iload_n 2, 1) := by decide +kernel
theorem dX0_unlikeLetters_5 : decode cX0_unlikeLetters 5 = .ok (.bipush 12, 2) := by decide +kernel
theorem dX0_unlikeLetters_7 : decode cX0_unlikeLetters 7 = .ok (.if_icmp .ge 24, 3) := by decide +kernel
theorem dX0_unlikeLetters_10 : decode cX0_unlikeLetters 10 = .ok (.aload_n 0, 1) := by decide +kernel
theorem dX0_unlikeLetters_11 : decode cX0_unlikeLetters 11 = .ok (.aload_n 0, 1) := by decide +kernel
theorem dX0_unlikeLetters_12 : decode cX0_unlikeLetters 12 = .ok (.getfield 18, 3) := by decide +kernel
theorem dX0_unlikeLetters_15 : decode cX0_unlikeLetters 15 = .ok (.iload_n 2, 1) := by decide +kernel
theorem dX0_unlikeLetters_16 : decode cX0_unlikeLetters 16 = .ok (.invokevirtual 109, 3) := by decide +kernel
theorem dX0_unlikeLetters_19 : decode cX0_unlikeLetters 19 = .ok (.ifCond .le 6, 3) := by decide +kernel
theorem dX0_unlikeLetters_22 : decode cX0_unlikeLetters 22 = .ok (.iinc 1 1, 3) := by decide +kernel
theorem dX0_unlikeLetters_25 : decode cX0_unlikeLetters 25 = .ok (.iinc 2 1, 3) := by decide +kernel
theorem dX0_unlikeLetters_28 : decode cX0_unlikeLetters 28 = .ok (.goto (-24), 3) := by decide +kernel
theorem dX0_unlikeLetters_31 : decode cX0_unlikeLetters 31 = .ok (.iload_n 1, 1) := by decide +kernel
theorem dX0_unlikeLetters_32 : decode cX0_unlikeLetters 32 = .ok (.ireturn, 1) := by decide +kernel
theorem dX0_areAllUnlike_0 : decode cX0_areAllUnlike 0 = .ok (.aload_n 0, 1) := by decide +kernel
theorem dX0_areAllUnlike_1 : decode cX0_areAllUnlike 1 = .ok (.invokevirtual 112, 3) := by decide +kernel
theorem dX0_areAllUnlike_4 : decode cX0_areAllUnlike 4 = .ok (.aload_n 0, 1) := by decide +kernel
theorem dX0_areAllUnlike_5 : decode cX0_areAllUnlike 5 = .ok (.invokevirtual 46, 3) := by decide +kernel
theorem dX0_areAllUnlike_8 : decode cX0_areAllUnlike 8 = .ok (.if_icmp .ne 7, 3) := by decide +kernel
theorem dX0_areAllUnlike_11 : decode cX0_areAllUnlike 11 = .ok (.iconst 1, 1) := by decide +kernel
theorem dX0_areAllUnlike_12 : decode cX0_areAllUnlike 12 = .ok (.goto 4, 3) := by decide +kernel
theorem dX0_areAllUnlike_15 : decode cX0_areAllUnlike 15 = .ok (.iconst 0, 1) := by decide +kernel
theorem dX0_areAllUnlike_16 : decode cX0_areAllUnlike 16 = .ok (.ireturn, 1) := by decide +kernel
theorem dX0_hasSameLetters_0 : decode cX0_hasSameLetters 0 = .ok (.aload_n 0, 1) := by decide +kernel
theorem dX0_hasSameLetters_1 : decode cX0_hasSameLetters 1 = .ok (.invokevirtual 115, 3) := by decide +kernel
theorem dX0_hasSameLetters_4 : decode cX0_hasSameLetters 4 = .ok (.istore_n 1, 1) := by decide +kernel
theorem dX0_hasSameLetters_5 : decode cX0_hasSameLetters 5 = .ok (.iconst 0, 1) := by decide +kernel
theorem dX0_hasSameLetters_6 : decode cX0_hasSameLetters 6 = .ok (.istore_n 2, 1) := by decide +kernel
theorem dX0_hasSameLetters_7 : decode cX0_hasSameLetters 7 = .ok (.iload_n 2, 1) := by decide +kernel
theorem dX0_hasSameLetters_8 : decode cX0_hasSameLetters 8 = .ok (.aload_n 0, 1) := by decide +kernel
theorem dX0_hasSameLetters_9 : decode cX0_hasSameLetters 9 = .ok (.invokevirtual 46, 3) := by decide +kernel
theorem dX0_hasSameLetters_12 : decode cX0_hasSameLetters 12 = .ok (.if_icmp .ge 39, 3) := by decide +kernel
theorem dX0_hasSameLetters_15 : decode cX0_hasSameLetters 15 = .ok (.iload_n 1, 1) := by decide +kernel
theorem dX0_hasSameLetters_16 : decode cX0_hasSameLetters 16 = .ok (.ifCond .eq 27, 3) := by decide +kernel
theorem dX0_hasSameLetters_19 : decode cX0_hasSameLetters 19 = .ok (.aload_n 0, 1) := by decide +kernel
theorem dX0_hasSameLetters_20 : decode cX0_hasSameLetters 20 = .ok (.aload_n 0, 1) := by decide +kernel
theorem dX0_hasSameLetters_21 : decode cX0_hasSameLetters 21 = .ok (.getfield 22, 3) := by decide +kernel
theorem dX0_hasSameLetters_24 : decode cX0_hasSameLetters 24 = .ok (.aload_n 0, 1) := by decide +kernel
theorem dX0_hasSameLetters_25 : decode cX0_hasSameLetters 25 = .ok (.getfield 18, 3) := by decide +kernel
theorem dX0_hasSameLetters_28 : decode cX0_hasSameLetters 28 = .ok (.iload_n 2, 1) := by decide +kernel
theorem dX0_hasSameLetters_29 : decode cX0_hasSameLetters 29 = .ok (.invokestatic 98, 3) := by decide +kernel
theorem dX0_hasSameLetters_32 : decode cX0_hasSameLetters 32 = .ok (.invokevirtual 109, 3) := by decide +kernel
theorem dX0_hasSameLetters_35 : decode cX0_hasSameLetters 35 = .ok (.iconst 1, 1) := by decide +kernel
theorem dX0_hasSameLetters_36 : decode cX0_hasSameLetters 36 = .ok (.if_icmp .ne 7, 3) := by decide +kernel
theorem dX0_hasSameLetters_39 : decode cX0_hasSameLetters 39 = .ok (.iconst 1, 1) := by decide +kernel
theorem dX0_hasSameLetters_40 : decode cX0_hasSameLetters 40 = .ok (.goto 4, 3) := by decide +kernel
theorem dX0_hasSameLetters_43 : decode cX0_hasSameLetters 43 = .ok (.iconst 0, 1) := by decide +kernel
theorem dX0_hasSameLetters_44 : decode cX0_hasSameLetters 44 = .ok (.istore_n 1, 1) := by decide +kernel
theorem dX0_hasSameLetters_45 : decode cX0_hasSameLetters 45 = .ok (.iinc 2 1, 3) := by decide +kernel
theorem dX0_hasSameLetters_48 : decode cX0_hasSameLetters 48 = .ok (.goto (-41), 3) := by decide +kernel
theorem dX0_hasSameLetters_51 : decode cX0_hasSameLetters 51 = .ok (.iload_n 1, 1) := by decide +kernel
theorem dX0_hasSameLetters_52 : decode cX0_hasSameLetters 52 = .ok (.ireturn, 1) := by decide +kernel
theorem dX0_isBeyondReach_0 : decode cX0_isBeyondReach 0 = .ok (.iconst 0, 1) := by decide +kernel
theorem dX0_isBeyondReach_1 : decode cX0_isBeyondReach 1 = .ok (.istore_n 1, 1) := by decide +kernel
theorem dX0_isBeyondReach_2 : decode cX0_isBeyondReach 2 = .ok (.iload_n 1, 1) := by decide +kernel
theorem dX0_isBeyondReach_3 : decode cX0_isBeyondReach 3 = .ok (.bipush 12, 2) := by decide +kernel
theorem dX0_isBeyondReach_5 : decode cX0_isBeyondReach 5 = .ok (.if_icmp .ge 32, 3) := by decide +kernel
theorem dX0_isBeyondReach_8 : decode cX0_isBeyondReach 8 = .ok (.aload_n 0, 1) := by decide +kernel
theorem dX0_isBeyondReach_9 : decode cX0_isBeyondReach 9 = .ok (.aload_n 0, 1) := by decide +kernel
theorem dX0_isBeyondReach_10 : decode cX0_isBeyondReach 10 = .ok (.getfield 22, 3) := by decide +kernel
theorem dX0_isBeyondReach_13 : decode cX0_isBeyondReach 13 = .ok (.iload_n 1, 1) := by decide +kernel
theorem dX0_isBeyondReach_14 : decode cX0_isBeyondReach 14 = .ok (.invokevirtual 109, 3) := by decide +kernel
theorem dX0_isBeyondReach_17 : decode cX0_isBeyondReach 17 = .ok (.aload_n 0, 1) := by decide +kernel
theorem dX0_isBeyondReach_18 : decode cX0_isBeyondReach 18 = .ok (.aload_n 0, 1) := by decide +kernel
theorem dX0_isBeyondReach_19 : decode cX0_isBeyondReach 19 = .ok (.getfield 18, 3) := by decide +kernel
theorem dX0_isBeyondReach_22 : decode cX0_isBeyondReach 22 = .ok (.iload_n 1, 1) := by decide +kernel
theorem dX0_isBeyondReach_23 : decode cX0_isBeyondReach 23 = .ok (.invokevirtual 109, 3) := by decide +kernel
theorem dX0_isBeyondReach_26 : decode cX0_isBeyondReach 26 = .ok (.if_icmp .le 5, 3) := by decide +kernel
theorem dX0_isBeyondReach_29 : decode cX0_isBeyondReach 29 = .ok (.iconst 1, 1) := by decide +kernel
theorem dX0_isBeyondReach_30 : decode cX0_isBeyondReach 30 = .ok (.ireturn, 1) := by decide +kernel
theorem dX0_isBeyondReach_31 : decode cX0_isBeyondReach 31 = .ok (.iinc 1 1, 3) := by decide +kernel
theorem dX0_isBeyondReach_34 : decode cX0_isBeyondReach 34 = .ok (.goto (-32), 3) := by decide +kernel
theorem dX0_isBeyondReach_37 : decode cX0_isBeyondReach 37 = .ok (.aload_n 0, 1) := by decide +kernel
theorem dX0_isBeyondReach_38 : decode cX0_isBeyondReach 38 = .ok (.getfield 9, 3) := by decide +kernel
theorem dX0_isBeyondReach_41 : decode cX0_isBeyondReach 41 = .ok (.iconst 3, 1) := by decide +kernel
theorem dX0_isBeyondReach_42 : decode cX0_isBeyondReach 42 = .ok (.if_icmp .ne 15, 3) := by decide +kernel
theorem dX0_isBeyondReach_45 : decode cX0_isBeyondReach 45 = .ok (.aload_n 0, 1) := by decide +kernel
theorem dX0_isBeyondReach_46 : decode cX0_isBeyondReach 46 = .ok (.getfield 15, 3) := by decide +kernel
theorem dX0_isBeyondReach_49 : decode cX0_isBeyondReach 49 = .ok (.iconst 3, 1) := by decide +kernel
theorem dX0_isBeyondReach_50 : decode cX0_isBeyondReach 50 = .ok (.if_icmp .ne 7, 3) := by decide +kernel
theorem dX0_isBeyondReach_53 : decode cX0_isBeyondReach 53 = .ok (.iconst 1, 1) := by decide +kernel
theorem dX0_isBeyondReach_54 : decode cX0_isBeyondReach 54 = .ok (.goto 4, 3) := by decide +kernel
theorem dX0_isBeyondReach_57 : decode cX0_isBeyondReach 57 = .ok (.iconst 0, 1) := by decide +kernel
theorem dX0_isBeyondReach_58 : decode cX0_isBeyondReach 58 = .ok (.istore_n 1, 1) := by decide +kernel
theorem dX0_isBeyondReach_59 : decode cX0_isBeyondReach 59 = .ok (.iload_n 1, 1) := by decide +kernel
theorem dX0_isBeyondReach_60 : decode cX0_isBeyondReach 60 = .ok (.ifCond .eq 24, 3) := by decide +kernel
theorem dX0_isBeyondReach_63 : decode cX0_isBeyondReach 63 = .ok (.aload_n 0, 1) := by decide +kernel
theorem dX0_isBeyondReach_64 : decode cX0_isBeyondReach 64 = .ok (.invokevirtual 115, 3) := by decide +kernel
theorem dX0_isBeyondReach_67 : decode cX0_isBeyondReach 67 = .ok (.ifCond .eq 17, 3) := by decide +kernel
theorem dX0_isBeyondReach_70 : decode cX0_isBeyondReach 70 = .ok (.aload_n 0, 1) := by decide +kernel
theorem dX0_isBeyondReach_71 : decode cX0_isBeyondReach 71 = .ok (.aload_n 0, 1) := by decide +kernel
theorem dX0_isBeyondReach_72 : decode cX0_isBeyondReach 72 = .ok (.getfield 22, 3) := by decide +kernel
theorem dX0_isBeyondReach_75 : decode cX0_isBeyondReach 75 = .ok (.bipush 12, 2) := by decide +kernel
theorem dX0_isBeyondReach_77 : decode cX0_isBeyondReach 77 = .ok (.invokevirtual 109, 3) := by decide +kernel
theorem dX0_isBeyondReach_80 : decode cX0_isBeyondReach 80 = .ok (.iconst 1, 1) := by decide +kernel
theorem dX0_isBeyondReach_81 : decode cX0_isBeyondReach 81 = .ok (.if_icmp .le 5, 3) := by decide +kernel
theorem dX0_isBeyondReach_84 : decode cX0_isBeyondReach 84 = .ok (.iconst 0, 1) := by decide +kernel
theorem dX0_isBeyondReach_85 : decode cX0_isBeyondReach 85 = .ok (.ireturn, 1) := by decide +kernel
theorem dX0_isBeyondReach_86 : decode cX0_isBeyondReach 86 = .ok (.aload_n 0, 1) := by decide +kernel
theorem dX0_isBeyondReach_87 : decode cX0_isBeyondReach 87 = .ok (.aload_n 0, 1) := by decide +kernel
theorem dX0_isBeyondReach_88 : decode cX0_isBeyondReach 88 = .ok (.invokevirtual 118, 3) := by decide +kernel
theorem dX0_isBeyondReach_91 : decode cX0_isBeyondReach 91 = .ok (.invokevirtual 122, 3) := by decide +kernel
theorem dX0_isBeyondReach_94 : decode cX0_isBeyondReach 94 = .ok (.ireturn, 1) := by decide +kernel
theorem dX0_filledAim_0 : decode cX0_filledAim 0 = .ok (.aload_n 0, 1) := by decide +kernel
theorem dX0_filledAim_1 : decode cX0_filledAim 1 = .ok (.aload_n 0, 1) := by decide +kernel
theorem dX0_filledAim_2 : decode cX0_filledAim 2 = .ok (.getfield 22, 3) := by decide +kernel
theorem dX0_filledAim_5 : decode cX0_filledAim 5 = .ok (.bipush 12, 2) := by decide +kernel
theorem dX0_filledAim_7 : decode cX0_filledAim 7 = .ok (.invokevirtual 125, 3) := by decide +kernel
theorem dX0_filledAim_10 : decode cX0_filledAim 10 = .ok (.istore_n 1, 1) := by decide +kernel
theorem dX0_filledAim_11 : decode cX0_filledAim 11 = .ok (.iconst 0, 1) := by decide +kernel
theorem dX0_filledAim_12 : decode cX0_filledAim 12 = .ok (.istore_n 2, 1) := by decide +kernel
theorem dX0_filledAim_13 : decode cX0_filledAim 13 = .ok (.iload_n 2, 1) := by decide +kernel
theorem dX0_filledAim_14 : decode cX0_filledAim 14 = .ok (.bipush 12, 2) := by decide +kernel
theorem dX0_filledAim_16 : decode cX0_filledAim 16 = .ok (.if_icmp .ge 44, 3) := by decide +kernel
theorem dX0_filledAim_19 : decode cX0_filledAim 19 = .ok (.iload_n 1, 1) := by decide +kernel
theorem dX0_filledAim_20 : decode cX0_filledAim 20 = .ok (.ifCond .lt 40, 3) := by decide +kernel
theorem dX0_filledAim_23 : decode cX0_filledAim 23 = .ok (.aload_n 0, 1) := by decide +kernel
theorem dX0_filledAim_24 : decode cX0_filledAim 24 = .ok (.aload_n 0, 1) := by decide +kernel
theorem dX0_filledAim_25 : decode cX0_filledAim 25 = .ok (.getfield 18, 3) := by decide +kernel
theorem dX0_filledAim_28 : decode cX0_filledAim 28 = .ok (.iload_n 2, 1) := by decide +kernel
theorem dX0_filledAim_29 : decode cX0_filledAim 29 = .ok (.invokevirtual 109, 3) := by decide +kernel
theorem dX0_filledAim_32 : decode cX0_filledAim 32 = .ok (.aload_n 0, 1) := by decide +kernel
theorem dX0_filledAim_33 : decode cX0_filledAim 33 = .ok (.aload_n 0, 1) := by decide +kernel
theorem dX0_filledAim_34 : decode cX0_filledAim 34 = .ok (.getfield 22, 3) := by decide +kernel
theorem dX0_filledAim_37 : decode cX0_filledAim 37 = .ok (.iload_n 2, 1) := by decide +kernel
theorem dX0_filledAim_38 : decode cX0_filledAim 38 = .ok (.invokevirtual 109, 3) := by decide +kernel
theorem dX0_filledAim_41 : decode cX0_filledAim 41 = .ok (.if_icmp .le 13, 3) := by decide +kernel
theorem dX0_filledAim_44 : decode cX0_filledAim 44 = .ok (.aload_n 0, 1) := by decide +kernel
theorem dX0_filledAim_45 : decode cX0_filledAim 45 = .ok (.getfield 22, 3) := by decide +kernel
theorem dX0_filledAim_48 : decode cX0_filledAim 48 = .ok (.iload_n 1, 1) := by decide +kernel
theorem dX0_filledAim_49 : decode cX0_filledAim 49 = .ok (.iload_n 2, 1) := by decide +kernel
theorem dX0_filledAim_50 : decode cX0_filledAim 50 = .ok (.invokestatic 50, 3) := by decide +kernel
theorem dX0_filledAim_53 : decode cX0_filledAim 53 = .ok (.lreturn, 1) := by decide +kernel
theorem dX0_filledAim_54 : decode cX0_filledAim 54 = .ok (.iinc 2 1, 3) := by decide +kernel
theorem dX0_filledAim_57 : decode cX0_filledAim 57 = .ok (.goto (-44), 3) := by decide +kernel
theorem dX0_filledAim_60 : decode cX0_filledAim 60 = .ok (.aload_n 0, 1) := by decide +kernel
theorem dX0_filledAim_61 : decode cX0_filledAim 61 = .ok (.getfield 22, 3) := by decide +kernel
theorem dX0_filledAim_64 : decode cX0_filledAim 64 = .ok (.lreturn, 1) := by decide +kernel
theorem dX0_isOddByCycles_0 : decode cX0_isOddByCycles 0 = .ok (.iconst 0, 1) := by decide +kernel
theorem dX0_isOddByCycles_1 : decode cX0_isOddByCycles 1 = .ok (.istore_n 3, 1) := by decide +kernel
theorem dX0_isOddByCycles_2 : decode cX0_isOddByCycles 2 = .ok (.iconst 0, 1) := by decide +kernel
theorem dX0_isOddByCycles_3 : decode cX0_isOddByCycles 3 = .ok (.istore 4, 2) := by decide +kernel
theorem dX0_isOddByCycles_5 : decode cX0_isOddByCycles 5 = .ok (.iconst 0, 1) := by decide +kernel
theorem dX0_isOddByCycles_6 : decode cX0_isOddByCycles 6 = .ok (.istore 5, 2) := by decide +kernel
theorem dX0_isOddByCycles_8 : decode cX0_isOddByCycles 8 = .ok (.iload 5, 2) := by decide +kernel
theorem dX0_isOddByCycles_10 : decode cX0_isOddByCycles 10 = .ok (.aload_n 0, 1) := by decide +kernel
theorem dX0_isOddByCycles_11 : decode cX0_isOddByCycles 11 = .ok (.invokevirtual 46, 3) := by decide +kernel
theorem dX0_isOddByCycles_14 : decode cX0_isOddByCycles 14 = .ok (.if_icmp .ge 80, 3) := by decide +kernel
theorem dX0_isOddByCycles_17 : decode cX0_isOddByCycles 17 = .ok (.iload_n 3, 1) := by decide +kernel
theorem dX0_isOddByCycles_18 : decode cX0_isOddByCycles 18 = .ok (.iload 5, 2) := by decide +kernel
theorem dX0_isOddByCycles_20 : decode cX0_isOddByCycles 20 = .ok (.ishr, 1) := by decide +kernel
theorem dX0_isOddByCycles_21 : decode cX0_isOddByCycles 21 = .ok (.iconst 1, 1) := by decide +kernel
theorem dX0_isOddByCycles_22 : decode cX0_isOddByCycles 22 = .ok (.iand, 1) := by decide +kernel
theorem dX0_isOddByCycles_23 : decode cX0_isOddByCycles 23 = .ok (.ifCond .ne 6, 3) := by decide +kernel
theorem dX0_isOddByCycles_26 : decode cX0_isOddByCycles 26 = .ok (.iinc 4 1, 3) := by decide +kernel
theorem dX0_isOddByCycles_29 : decode cX0_isOddByCycles 29 = .ok (.iload 5, 2) := by decide +kernel
theorem dX0_isOddByCycles_31 : decode cX0_isOddByCycles 31 = .ok (.istore 6, 2) := by decide +kernel
theorem dX0_isOddByCycles_33 : decode cX0_isOddByCycles 33 = .ok (.iconst 0, 1) := by decide +kernel
theorem dX0_isOddByCycles_34 : decode cX0_isOddByCycles 34 = .ok (.istore 7, 2) := by decide +kernel
theorem dX0_isOddByCycles_36 : decode cX0_isOddByCycles 36 = .ok (.iload 7, 2) := by decide +kernel
theorem dX0_isOddByCycles_38 : decode cX0_isOddByCycles 38 = .ok (.aload_n 0, 1) := by decide +kernel
theorem dX0_isOddByCycles_39 : decode cX0_isOddByCycles 39 = .ok (.invokevirtual 46, 3) := by decide +kernel
theorem dX0_isOddByCycles_42 : decode cX0_isOddByCycles 42 = .ok (.if_icmp .ge 46, 3) := by decide +kernel
theorem dX0_isOddByCycles_45 : decode cX0_isOddByCycles 45 = .ok (.iload 6, 2) := by decide +kernel
theorem dX0_isOddByCycles_47 : decode cX0_isOddByCycles 47 = .ok (.ifCond .lt 41, 3) := by decide +kernel
theorem dX0_isOddByCycles_50 : decode cX0_isOddByCycles 50 = .ok (.iload_n 3, 1) := by decide +kernel
theorem dX0_isOddByCycles_51 : decode cX0_isOddByCycles 51 = .ok (.iload 6, 2) := by decide +kernel
theorem dX0_isOddByCycles_53 : decode cX0_isOddByCycles 53 = .ok (.ishr, 1) := by decide +kernel
theorem dX0_isOddByCycles_54 : decode cX0_isOddByCycles 54 = .ok (.iconst 1, 1) := by decide +kernel
theorem dX0_isOddByCycles_55 : decode cX0_isOddByCycles 55 = .ok (.iand, 1) := by decide +kernel
theorem dX0_isOddByCycles_56 : decode cX0_isOddByCycles 56 = .ok (.ifCond .ne 32, 3) := by decide +kernel
theorem dX0_isOddByCycles_59 : decode cX0_isOddByCycles 59 = .ok (.iload_n 3, 1) := by decide +kernel
theorem dX0_isOddByCycles_60 : decode cX0_isOddByCycles 60 = .ok (.iconst 1, 1) := by decide +kernel
theorem dX0_isOddByCycles_61 : decode cX0_isOddByCycles 61 = .ok (.iload 6, 2) := by decide +kernel
theorem dX0_isOddByCycles_63 : decode cX0_isOddByCycles 63 = .ok (.ishl, 1) := by decide +kernel
theorem dX0_isOddByCycles_64 : decode cX0_isOddByCycles 64 = .ok (.ior, 1) := by decide +kernel
theorem dX0_isOddByCycles_65 : decode cX0_isOddByCycles 65 = .ok (.istore_n 3, 1) := by decide +kernel
theorem dX0_isOddByCycles_66 : decode cX0_isOddByCycles 66 = .ok (.aload_n 0, 1) := by decide +kernel
theorem dX0_isOddByCycles_67 : decode cX0_isOddByCycles 67 = .ok (.lload_n 1, 1) := by decide +kernel
theorem dX0_isOddByCycles_68 : decode cX0_isOddByCycles 68 = .ok (.aload_n 0, 1) := by decide +kernel
theorem dX0_isOddByCycles_69 : decode cX0_isOddByCycles 69 = .ok (.getfield 18, 3) := by decide +kernel
theorem dX0_isOddByCycles_72 : decode cX0_isOddByCycles 72 = .ok (.iload 6, 2) := by decide +kernel
theorem dX0_isOddByCycles_74 : decode cX0_isOddByCycles 74 = .ok (.invokestatic 98, 3) := by decide +kernel
theorem dX0_isOddByCycles_77 : decode cX0_isOddByCycles 77 = .ok (.invokevirtual 125, 3) := by decide +kernel
theorem dX0_isOddByCycles_80 : decode cX0_isOddByCycles 80 = .ok (.istore 6, 2) := by decide +kernel
theorem dX0_isOddByCycles_82 : decode cX0_isOddByCycles 82 = .ok (.iinc 7 1, 3) := by decide +kernel
theorem dX0_isOddByCycles_85 : decode cX0_isOddByCycles 85 = .ok (.goto (-49), 3) := by decide +kernel
theorem dX0_isOddByCycles_88 : decode cX0_isOddByCycles 88 = .ok (.iinc 5 1, 3) := by decide +kernel
theorem dX0_isOddByCycles_91 : decode cX0_isOddByCycles 91 = .ok (.goto (-83), 3) := by decide +kernel
theorem dX0_isOddByCycles_94 : decode cX0_isOddByCycles 94 = .ok (.aload_n 0, 1) := by decide +kernel
theorem dX0_isOddByCycles_95 : decode cX0_isOddByCycles 95 = .ok (.invokevirtual 46, 3) := by decide +kernel
theorem dX0_isOddByCycles_98 : decode cX0_isOddByCycles 98 = .ok (.iload 4, 2) := by decide +kernel
theorem dX0_isOddByCycles_100 : decode cX0_isOddByCycles 100 = .ok (.isub, 1) := by decide +kernel
theorem dX0_isOddByCycles_101 : decode cX0_isOddByCycles 101 = .ok (.iconst 2, 1) := by decide +kernel
theorem dX0_isOddByCycles_102 : decode cX0_isOddByCycles 102 = .ok (.irem, 1) := by decide +kernel
theorem dX0_isOddByCycles_103 : decode cX0_isOddByCycles 103 = .ok (.ifCond .eq 7, 3) := by decide +kernel
theorem dX0_isOddByCycles_106 : decode cX0_isOddByCycles 106 = .ok (.iconst 1, 1) := by decide +kernel
theorem dX0_isOddByCycles_107 : decode cX0_isOddByCycles 107 = .ok (.goto 4, 3) := by decide +kernel
theorem dX0_isOddByCycles_110 : decode cX0_isOddByCycles 110 = .ok (.iconst 0, 1) := by decide +kernel
theorem dX0_isOddByCycles_111 : decode cX0_isOddByCycles 111 = .ok (.ireturn, 1) := by decide +kernel
theorem dX0_isOddByPairs_0 : decode cX0_isOddByPairs 0 = .ok (.iconst 0, 1) := by decide +kernel
theorem dX0_isOddByPairs_1 : decode cX0_isOddByPairs 1 = .ok (.istore_n 3, 1) := by decide +kernel
theorem dX0_isOddByPairs_2 : decode cX0_isOddByPairs 2 = .ok (.iconst 0, 1) := by decide +kernel
theorem dX0_isOddByPairs_3 : decode cX0_isOddByPairs 3 = .ok (.istore 4, 2) := by decide +kernel
theorem dX0_isOddByPairs_5 : decode cX0_isOddByPairs 5 = .ok (.iload 4, 2) := by decide +kernel
theorem dX0_isOddByPairs_7 : decode cX0_isOddByPairs 7 = .ok (.aload_n 0, 1) := by decide +kernel
theorem dX0_isOddByPairs_8 : decode cX0_isOddByPairs 8 = .ok (.invokevirtual 46, 3) := by decide +kernel
theorem dX0_isOddByPairs_11 : decode cX0_isOddByPairs 11 = .ok (.if_icmp .ge 75, 3) := by decide +kernel
theorem dX0_isOddByPairs_14 : decode cX0_isOddByPairs 14 = .ok (.aload_n 0, 1) := by decide +kernel
theorem dX0_isOddByPairs_15 : decode cX0_isOddByPairs 15 = .ok (.lload_n 1, 1) := by decide +kernel
theorem dX0_isOddByPairs_16 : decode cX0_isOddByPairs 16 = .ok (.aload_n 0, 1) := by decide +kernel
theorem dX0_isOddByPairs_17 : decode cX0_isOddByPairs 17 = .ok (.getfield 18, 3) := by decide +kernel
theorem dX0_isOddByPairs_20 : decode cX0_isOddByPairs 20 = .ok (.iload 4, 2) := by decide +kernel
theorem dX0_isOddByPairs_22 : decode cX0_isOddByPairs 22 = .ok (.invokestatic 98, 3) := by decide +kernel
theorem dX0_isOddByPairs_25 : decode cX0_isOddByPairs 25 = .ok (.invokevirtual 125, 3) := by decide +kernel
theorem dX0_isOddByPairs_28 : decode cX0_isOddByPairs 28 = .ok (.istore 5, 2) := by decide +kernel
theorem dX0_isOddByPairs_30 : decode cX0_isOddByPairs 30 = .ok (.iload 4, 2) := by decide +kernel
theorem dX0_isOddByPairs_32 : decode cX0_isOddByPairs 32 = .ok (.iconst 1, 1) := by decide +kernel
theorem dX0_isOddByPairs_33 : decode cX0_isOddByPairs 33 = .ok (.iadd, 1) := by decide +kernel
theorem dX0_isOddByPairs_34 : decode cX0_isOddByPairs 34 = .ok (.istore 6, 2) := by decide +kernel
theorem dX0_isOddByPairs_36 : decode cX0_isOddByPairs 36 = .ok (.iload 6, 2) := by decide +kernel
theorem dX0_isOddByPairs_38 : decode cX0_isOddByPairs 38 = .ok (.aload_n 0, 1) := by decide +kernel
theorem dX0_isOddByPairs_39 : decode cX0_isOddByPairs 39 = .ok (.invokevirtual 46, 3) := by decide +kernel
theorem dX0_isOddByPairs_42 : decode cX0_isOddByPairs 42 = .ok (.if_icmp .ge 38, 3) := by decide +kernel
theorem dX0_isOddByPairs_45 : decode cX0_isOddByPairs 45 = .ok (.iload 5, 2) := by decide +kernel
theorem dX0_isOddByPairs_47 : decode cX0_isOddByPairs 47 = .ok (.aload_n 0, 1) := by decide +kernel
theorem dX0_isOddByPairs_48 : decode cX0_isOddByPairs 48 = .ok (.lload_n 1, 1) := by decide +kernel
theorem dX0_isOddByPairs_49 : decode cX0_isOddByPairs 49 = .ok (.aload_n 0, 1) := by decide +kernel
theorem dX0_isOddByPairs_50 : decode cX0_isOddByPairs 50 = .ok (.getfield 18, 3) := by decide +kernel
theorem dX0_isOddByPairs_53 : decode cX0_isOddByPairs 53 = .ok (.iload 6, 2) := by decide +kernel
theorem dX0_isOddByPairs_55 : decode cX0_isOddByPairs 55 = .ok (.invokestatic 98, 3) := by decide +kernel
theorem dX0_isOddByPairs_58 : decode cX0_isOddByPairs 58 = .ok (.invokevirtual 125, 3) := by decide +kernel
theorem dX0_isOddByPairs_61 : decode cX0_isOddByPairs 61 = .ok (.if_icmp .le 13, 3) := by decide +kernel
theorem dX0_isOddByPairs_64 : decode cX0_isOddByPairs 64 = .ok (.iload_n 3, 1) := by decide +kernel
theorem dX0_isOddByPairs_65 : decode cX0_isOddByPairs 65 = .ok (.ifCond .ne 7, 3) := by decide +kernel
theorem dX0_isOddByPairs_68 : decode cX0_isOddByPairs 68 = .ok (.iconst 1, 1) := by decide +kernel
theorem dX0_isOddByPairs_69 : decode cX0_isOddByPairs 69 = .ok (.goto 4, 3) := by decide +kernel
theorem dX0_isOddByPairs_72 : decode cX0_isOddByPairs 72 = .ok (.iconst 0, 1) := by decide +kernel
theorem dX0_isOddByPairs_73 : decode cX0_isOddByPairs 73 = .ok (.istore_n 3, 1) := by decide +kernel
theorem dX0_isOddByPairs_74 : decode cX0_isOddByPairs 74 = .ok (.iinc 6 1, 3) := by decide +kernel
theorem dX0_isOddByPairs_77 : decode cX0_isOddByPairs 77 = .ok (.goto (-41), 3) := by decide +kernel
theorem dX0_isOddByPairs_80 : decode cX0_isOddByPairs 80 = .ok (.iinc 4 1, 3) := by decide +kernel
theorem dX0_isOddByPairs_83 : decode cX0_isOddByPairs 83 = .ok (.goto (-78), 3) := by decide +kernel
theorem dX0_isOddByPairs_86 : decode cX0_isOddByPairs 86 = .ok (.iload_n 3, 1) := by decide +kernel
theorem dX0_isOddByPairs_87 : decode cX0_isOddByPairs 87 = .ok (.ireturn, 1) := by decide +kernel
theorem dX0_bestTurn_0 : decode cX0_bestTurn 0 = .ok (.iconst (-1), 1) := by decide +kernel
theorem dX0_bestTurn_1 : decode cX0_bestTurn 1 = .ok (.istore_n 1, 1) := by decide +kernel
theorem dX0_bestTurn_2 : decode cX0_bestTurn 2 = .ok (.iconst (-1), 1) := by decide +kernel
theorem dX0_bestTurn_3 : decode cX0_bestTurn 3 = .ok (.istore_n 2, 1) := by decide +kernel
theorem dX0_bestTurn_4 : decode cX0_bestTurn 4 = .ok (.iconst 0, 1) := by decide +kernel
theorem dX0_bestTurn_5 : decode cX0_bestTurn 5 = .ok (.istore_n 3, 1) := by decide +kernel
theorem dX0_bestTurn_6 : decode cX0_bestTurn 6 = .ok (.iload_n 3, 1) := by decide +kernel
theorem dX0_bestTurn_7 : decode cX0_bestTurn 7 = .ok (.aload_n 0, 1) := by decide +kernel
theorem dX0_bestTurn_8 : decode cX0_bestTurn 8 = .ok (.invokevirtual 57, 3) := by decide +kernel
theorem dX0_bestTurn_11 : decode cX0_bestTurn 11 = .ok (.if_icmp .ge 47, 3) := by decide +kernel
theorem dX0_bestTurn_14 : decode cX0_bestTurn 14 = .ok (.aload_n 0, 1) := by decide +kernel
theorem dX0_bestTurn_15 : decode cX0_bestTurn 15 = .ok (.iload_n 3, 1) := by decide +kernel
theorem dX0_bestTurn_16 : decode cX0_bestTurn 16 = .ok (.invokevirtual 102, 3) := by decide +kernel
theorem dX0_bestTurn_19 : decode cX0_bestTurn 19 = .ok (.ifCond .eq 19, 3) := by decide +kernel
theorem dX0_bestTurn_22 : decode cX0_bestTurn 22 = .ok (.aload_n 0, 1) := by decide +kernel
theorem dX0_bestTurn_23 : decode cX0_bestTurn 23 = .ok (.aload_n 0, 1) := by decide +kernel
theorem dX0_bestTurn_24 : decode cX0_bestTurn 24 = .ok (.aload_n 0, 1) := by decide +kernel
theorem dX0_bestTurn_25 : decode cX0_bestTurn 25 = .ok (.getfield 18, 3) := by decide +kernel
theorem dX0_bestTurn_28 : decode cX0_bestTurn 28 = .ok (.iload_n 3, 1) := by decide +kernel
theorem dX0_bestTurn_29 : decode cX0_bestTurn 29 = .ok (.invokevirtual 86, 3) := by decide +kernel
theorem dX0_bestTurn_32 : decode cX0_bestTurn 32 = .ok (.invokevirtual 128, 3) := by decide +kernel
theorem dX0_bestTurn_35 : decode cX0_bestTurn 35 = .ok (.goto 4, 3) := by decide +kernel
theorem dX0_bestTurn_38 : decode cX0_bestTurn 38 = .ok (.iconst (-1), 1) := by decide +kernel
theorem dX0_bestTurn_39 : decode cX0_bestTurn 39 = .ok (.istore 4, 2) := by decide +kernel
theorem dX0_bestTurn_41 : decode cX0_bestTurn 41 = .ok (.iload 4, 2) := by decide +kernel
theorem dX0_bestTurn_43 : decode cX0_bestTurn 43 = .ok (.iload_n 2, 1) := by decide +kernel
theorem dX0_bestTurn_44 : decode cX0_bestTurn 44 = .ok (.if_icmp .le 8, 3) := by decide +kernel
theorem dX0_bestTurn_47 : decode cX0_bestTurn 47 = .ok (.iload 4, 2) := by decide +kernel
theorem dX0_bestTurn_49 : decode cX0_bestTurn 49 = .ok (.istore_n 2, 1) := by decide +kernel
theorem dX0_bestTurn_50 : decode cX0_bestTurn 50 = .ok (.iload_n 3, 1) := by decide +kernel
theorem dX0_bestTurn_51 : decode cX0_bestTurn 51 = .ok (.istore_n 1, 1) := by decide +kernel
theorem dX0_bestTurn_52 : decode cX0_bestTurn 52 = .ok (.iinc 3 1, 3) := by decide +kernel
theorem dX0_bestTurn_55 : decode cX0_bestTurn 55 = .ok (.goto (-49), 3) := by decide +kernel
theorem dX0_bestTurn_58 : decode cX0_bestTurn 58 = .ok (.iload_n 1, 1) := by decide +kernel
theorem dX0_bestTurn_59 : decode cX0_bestTurn 59 = .ok (.ireturn, 1) := by decide +kernel
theorem dX0_placeBehind_0 : decode cX0_placeBehind 0 = .ok (.ldc2_w 82, 3) := by decide +kernel
theorem dX0_placeBehind_3 : decode cX0_placeBehind 3 = .ok (.iconst 4, 1) := by decide +kernel
theorem dX0_placeBehind_4 : decode cX0_placeBehind 4 = .ok (.iload_n 1, 1) := by decide +kernel
theorem dX0_placeBehind_5 : decode cX0_placeBehind 5 = .ok (.imul, 1) := by decide +kernel
theorem dX0_placeBehind_6 : decode cX0_placeBehind 6 = .ok (.lshl, 1) := by decide +kernel
theorem dX0_placeBehind_7 : decode cX0_placeBehind 7 = .ok (.lstore 4, 2) := by decide +kernel
theorem dX0_placeBehind_9 : decode cX0_placeBehind 9 = .ok (.iconst 0, 1) := by decide +kernel
theorem dX0_placeBehind_10 : decode cX0_placeBehind 10 = .ok (.istore 6, 2) := by decide +kernel
theorem dX0_placeBehind_12 : decode cX0_placeBehind 12 = .ok (.iload 6, 2) := by decide +kernel
theorem dX0_placeBehind_14 : decode cX0_placeBehind 14 = .ok (.iload_n 3, 1) := by decide +kernel
theorem dX0_placeBehind_15 : decode cX0_placeBehind 15 = .ok (.if_icmp .ge 18, 3) := by decide +kernel
theorem dX0_placeBehind_18 : decode cX0_placeBehind 18 = .ok (.aload_n 0, 1) := by decide +kernel
theorem dX0_placeBehind_19 : decode cX0_placeBehind 19 = .ok (.lload 4, 2) := by decide +kernel
theorem dX0_placeBehind_21 : decode cX0_placeBehind 21 = .ok (.iload_n 2, 1) := by decide +kernel
theorem dX0_placeBehind_22 : decode cX0_placeBehind 22 = .ok (.invokevirtual 86, 3) := by decide +kernel
theorem dX0_placeBehind_25 : decode cX0_placeBehind 25 = .ok (.lstore 4, 2) := by decide +kernel
theorem dX0_placeBehind_27 : decode cX0_placeBehind 27 = .ok (.iinc 6 1, 3) := by decide +kernel
theorem dX0_placeBehind_30 : decode cX0_placeBehind 30 = .ok (.goto (-18), 3) := by decide +kernel
theorem dX0_placeBehind_33 : decode cX0_placeBehind 33 = .ok (.aload_n 0, 1) := by decide +kernel
theorem dX0_placeBehind_34 : decode cX0_placeBehind 34 = .ok (.lload 4, 2) := by decide +kernel
theorem dX0_placeBehind_36 : decode cX0_placeBehind 36 = .ok (.bipush 15, 2) := by decide +kernel
theorem dX0_placeBehind_38 : decode cX0_placeBehind 38 = .ok (.invokevirtual 125, 3) := by decide +kernel
theorem dX0_placeBehind_41 : decode cX0_placeBehind 41 = .ok (.ireturn, 1) := by decide +kernel
theorem dX0_distance_0 : decode cX0_distance 0 = .ok (.aload_n 0, 1) := by decide +kernel
theorem dX0_distance_1 : decode cX0_distance 1 = .ok (.iload_n 1, 1) := by decide +kernel
theorem dX0_distance_2 : decode cX0_distance 2 = .ok (.invokevirtual 70, 3) := by decide +kernel
theorem dX0_distance_5 : decode cX0_distance 5 = .ok (.aload_n 0, 1) := by decide +kernel
theorem dX0_distance_6 : decode cX0_distance 6 = .ok (.iload_n 2, 1) := by decide +kernel
theorem dX0_distance_7 : decode cX0_distance 7 = .ok (.invokevirtual 70, 3) := by decide +kernel
theorem dX0_distance_10 : decode cX0_distance 10 = .ok (.isub, 1) := by decide +kernel
theorem dX0_distance_11 : decode cX0_distance 11 = .ok (.invokestatic 132, 3) := by decide +kernel
theorem dX0_distance_14 : decode cX0_distance 14 = .ok (.istore_n 3, 1) := by decide +kernel
theorem dX0_distance_15 : decode cX0_distance 15 = .ok (.aload_n 0, 1) := by decide +kernel
theorem dX0_distance_16 : decode cX0_distance 16 = .ok (.iload_n 1, 1) := by decide +kernel
theorem dX0_distance_17 : decode cX0_distance 17 = .ok (.invokevirtual 137, 3) := by decide +kernel
theorem dX0_distance_20 : decode cX0_distance 20 = .ok (.aload_n 0, 1) := by decide +kernel
theorem dX0_distance_21 : decode cX0_distance 21 = .ok (.iload_n 2, 1) := by decide +kernel
theorem dX0_distance_22 : decode cX0_distance 22 = .ok (.invokevirtual 137, 3) := by decide +kernel
theorem dX0_distance_25 : decode cX0_distance 25 = .ok (.isub, 1) := by decide +kernel
theorem dX0_distance_26 : decode cX0_distance 26 = .ok (.invokestatic 132, 3) := by decide +kernel
theorem dX0_distance_29 : decode cX0_distance 29 = .ok (.istore 4, 2) := by decide +kernel
theorem dX0_distance_31 : decode cX0_distance 31 = .ok (.iload_n 3, 1) := by decide +kernel
theorem dX0_distance_32 : decode cX0_distance 32 = .ok (.aload_n 0, 1) := by decide +kernel
theorem dX0_distance_33 : decode cX0_distance 33 = .ok (.getfield 9, 3) := by decide +kernel
theorem dX0_distance_36 : decode cX0_distance 36 = .ok (.iload_n 3, 1) := by decide +kernel
theorem dX0_distance_37 : decode cX0_distance 37 = .ok (.isub, 1) := by decide +kernel
theorem dX0_distance_38 : decode cX0_distance 38 = .ok (.invokestatic 140, 3) := by decide +kernel
theorem dX0_distance_41 : decode cX0_distance 41 = .ok (.iload 4, 2) := by decide +kernel
theorem dX0_distance_43 : decode cX0_distance 43 = .ok (.aload_n 0, 1) := by decide +kernel
theorem dX0_distance_44 : decode cX0_distance 44 = .ok (.getfield 15, 3) := by decide +kernel
theorem dX0_distance_47 : decode cX0_distance 47 = .ok (.iload 4, 2) := by decide +kernel
theorem dX0_distance_49 : decode cX0_distance 49 = .ok (.isub, 1) := by decide +kernel
theorem dX0_distance_50 : decode cX0_distance 50 = .ok (.invokestatic 140, 3) := by decide +kernel
theorem dX0_distance_53 : decode cX0_distance 53 = .ok (.iadd, 1) := by decide +kernel
theorem dX0_distance_54 : decode cX0_distance 54 = .ok (.ireturn, 1) := by decide +kernel
theorem dX0_isVowelOn_0 : decode cX0_isVowelOn 0 = .ok (.aload_n 0, 1) := by decide +kernel
theorem dX0_isVowelOn_1 : decode cX0_isVowelOn 1 = .ok (.getfield 18, 3) := by decide +kernel
theorem dX0_isVowelOn_4 : decode cX0_isVowelOn 4 = .ok (.aload_n 0, 1) := by decide +kernel
theorem dX0_isVowelOn_5 : decode cX0_isVowelOn 5 = .ok (.iload_n 1, 1) := by decide +kernel
theorem dX0_isVowelOn_6 : decode cX0_isVowelOn 6 = .ok (.iload_n 2, 1) := by decide +kernel
theorem dX0_isVowelOn_7 : decode cX0_isVowelOn 7 = .ok (.invokevirtual 144, 3) := by decide +kernel
theorem dX0_isVowelOn_10 : decode cX0_isVowelOn 10 = .ok (.invokestatic 98, 3) := by decide +kernel
theorem dX0_isVowelOn_13 : decode cX0_isVowelOn 13 = .ok (.invokestatic 147, 3) := by decide +kernel
theorem dX0_isVowelOn_16 : decode cX0_isVowelOn 16 = .ok (.invokestatic 151, 3) := by decide +kernel
theorem dX0_isVowelOn_19 : decode cX0_isVowelOn 19 = .ok (.ireturn, 1) := by decide +kernel
theorem dX0_vowelsOn_0 : decode cX0_vowelsOn 0 = .ok (.iconst 0, 1) := by decide +kernel
theorem dX0_vowelsOn_1 : decode cX0_vowelsOn 1 = .ok (.istore_n 2, 1) := by decide +kernel
theorem dX0_vowelsOn_2 : decode cX0_vowelsOn 2 = .ok (.iconst 0, 1) := by decide +kernel
theorem dX0_vowelsOn_3 : decode cX0_vowelsOn 3 = .ok (.istore_n 3, 1) := by decide +kernel
theorem dX0_vowelsOn_4 : decode cX0_vowelsOn 4 = .ok (.iload_n 3, 1) := by decide +kernel
theorem dX0_vowelsOn_5 : decode cX0_vowelsOn 5 = .ok (.aload_n 0, 1) := by decide +kernel
theorem dX0_vowelsOn_6 : decode cX0_vowelsOn 6 = .ok (.iload_n 1, 1) := by decide +kernel
theorem dX0_vowelsOn_7 : decode cX0_vowelsOn 7 = .ok (.invokevirtual 79, 3) := by decide +kernel
theorem dX0_vowelsOn_10 : decode cX0_vowelsOn 10 = .ok (.if_icmp .ge 21, 3) := by decide +kernel
theorem dX0_vowelsOn_13 : decode cX0_vowelsOn 13 = .ok (.aload_n 0, 1) := by decide +kernel
theorem dX0_vowelsOn_14 : decode cX0_vowelsOn 14 = .ok (.iload_n 1, 1) := by decide +kernel
theorem dX0_vowelsOn_15 : decode cX0_vowelsOn 15 = .ok (.iload_n 3, 1) := by decide +kernel
theorem dX0_vowelsOn_16 : decode cX0_vowelsOn 16 = .ok (.invokevirtual 155, 3) := by decide +kernel
theorem dX0_vowelsOn_19 : decode cX0_vowelsOn 19 = .ok (.ifCond .eq 6, 3) := by decide +kernel
theorem dX0_vowelsOn_22 : decode cX0_vowelsOn 22 = .ok (.iinc 2 1, 3) := by decide +kernel
theorem dX0_vowelsOn_25 : decode cX0_vowelsOn 25 = .ok (.iinc 3 1, 3) := by decide +kernel
theorem dX0_vowelsOn_28 : decode cX0_vowelsOn 28 = .ok (.goto (-24), 3) := by decide +kernel
theorem dX0_vowelsOn_31 : decode cX0_vowelsOn 31 = .ok (.iload_n 2, 1) := by decide +kernel
theorem dX0_vowelsOn_32 : decode cX0_vowelsOn 32 = .ok (.ireturn, 1) := by decide +kernel
theorem dX0_vowels_0 : decode cX0_vowels 0 = .ok (.iconst 0, 1) := by decide +kernel
theorem dX0_vowels_1 : decode cX0_vowels 1 = .ok (.istore_n 1, 1) := by decide +kernel
theorem dX0_vowels_2 : decode cX0_vowels 2 = .ok (.iconst 0, 1) := by decide +kernel
theorem dX0_vowels_3 : decode cX0_vowels 3 = .ok (.istore_n 2, 1) := by decide +kernel
theorem dX0_vowels_4 : decode cX0_vowels 4 = .ok (.iload_n 2, 1) := by decide +kernel
theorem dX0_vowels_5 : decode cX0_vowels 5 = .ok (.aload_n 0, 1) := by decide +kernel
theorem dX0_vowels_6 : decode cX0_vowels 6 = .ok (.getfield 9, 3) := by decide +kernel
theorem dX0_vowels_9 : decode cX0_vowels 9 = .ok (.if_icmp .ge 17, 3) := by decide +kernel
theorem dX0_vowels_12 : decode cX0_vowels 12 = .ok (.iload_n 1, 1) := by decide +kernel
theorem dX0_vowels_13 : decode cX0_vowels 13 = .ok (.aload_n 0, 1) := by decide +kernel
theorem dX0_vowels_14 : decode cX0_vowels 14 = .ok (.iload_n 2, 1) := by decide +kernel
theorem dX0_vowels_15 : decode cX0_vowels 15 = .ok (.invokevirtual 159, 3) := by decide +kernel
theorem dX0_vowels_18 : decode cX0_vowels 18 = .ok (.iadd, 1) := by decide +kernel
theorem dX0_vowels_19 : decode cX0_vowels 19 = .ok (.istore_n 1, 1) := by decide +kernel
theorem dX0_vowels_20 : decode cX0_vowels 20 = .ok (.iinc 2 1, 3) := by decide +kernel
theorem dX0_vowels_23 : decode cX0_vowels 23 = .ok (.goto (-19), 3) := by decide +kernel
theorem dX0_vowels_26 : decode cX0_vowels 26 = .ok (.iload_n 1, 1) := by decide +kernel
theorem dX0_vowels_27 : decode cX0_vowels 27 = .ok (.ireturn, 1) := by decide +kernel
theorem dX0_hasSong_0 : decode cX0_hasSong 0 = .ok (.aload_n 0, 1) := by decide +kernel
theorem dX0_hasSong_1 : decode cX0_hasSong 1 = .ok (.iload_n 1, 1) := by decide +kernel
theorem dX0_hasSong_2 : decode cX0_hasSong 2 = .ok (.invokevirtual 79, 3) := by decide +kernel
theorem dX0_hasSong_5 : decode cX0_hasSong 5 = .ok (.iconst 1, 1) := by decide +kernel
theorem dX0_hasSong_6 : decode cX0_hasSong 6 = .ok (.isub, 1) := by decide +kernel
theorem dX0_hasSong_7 : decode cX0_hasSong 7 = .ok (.istore_n 2, 1) := by decide +kernel
theorem dX0_hasSong_8 : decode cX0_hasSong 8 = .ok (.iconst 0, 1) := by decide +kernel
theorem dX0_hasSong_9 : decode cX0_hasSong 9 = .ok (.istore_n 3, 1) := by decide +kernel
theorem dX0_hasSong_10 : decode cX0_hasSong 10 = .ok (.iload_n 3, 1) := by decide +kernel
theorem dX0_hasSong_11 : decode cX0_hasSong 11 = .ok (.iload_n 2, 1) := by decide +kernel
theorem dX0_hasSong_12 : decode cX0_hasSong 12 = .ok (.if_icmp .gt 40, 3) := by decide +kernel
theorem dX0_hasSong_15 : decode cX0_hasSong 15 = .ok (.aload_n 0, 1) := by decide +kernel
theorem dX0_hasSong_16 : decode cX0_hasSong 16 = .ok (.iload_n 1, 1) := by decide +kernel
theorem dX0_hasSong_17 : decode cX0_hasSong 17 = .ok (.iload_n 3, 1) := by decide +kernel
theorem dX0_hasSong_18 : decode cX0_hasSong 18 = .ok (.invokevirtual 155, 3) := by decide +kernel
theorem dX0_hasSong_21 : decode cX0_hasSong 21 = .ok (.ifCond .eq 25, 3) := by decide +kernel
theorem dX0_hasSong_24 : decode cX0_hasSong 24 = .ok (.aload_n 0, 1) := by decide +kernel
theorem dX0_hasSong_25 : decode cX0_hasSong 25 = .ok (.iload_n 1, 1) := by decide +kernel
theorem dX0_hasSong_26 : decode cX0_hasSong 26 = .ok (.iload_n 3, 1) := by decide +kernel
theorem dX0_hasSong_27 : decode cX0_hasSong 27 = .ok (.iload_n 2, 1) := by decide +kernel
theorem dX0_hasSong_28 : decode cX0_hasSong 28 = .ok (.if_icmp .ne 7, 3) := by decide +kernel
theorem dX0_hasSong_31 : decode cX0_hasSong 31 = .ok (.iconst 0, 1) := by decide +kernel
theorem dX0_hasSong_32 : decode cX0_hasSong 32 = .ok (.goto 6, 3) := by decide +kernel
theorem dX0_hasSong_35 : decode cX0_hasSong 35 = .ok (.iload_n 3, 1) := by decide +kernel
theorem dX0_hasSong_36 : decode cX0_hasSong 36 = .ok (.iconst 1, 1) := by decide +kernel
theorem dX0_hasSong_37 : decode cX0_hasSong 37 = .ok (.iadd, 1) := by decide +kernel
theorem dX0_hasSong_38 : decode cX0_hasSong 38 = .ok (.invokevirtual 155, 3) := by decide +kernel
theorem dX0_hasSong_41 : decode cX0_hasSong 41 = .ok (.ifCond .eq 5, 3) := by decide +kernel
theorem dX0_hasSong_44 : decode cX0_hasSong 44 = .ok (.iconst 0, 1) := by decide +kernel
theorem dX0_hasSong_45 : decode cX0_hasSong 45 = .ok (.ireturn, 1) := by decide +kernel
theorem dX0_hasSong_46 : decode cX0_hasSong 46 = .ok (.iinc 3 1, 3) := by decide +kernel
theorem dX0_hasSong_49 : decode cX0_hasSong 49 = .ok (.goto (-39), 3) := by decide +kernel
theorem dX0_hasSong_52 : decode cX0_hasSong 52 = .ok (.aload_n 0, 1) := by decide +kernel
theorem dX0_hasSong_53 : decode cX0_hasSong 53 = .ok (.iload_n 1, 1) := by decide +kernel
theorem dX0_hasSong_54 : decode cX0_hasSong 54 = .ok (.invokevirtual 159, 3) := by decide +kernel
theorem dX0_hasSong_57 : decode cX0_hasSong 57 = .ok (.ifCond .le 7, 3) := by decide +kernel
theorem dX0_hasSong_60 : decode cX0_hasSong 60 = .ok (.iconst 1, 1) := by decide +kernel
theorem dX0_hasSong_61 : decode cX0_hasSong 61 = .ok (.goto 4, 3) := by decide +kernel
theorem dX0_hasSong_64 : decode cX0_hasSong 64 = .ok (.iconst 0, 1) := by decide +kernel
theorem dX0_hasSong_65 : decode cX0_hasSong 65 = .ok (.ireturn, 1) := by decide +kernel
theorem dX0_lineByVowels_0 : decode cX0_lineByVowels 0 = .ok (.iconst 0, 1) := by decide +kernel
theorem dX0_lineByVowels_1 : decode cX0_lineByVowels 1 = .ok (.istore_n 2, 1) := by decide +kernel
theorem dX0_lineByVowels_2 : decode cX0_lineByVowels 2 = .ok (.iconst 3, 1) := by decide +kernel
theorem dX0_lineByVowels_3 : decode cX0_lineByVowels 3 = .ok (.istore_n 3, 1) := by decide +kernel
theorem dX0_lineByVowels_4 : decode cX0_lineByVowels 4 = .ok (.iload_n 3, 1) := by decide +kernel
theorem dX0_lineByVowels_5 : decode cX0_lineByVowels 5 = .ok (.ifCond .lt 48, 3) := by decide +kernel
theorem dX0_lineByVowels_8 : decode cX0_lineByVowels 8 = .ok (.iconst 0, 1) := by decide +kernel
theorem dX0_lineByVowels_9 : decode cX0_lineByVowels 9 = .ok (.istore 4, 2) := by decide +kernel
theorem dX0_lineByVowels_11 : decode cX0_lineByVowels 11 = .ok (.iload 4, 2) := by decide +kernel
theorem dX0_lineByVowels_13 : decode cX0_lineByVowels 13 = .ok (.aload_n 0, 1) := by decide +kernel
theorem dX0_lineByVowels_14 : decode cX0_lineByVowels 14 = .ok (.invokevirtual 54, 3) := by decide +kernel
theorem dX0_lineByVowels_17 : decode cX0_lineByVowels 17 = .ok (.if_icmp .ge 30, 3) := by decide +kernel
theorem dX0_lineByVowels_20 : decode cX0_lineByVowels 20 = .ok (.aload_n 0, 1) := by decide +kernel
theorem dX0_lineByVowels_21 : decode cX0_lineByVowels 21 = .ok (.iload 4, 2) := by decide +kernel
theorem dX0_lineByVowels_23 : decode cX0_lineByVowels 23 = .ok (.invokevirtual 159, 3) := by decide +kernel
theorem dX0_lineByVowels_26 : decode cX0_lineByVowels 26 = .ok (.iload_n 3, 1) := by decide +kernel
theorem dX0_lineByVowels_27 : decode cX0_lineByVowels 27 = .ok (.if_icmp .ne 14, 3) := by decide +kernel
theorem dX0_lineByVowels_30 : decode cX0_lineByVowels 30 = .ok (.iload_n 2, 1) := by decide +kernel
theorem dX0_lineByVowels_31 : decode cX0_lineByVowels 31 = .ok (.iload_n 1, 1) := by decide +kernel
theorem dX0_lineByVowels_32 : decode cX0_lineByVowels 32 = .ok (.if_icmp .ne 6, 3) := by decide +kernel
theorem dX0_lineByVowels_35 : decode cX0_lineByVowels 35 = .ok (.iload 4, 2) := by decide +kernel
theorem dX0_lineByVowels_37 : decode cX0_lineByVowels 37 = .ok (.ireturn, 1) := by decide +kernel
theorem dX0_lineByVowels_38 : decode cX0_lineByVowels 38 = .ok (.iinc 2 1, 3) := by decide +kernel
theorem dX0_lineByVowels_41 : decode cX0_lineByVowels 41 = .ok (.iinc 4 1, 3) := by decide +kernel
theorem dX0_lineByVowels_44 : decode cX0_lineByVowels 44 = .ok (.goto (-33), 3) := by decide +kernel
theorem dX0_lineByVowels_47 : decode cX0_lineByVowels 47 = .ok (.iinc 3 (-1), 3) := by decide +kernel
theorem dX0_lineByVowels_50 : decode cX0_lineByVowels 50 = .ok (.goto (-46), 3) := by decide +kernel
theorem dX0_lineByVowels_53 : decode cX0_lineByVowels 53 = .ok (.iconst (-1), 1) := by decide +kernel
theorem dX0_lineByVowels_54 : decode cX0_lineByVowels 54 = .ok (.ireturn, 1) := by decide +kernel
theorem dX1_init_0 : decode cX1_init 0 = .ok (.aload_n 0, 1) := by decide +kernel
theorem dX1_init_1 : decode cX1_init 1 = .ok (.invokespecial 3, 3) := by decide +kernel
theorem dX1_init_4 : decode cX1_init 4 = .ok (.aload_n 0, 1) := by decide +kernel
theorem dX1_init_5 : decode cX1_init 5 = .ok (.sipush 157, 3) := by decide +kernel
theorem dX1_init_8 : decode cX1_init 8 = .ok (.newarray .long, 2) := by decide +kernel
theorem dX1_init_10 : decode cX1_init 10 = .ok (.putfield 9, 3) := by decide +kernel
theorem dX1_init_13 : decode cX1_init 13 = .ok (.aload_n 0, 1) := by decide +kernel
theorem dX1_init_14 : decode cX1_init 14 = .ok (.sipush 157, 3) := by decide +kernel
theorem dX1_init_17 : decode cX1_init 17 = .ok (.newarray .int, 2) := by decide +kernel
theorem dX1_init_19 : decode cX1_init 19 = .ok (.putfield 15, 3) := by decide +kernel
theorem dX1_init_22 : decode cX1_init 22 = .ok (.aload_n 0, 1) := by decide +kernel
theorem dX1_init_23 : decode cX1_init 23 = .ok (.bipush 13, 2) := by decide +kernel
theorem dX1_init_25 : decode cX1_init 25 = .ok (.newarray .long, 2) := by decide +kernel
theorem dX1_init_27 : decode cX1_init 27 = .ok (.putfield 19, 3) := by decide +kernel
theorem dX1_init_30 : decode cX1_init 30 = .ok (.aload_n 0, 1) := by decide +kernel
theorem dX1_init_31 : decode cX1_init 31 = .ok (.bipush 13, 2) := by decide +kernel
theorem dX1_init_33 : decode cX1_init 33 = .ok (.newarray .long, 2) := by decide +kernel
theorem dX1_init_35 : decode cX1_init 35 = .ok (.putfield 22, 3) := by decide +kernel
theorem dX1_init_38 : decode cX1_init 38 = .ok (.aload_n 0, 1) := by decide +kernel
theorem dX1_init_39 : decode cX1_init 39 = .ok (.iconst 0, 1) := by decide +kernel
theorem dX1_init_40 : decode cX1_init 40 = .ok (.putfield 25, 3) := by decide +kernel
theorem dX1_init_43 : decode cX1_init 43 = .ok (.aload_n 0, 1) := by decide +kernel
theorem dX1_init_44 : decode cX1_init 44 = .ok (.iconst 0, 1) := by decide +kernel
theorem dX1_init_45 : decode cX1_init 45 = .ok (.putfield 29, 3) := by decide +kernel
theorem dX1_init_48 : decode cX1_init 48 = .ok (.aload_n 0, 1) := by decide +kernel
theorem dX1_init_49 : decode cX1_init 49 = .ok (.iconst 4, 1) := by decide +kernel
theorem dX1_init_50 : decode cX1_init 50 = .ok (.putfield 32, 3) := by decide +kernel
theorem dX1_init_53 : decode cX1_init 53 = .ok (.aload_n 0, 1) := by decide +kernel
theorem dX1_init_54 : decode cX1_init 54 = .ok (.iconst (-1), 1) := by decide +kernel
theorem dX1_init_55 : decode cX1_init 55 = .ok (.putfield 35, 3) := by decide +kernel
theorem dX1_init_58 : decode cX1_init 58 = .ok (.return_, 1) := by decide +kernel
theorem dX1_search_0 : decode cX1_search 0 = .ok (.aload_n 0, 1) := by decide +kernel
theorem dX1_search_1 : decode cX1_search 1 = .ok (.iconst 4, 1) := by decide +kernel
theorem dX1_search_2 : decode cX1_search 2 = .ok (.putfield 32, 3) := by decide +kernel
theorem dX1_search_5 : decode cX1_search 5 = .ok (.aload_n 0, 1) := by decide +kernel
theorem dX1_search_6 : decode cX1_search 6 = .ok (.iconst (-1), 1) := by decide +kernel
theorem dX1_search_7 : decode cX1_search 7 = .ok (.putfield 35, 3) := by decide +kernel
theorem dX1_search_10 : decode cX1_search 10 = .ok (.aload_n 0, 1) := by decide +kernel
theorem dX1_search_11 : decode cX1_search 11 = .ok (.aload_n 1, 1) := by decide +kernel
theorem dX1_search_12 : decode cX1_search 12 = .ok (.invokevirtual 38, 3) := by decide +kernel
theorem dX1_search_15 : decode cX1_search 15 = .ok (.aload_n 0, 1) := by decide +kernel
theorem dX1_search_16 : decode cX1_search 16 = .ok (.iconst 0, 1) := by decide +kernel
theorem dX1_search_17 : decode cX1_search 17 = .ok (.putfield 25, 3) := by decide +kernel
theorem dX1_search_20 : decode cX1_search 20 = .ok (.aload_n 0, 1) := by decide +kernel
theorem dX1_search_21 : decode cX1_search 21 = .ok (.aload_n 1, 1) := by decide +kernel
theorem dX1_search_22 : decode cX1_search 22 = .ok (.getfield 42, 3) := by decide +kernel
theorem dX1_search_25 : decode cX1_search 25 = .ok (.iconst (-1), 1) := by decide +kernel
theorem dX1_search_26 : decode cX1_search 26 = .ok (.invokevirtual 48, 3) := by decide +kernel
theorem dX1_search_29 : decode cX1_search 29 = .ok (.aload_n 0, 1) := by decide +kernel
theorem dX1_search_30 : decode cX1_search 30 = .ok (.aload_n 1, 1) := by decide +kernel
theorem dX1_search_31 : decode cX1_search 31 = .ok (.iconst 0, 1) := by decide +kernel
theorem dX1_search_32 : decode cX1_search 32 = .ok (.iconst 1, 1) := by decide +kernel
theorem dX1_search_33 : decode cX1_search 33 = .ok (.invokevirtual 52, 3) := by decide +kernel
theorem dX1_search_36 : decode cX1_search 36 = .ok (.aload_n 0, 1) := by decide +kernel
theorem dX1_search_37 : decode cX1_search 37 = .ok (.getfield 25, 3) := by decide +kernel
theorem dX1_search_40 : decode cX1_search 40 = .ok (.istore_n 2, 1) := by decide +kernel
theorem dX1_search_41 : decode cX1_search 41 = .ok (.aload_n 0, 1) := by decide +kernel
theorem dX1_search_42 : decode cX1_search 42 = .ok (.aload_n 1, 1) := by decide +kernel
theorem dX1_search_43 : decode cX1_search 43 = .ok (.iconst 1, 1) := by decide +kernel
theorem dX1_search_44 : decode cX1_search 44 = .ok (.iload_n 2, 1) := by decide +kernel
theorem dX1_search_45 : decode cX1_search 45 = .ok (.invokevirtual 52, 3) := by decide +kernel
theorem dX1_search_48 : decode cX1_search 48 = .ok (.aload_n 0, 1) := by decide +kernel
theorem dX1_search_49 : decode cX1_search 49 = .ok (.iconst 0, 1) := by decide +kernel
theorem dX1_search_50 : decode cX1_search 50 = .ok (.iconst 0, 1) := by decide +kernel
theorem dX1_search_51 : decode cX1_search 51 = .ok (.iconst 1, 1) := by decide +kernel
theorem dX1_search_52 : decode cX1_search 52 = .ok (.iconst 0, 1) := by decide +kernel
theorem dX1_search_53 : decode cX1_search 53 = .ok (.iconst 1, 1) := by decide +kernel
theorem dX1_search_54 : decode cX1_search 54 = .ok (.invokevirtual 56, 3) := by decide +kernel
theorem dX1_search_57 : decode cX1_search 57 = .ok (.ifCond .ne 46, 3) := by decide +kernel
theorem dX1_search_60 : decode cX1_search 60 = .ok (.aload_n 0, 1) := by decide +kernel
theorem dX1_search_61 : decode cX1_search 61 = .ok (.iconst 1, 1) := by decide +kernel
theorem dX1_search_62 : decode cX1_search 62 = .ok (.iconst 1, 1) := by decide +kernel
theorem dX1_search_63 : decode cX1_search 63 = .ok (.iload_n 2, 1) := by decide +kernel
theorem dX1_search_64 : decode cX1_search 64 = .ok (.iconst 0, 1) := by decide +kernel
theorem dX1_search_65 : decode cX1_search 65 = .ok (.iconst 1, 1) := by decide +kernel
theorem dX1_search_66 : decode cX1_search 66 = .ok (.invokevirtual 56, 3) := by decide +kernel
theorem dX1_search_69 : decode cX1_search 69 = .ok (.ifCond .ne 34, 3) := by decide +kernel
theorem dX1_search_72 : decode cX1_search 72 = .ok (.aload_n 0, 1) := by decide +kernel
theorem dX1_search_73 : decode cX1_search 73 = .ok (.iconst 2, 1) := by decide +kernel
theorem dX1_search_74 : decode cX1_search 74 = .ok (.iload_n 2, 1) := by decide +kernel
theorem dX1_search_75 : decode cX1_search 75 = .ok (.aload_n 0, 1) := by decide +kernel
theorem dX1_search_76 : decode cX1_search 76 = .ok (.getfield 25, 3) := by decide +kernel
theorem dX1_search_79 : decode cX1_search 79 = .ok (.iconst 0, 1) := by decide +kernel
theorem dX1_search_80 : decode cX1_search 80 = .ok (.iconst 1, 1) := by decide +kernel
theorem dX1_search_81 : decode cX1_search 81 = .ok (.invokevirtual 56, 3) := by decide +kernel
theorem dX1_search_84 : decode cX1_search 84 = .ok (.ifCond .ne 19, 3) := by decide +kernel
theorem dX1_search_87 : decode cX1_search 87 = .ok (.aload_n 0, 1) := by decide +kernel
theorem dX1_search_88 : decode cX1_search 88 = .ok (.iconst 3, 1) := by decide +kernel
theorem dX1_search_89 : decode cX1_search 89 = .ok (.iload_n 2, 1) := by decide +kernel
theorem dX1_search_90 : decode cX1_search 90 = .ok (.aload_n 0, 1) := by decide +kernel
theorem dX1_search_91 : decode cX1_search 91 = .ok (.getfield 25, 3) := by decide +kernel
theorem dX1_search_94 : decode cX1_search 94 = .ok (.iconst 1, 1) := by decide +kernel
theorem dX1_search_95 : decode cX1_search 95 = .ok (.aload_n 0, 1) := by decide +kernel
theorem dX1_search_96 : decode cX1_search 96 = .ok (.getfield 29, 3) := by decide +kernel
theorem dX1_search_99 : decode cX1_search 99 = .ok (.invokevirtual 56, 3) := by decide +kernel
theorem dX1_search_102 : decode cX1_search 102 = .ok (.pop, 1) := by decide +kernel
theorem dX1_search_103 : decode cX1_search 103 = .ok (.return_, 1) := by decide +kernel
theorem dX1_takeGoalsBack_0 : decode cX1_takeGoalsBack 0 = .ok (.aload_n 1, 1) := by decide +kernel
theorem dX1_takeGoalsBack_1 : decode cX1_takeGoalsBack 1 = .ok (.invokevirtual 60, 3) := by decide +kernel
theorem dX1_takeGoalsBack_4 : decode cX1_takeGoalsBack 4 = .ok (.lstore_n 2, 1) := by decide +kernel
theorem dX1_takeGoalsBack_5 : decode cX1_takeGoalsBack 5 = .ok (.aload_n 0, 1) := by decide +kernel
theorem dX1_takeGoalsBack_6 : decode cX1_takeGoalsBack 6 = .ok (.iconst 0, 1) := by decide +kernel
theorem dX1_takeGoalsBack_7 : decode cX1_takeGoalsBack 7 = .ok (.putfield 29, 3) := by decide +kernel
theorem dX1_takeGoalsBack_10 : decode cX1_takeGoalsBack 10 = .ok (.aload_n 0, 1) := by decide +kernel
theorem dX1_takeGoalsBack_11 : decode cX1_takeGoalsBack 11 = .ok (.aload_n 1, 1) := by decide +kernel
theorem dX1_takeGoalsBack_12 : decode cX1_takeGoalsBack 12 = .ok (.getfield 63, 3) := by decide +kernel
theorem dX1_takeGoalsBack_15 : decode cX1_takeGoalsBack 15 = .ok (.lload_n 2, 1) := by decide +kernel
theorem dX1_takeGoalsBack_16 : decode cX1_takeGoalsBack 16 = .ok (.invokevirtual 66, 3) := by decide +kernel
theorem dX1_takeGoalsBack_19 : decode cX1_takeGoalsBack 19 = .ok (.iconst 0, 1) := by decide +kernel
theorem dX1_takeGoalsBack_20 : decode cX1_takeGoalsBack 20 = .ok (.istore 4, 2) := by decide +kernel
theorem dX1_takeGoalsBack_22 : decode cX1_takeGoalsBack 22 = .ok (.iload 4, 2) := by decide +kernel
theorem dX1_takeGoalsBack_24 : decode cX1_takeGoalsBack 24 = .ok (.aload_n 1, 1) := by decide +kernel
theorem dX1_takeGoalsBack_25 : decode cX1_takeGoalsBack 25 = .ok (.invokevirtual 70, 3) := by decide +kernel
theorem dX1_takeGoalsBack_28 : decode cX1_takeGoalsBack 28 = .ok (.if_icmp .ge 43, 3) := by decide +kernel
theorem dX1_takeGoalsBack_31 : decode cX1_takeGoalsBack 31 = .ok (.aload_n 1, 1) := by decide +kernel
theorem dX1_takeGoalsBack_32 : decode cX1_takeGoalsBack 32 = .ok (.iload 4, 2) := by decide +kernel
theorem dX1_takeGoalsBack_34 : decode cX1_takeGoalsBack 34 = .ok (.invokevirtual 74, 3) := by decide +kernel
theorem dX1_takeGoalsBack_37 : decode cX1_takeGoalsBack 37 = .ok (.ifCond .eq 28, 3) := by decide +kernel
theorem dX1_takeGoalsBack_40 : decode cX1_takeGoalsBack 40 = .ok (.aload_n 0, 1) := by decide +kernel
theorem dX1_takeGoalsBack_41 : decode cX1_takeGoalsBack 41 = .ok (.aload_n 1, 1) := by decide +kernel
theorem dX1_takeGoalsBack_42 : decode cX1_takeGoalsBack 42 = .ok (.aload_n 1, 1) := by decide +kernel
theorem dX1_takeGoalsBack_43 : decode cX1_takeGoalsBack 43 = .ok (.getfield 63, 3) := by decide +kernel
theorem dX1_takeGoalsBack_46 : decode cX1_takeGoalsBack 46 = .ok (.iload 4, 2) := by decide +kernel
theorem dX1_takeGoalsBack_48 : decode cX1_takeGoalsBack 48 = .ok (.iconst 1, 1) := by decide +kernel
theorem dX1_takeGoalsBack_49 : decode cX1_takeGoalsBack 49 = .ok (.ixor, 1) := by decide +kernel
theorem dX1_takeGoalsBack_50 : decode cX1_takeGoalsBack 50 = .ok (.invokevirtual 78, 3) := by decide +kernel
theorem dX1_takeGoalsBack_53 : decode cX1_takeGoalsBack 53 = .ok (.aload_n 1, 1) := by decide +kernel
theorem dX1_takeGoalsBack_54 : decode cX1_takeGoalsBack 54 = .ok (.lload_n 2, 1) := by decide +kernel
theorem dX1_takeGoalsBack_55 : decode cX1_takeGoalsBack 55 = .ok (.iload 4, 2) := by decide +kernel
theorem dX1_takeGoalsBack_57 : decode cX1_takeGoalsBack 57 = .ok (.iconst 1, 1) := by decide +kernel
theorem dX1_takeGoalsBack_58 : decode cX1_takeGoalsBack 58 = .ok (.ixor, 1) := by decide +kernel
theorem dX1_takeGoalsBack_59 : decode cX1_takeGoalsBack 59 = .ok (.invokevirtual 78, 3) := by decide +kernel
theorem dX1_takeGoalsBack_62 : decode cX1_takeGoalsBack 62 = .ok (.invokevirtual 66, 3) := by decide +kernel
theorem dX1_takeGoalsBack_65 : decode cX1_takeGoalsBack 65 = .ok (.iinc 4 1, 3) := by decide +kernel
theorem dX1_takeGoalsBack_68 : decode cX1_takeGoalsBack 68 = .ok (.goto (-46), 3) := by decide +kernel
theorem dX1_takeGoalsBack_71 : decode cX1_takeGoalsBack 71 = .ok (.return_, 1) := by decide +kernel
theorem dX1_addGoal_0 : decode cX1_addGoal 0 = .ok (.aload_n 0, 1) := by decide +kernel
theorem dX1_addGoal_1 : decode cX1_addGoal 1 = .ok (.getfield 29, 3) := by decide +kernel
theorem dX1_addGoal_4 : decode cX1_addGoal 4 = .ok (.ifCond .lt 57, 3) := by decide +kernel
theorem dX1_addGoal_7 : decode cX1_addGoal 7 = .ok (.aload_n 0, 1) := by decide +kernel
theorem dX1_addGoal_8 : decode cX1_addGoal 8 = .ok (.getfield 29, 3) := by decide +kernel
theorem dX1_addGoal_11 : decode cX1_addGoal 11 = .ok (.aload_n 0, 1) := by decide +kernel
theorem dX1_addGoal_12 : decode cX1_addGoal 12 = .ok (.getfield 19, 3) := by decide +kernel
theorem dX1_addGoal_15 : decode cX1_addGoal 15 = .ok (.arraylength, 1) := by decide +kernel
theorem dX1_addGoal_16 : decode cX1_addGoal 16 = .ok (.if_icmp .ge 45, 3) := by decide +kernel
theorem dX1_addGoal_19 : decode cX1_addGoal 19 = .ok (.aload_n 0, 1) := by decide +kernel
theorem dX1_addGoal_20 : decode cX1_addGoal 20 = .ok (.getfield 29, 3) := by decide +kernel
theorem dX1_addGoal_23 : decode cX1_addGoal 23 = .ok (.aload_n 0, 1) := by decide +kernel
theorem dX1_addGoal_24 : decode cX1_addGoal 24 = .ok (.getfield 22, 3) := by decide +kernel
theorem dX1_addGoal_27 : decode cX1_addGoal 27 = .ok (.arraylength, 1) := by decide +kernel
theorem dX1_addGoal_28 : decode cX1_addGoal 28 = .ok (.if_icmp .ge 33, 3) := by decide +kernel
theorem dX1_addGoal_31 : decode cX1_addGoal 31 = .ok (.aload_n 0, 1) := by decide +kernel
theorem dX1_addGoal_32 : decode cX1_addGoal 32 = .ok (.getfield 19, 3) := by decide +kernel
theorem dX1_addGoal_35 : decode cX1_addGoal 35 = .ok (.aload_n 0, 1) := by decide +kernel
theorem dX1_addGoal_36 : decode cX1_addGoal 36 = .ok (.getfield 29, 3) := by decide +kernel
theorem dX1_addGoal_39 : decode cX1_addGoal 39 = .ok (.lload_n 1, 1) := by decide +kernel
theorem dX1_addGoal_40 : decode cX1_addGoal 40 = .ok (.lastore, 1) := by decide +kernel
theorem dX1_addGoal_41 : decode cX1_addGoal 41 = .ok (.aload_n 0, 1) := by decide +kernel
theorem dX1_addGoal_42 : decode cX1_addGoal 42 = .ok (.getfield 22, 3) := by decide +kernel
theorem dX1_addGoal_45 : decode cX1_addGoal 45 = .ok (.aload_n 0, 1) := by decide +kernel
theorem dX1_addGoal_46 : decode cX1_addGoal 46 = .ok (.getfield 29, 3) := by decide +kernel
theorem dX1_addGoal_49 : decode cX1_addGoal 49 = .ok (.lload_n 3, 1) := by decide +kernel
theorem dX1_addGoal_50 : decode cX1_addGoal 50 = .ok (.lastore, 1) := by decide +kernel
theorem dX1_addGoal_51 : decode cX1_addGoal 51 = .ok (.aload_n 0, 1) := by decide +kernel
theorem dX1_addGoal_52 : decode cX1_addGoal 52 = .ok (.dup, 1) := by decide +kernel
theorem dX1_addGoal_53 : decode cX1_addGoal 53 = .ok (.getfield 29, 3) := by decide +kernel
theorem dX1_addGoal_56 : decode cX1_addGoal 56 = .ok (.iconst 1, 1) := by decide +kernel
theorem dX1_addGoal_57 : decode cX1_addGoal 57 = .ok (.iadd, 1) := by decide +kernel
theorem dX1_addGoal_58 : decode cX1_addGoal 58 = .ok (.putfield 29, 3) := by decide +kernel
theorem dX1_addGoal_61 : decode cX1_addGoal 61 = .ok (.return_, 1) := by decide +kernel
theorem dX1_addBoard_0 : decode cX1_addBoard 0 = .ok (.aload_n 0, 1) := by decide +kernel
theorem dX1_addBoard_1 : decode cX1_addBoard 1 = .ok (.getfield 25, 3) := by decide +kernel
theorem dX1_addBoard_4 : decode cX1_addBoard 4 = .ok (.ifCond .lt 57, 3) := by decide +kernel
theorem dX1_addBoard_7 : decode cX1_addBoard 7 = .ok (.aload_n 0, 1) := by decide +kernel
theorem dX1_addBoard_8 : decode cX1_addBoard 8 = .ok (.getfield 25, 3) := by decide +kernel
theorem dX1_addBoard_11 : decode cX1_addBoard 11 = .ok (.aload_n 0, 1) := by decide +kernel
theorem dX1_addBoard_12 : decode cX1_addBoard 12 = .ok (.getfield 9, 3) := by decide +kernel
theorem dX1_addBoard_15 : decode cX1_addBoard 15 = .ok (.arraylength, 1) := by decide +kernel
theorem dX1_addBoard_16 : decode cX1_addBoard 16 = .ok (.if_icmp .ge 45, 3) := by decide +kernel
theorem dX1_addBoard_19 : decode cX1_addBoard 19 = .ok (.aload_n 0, 1) := by decide +kernel
theorem dX1_addBoard_20 : decode cX1_addBoard 20 = .ok (.getfield 25, 3) := by decide +kernel
theorem dX1_addBoard_23 : decode cX1_addBoard 23 = .ok (.aload_n 0, 1) := by decide +kernel
theorem dX1_addBoard_24 : decode cX1_addBoard 24 = .ok (.getfield 15, 3) := by decide +kernel
theorem dX1_addBoard_27 : decode cX1_addBoard 27 = .ok (.arraylength, 1) := by decide +kernel
theorem dX1_addBoard_28 : decode cX1_addBoard 28 = .ok (.if_icmp .ge 33, 3) := by decide +kernel
theorem dX1_addBoard_31 : decode cX1_addBoard 31 = .ok (.aload_n 0, 1) := by decide +kernel
theorem dX1_addBoard_32 : decode cX1_addBoard 32 = .ok (.getfield 9, 3) := by decide +kernel
theorem dX1_addBoard_35 : decode cX1_addBoard 35 = .ok (.aload_n 0, 1) := by decide +kernel
theorem dX1_addBoard_36 : decode cX1_addBoard 36 = .ok (.getfield 25, 3) := by decide +kernel
theorem dX1_addBoard_39 : decode cX1_addBoard 39 = .ok (.lload_n 1, 1) := by decide +kernel
theorem dX1_addBoard_40 : decode cX1_addBoard 40 = .ok (.lastore, 1) := by decide +kernel
theorem dX1_addBoard_41 : decode cX1_addBoard 41 = .ok (.aload_n 0, 1) := by decide +kernel
theorem dX1_addBoard_42 : decode cX1_addBoard 42 = .ok (.getfield 15, 3) := by decide +kernel
theorem dX1_addBoard_45 : decode cX1_addBoard 45 = .ok (.aload_n 0, 1) := by decide +kernel
theorem dX1_addBoard_46 : decode cX1_addBoard 46 = .ok (.getfield 25, 3) := by decide +kernel
theorem dX1_addBoard_49 : decode cX1_addBoard 49 = .ok (.iload_n 3, 1) := by decide +kernel
theorem dX1_addBoard_50 : decode cX1_addBoard 50 = .ok (.iastore, 1) := by decide +kernel
theorem dX1_addBoard_51 : decode cX1_addBoard 51 = .ok (.aload_n 0, 1) := by decide +kernel
theorem dX1_addBoard_52 : decode cX1_addBoard 52 = .ok (.dup, 1) := by decide +kernel
theorem dX1_addBoard_53 : decode cX1_addBoard 53 = .ok (.getfield 25, 3) := by decide +kernel
theorem dX1_addBoard_56 : decode cX1_addBoard 56 = .ok (.iconst 1, 1) := by decide +kernel
theorem dX1_addBoard_57 : decode cX1_addBoard 57 = .ok (.iadd, 1) := by decide +kernel
theorem dX1_addBoard_58 : decode cX1_addBoard 58 = .ok (.putfield 25, 3) := by decide +kernel
theorem dX1_addBoard_61 : decode cX1_addBoard 61 = .ok (.return_, 1) := by decide +kernel
theorem dX1_spread_0 : decode cX1_spread 0 = .ok (.iload_n 2, 1) := by decide +kernel
theorem dX1_spread_1 : decode cX1_spread 1 = .ok (.istore 4, 2) := by decide +kernel
theorem dX1_spread_3 : decode cX1_spread 3 = .ok (.iload 4, 2) := by decide +kernel
theorem dX1_spread_5 : decode cX1_spread 5 = .ok (.iload_n 3, 1) := by decide +kernel
theorem dX1_spread_6 : decode cX1_spread 6 = .ok (.if_icmp .ge 100, 3) := by decide +kernel
theorem dX1_spread_9 : decode cX1_spread 9 = .ok (.iload 4, 2) := by decide +kernel
theorem dX1_spread_11 : decode cX1_spread 11 = .ok (.ifCond .lt 95, 3) := by decide +kernel
theorem dX1_spread_14 : decode cX1_spread 14 = .ok (.iload 4, 2) := by decide +kernel
theorem dX1_spread_16 : decode cX1_spread 16 = .ok (.aload_n 0, 1) := by decide +kernel
theorem dX1_spread_17 : decode cX1_spread 17 = .ok (.getfield 9, 3) := by decide +kernel
theorem dX1_spread_20 : decode cX1_spread 20 = .ok (.arraylength, 1) := by decide +kernel
theorem dX1_spread_21 : decode cX1_spread 21 = .ok (.if_icmp .ge 85, 3) := by decide +kernel
theorem dX1_spread_24 : decode cX1_spread 24 = .ok (.iload 4, 2) := by decide +kernel
theorem dX1_spread_26 : decode cX1_spread 26 = .ok (.aload_n 0, 1) := by decide +kernel
theorem dX1_spread_27 : decode cX1_spread 27 = .ok (.getfield 15, 3) := by decide +kernel
theorem dX1_spread_30 : decode cX1_spread 30 = .ok (.arraylength, 1) := by decide +kernel
theorem dX1_spread_31 : decode cX1_spread 31 = .ok (.if_icmp .ge 75, 3) := by decide +kernel
theorem dX1_spread_34 : decode cX1_spread 34 = .ok (.iconst 0, 1) := by decide +kernel
theorem dX1_spread_35 : decode cX1_spread 35 = .ok (.istore 5, 2) := by decide +kernel
theorem dX1_spread_37 : decode cX1_spread 37 = .ok (.iload 5, 2) := by decide +kernel
theorem dX1_spread_39 : decode cX1_spread 39 = .ok (.aload_n 1, 1) := by decide +kernel
theorem dX1_spread_40 : decode cX1_spread 40 = .ok (.invokevirtual 70, 3) := by decide +kernel
theorem dX1_spread_43 : decode cX1_spread 43 = .ok (.if_icmp .ge 57, 3) := by decide +kernel
theorem dX1_spread_46 : decode cX1_spread 46 = .ok (.aload_n 1, 1) := by decide +kernel
theorem dX1_spread_47 : decode cX1_spread 47 = .ok (.iload 5, 2) := by decide +kernel
theorem dX1_spread_49 : decode cX1_spread 49 = .ok (.invokevirtual 74, 3) := by decide +kernel
theorem dX1_spread_52 : decode cX1_spread 52 = .ok (.ifCond .eq 42, 3) := by decide +kernel
theorem dX1_spread_55 : decode cX1_spread 55 = .ok (.aload_n 0, 1) := by decide +kernel
theorem dX1_spread_56 : decode cX1_spread 56 = .ok (.aload_n 1, 1) := by decide +kernel
theorem dX1_spread_57 : decode cX1_spread 57 = .ok (.aload_n 0, 1) := by decide +kernel
theorem dX1_spread_58 : decode cX1_spread 58 = .ok (.getfield 9, 3) := by decide +kernel
theorem dX1_spread_61 : decode cX1_spread 61 = .ok (.iload 4, 2) := by decide +kernel
theorem dX1_spread_63 : decode cX1_spread 63 = .ok (.laload, 1) := by decide +kernel
theorem dX1_spread_64 : decode cX1_spread 64 = .ok (.iload 5, 2) := by decide +kernel
theorem dX1_spread_66 : decode cX1_spread 66 = .ok (.invokevirtual 78, 3) := by decide +kernel
theorem dX1_spread_69 : decode cX1_spread 69 = .ok (.aload_n 0, 1) := by decide +kernel
theorem dX1_spread_70 : decode cX1_spread 70 = .ok (.getfield 15, 3) := by decide +kernel
theorem dX1_spread_73 : decode cX1_spread 73 = .ok (.iload 4, 2) := by decide +kernel
theorem dX1_spread_75 : decode cX1_spread 75 = .ok (.iaload, 1) := by decide +kernel
theorem dX1_spread_76 : decode cX1_spread 76 = .ok (.ifCond .ge 8, 3) := by decide +kernel
theorem dX1_spread_79 : decode cX1_spread 79 = .ok (.iload 5, 2) := by decide +kernel
theorem dX1_spread_81 : decode cX1_spread 81 = .ok (.goto 10, 3) := by decide +kernel
theorem dX1_spread_84 : decode cX1_spread 84 = .ok (.aload_n 0, 1) := by decide +kernel
theorem dX1_spread_85 : decode cX1_spread 85 = .ok (.getfield 15, 3) := by decide +kernel
theorem dX1_spread_88 : decode cX1_spread 88 = .ok (.iload 4, 2) := by decide +kernel
theorem dX1_spread_90 : decode cX1_spread 90 = .ok (.iaload, 1) := by decide +kernel
theorem dX1_spread_91 : decode cX1_spread 91 = .ok (.invokevirtual 48, 3) := by decide +kernel
theorem dX1_spread_94 : decode cX1_spread 94 = .ok (.iinc 5 1, 3) := by decide +kernel
theorem dX1_spread_97 : decode cX1_spread 97 = .ok (.goto (-60), 3) := by decide +kernel
theorem dX1_spread_100 : decode cX1_spread 100 = .ok (.iinc 4 1, 3) := by decide +kernel
theorem dX1_spread_103 : decode cX1_spread 103 = .ok (.goto (-100), 3) := by decide +kernel
theorem dX1_spread_106 : decode cX1_spread 106 = .ok (.return_, 1) := by decide +kernel
theorem dX1_meet_0 : decode cX1_meet 0 = .ok (.iload_n 2, 1) := by decide +kernel
theorem dX1_meet_1 : decode cX1_meet 1 = .ok (.istore 6, 2) := by decide +kernel
theorem dX1_meet_3 : decode cX1_meet 3 = .ok (.iload 6, 2) := by decide +kernel
theorem dX1_meet_5 : decode cX1_meet 5 = .ok (.iload_n 3, 1) := by decide +kernel
theorem dX1_meet_6 : decode cX1_meet 6 = .ok (.if_icmp .ge 70, 3) := by decide +kernel
theorem dX1_meet_9 : decode cX1_meet 9 = .ok (.iload 6, 2) := by decide +kernel
theorem dX1_meet_11 : decode cX1_meet 11 = .ok (.ifCond .lt 65, 3) := by decide +kernel
theorem dX1_meet_14 : decode cX1_meet 14 = .ok (.iload 6, 2) := by decide +kernel
theorem dX1_meet_16 : decode cX1_meet 16 = .ok (.aload_n 0, 1) := by decide +kernel
theorem dX1_meet_17 : decode cX1_meet 17 = .ok (.getfield 9, 3) := by decide +kernel
theorem dX1_meet_20 : decode cX1_meet 20 = .ok (.arraylength, 1) := by decide +kernel
theorem dX1_meet_21 : decode cX1_meet 21 = .ok (.if_icmp .ge 55, 3) := by decide +kernel
theorem dX1_meet_24 : decode cX1_meet 24 = .ok (.iload 6, 2) := by decide +kernel
theorem dX1_meet_26 : decode cX1_meet 26 = .ok (.aload_n 0, 1) := by decide +kernel
theorem dX1_meet_27 : decode cX1_meet 27 = .ok (.getfield 15, 3) := by decide +kernel
theorem dX1_meet_30 : decode cX1_meet 30 = .ok (.arraylength, 1) := by decide +kernel
theorem dX1_meet_31 : decode cX1_meet 31 = .ok (.if_icmp .ge 45, 3) := by decide +kernel
theorem dX1_meet_34 : decode cX1_meet 34 = .ok (.aload_n 0, 1) := by decide +kernel
theorem dX1_meet_35 : decode cX1_meet 35 = .ok (.aload_n 0, 1) := by decide +kernel
theorem dX1_meet_36 : decode cX1_meet 36 = .ok (.getfield 9, 3) := by decide +kernel
theorem dX1_meet_39 : decode cX1_meet 39 = .ok (.iload 6, 2) := by decide +kernel
theorem dX1_meet_41 : decode cX1_meet 41 = .ok (.laload, 1) := by decide +kernel
theorem dX1_meet_42 : decode cX1_meet 42 = .ok (.iload 4, 2) := by decide +kernel
theorem dX1_meet_44 : decode cX1_meet 44 = .ok (.iload 5, 2) := by decide +kernel
theorem dX1_meet_46 : decode cX1_meet 46 = .ok (.invokevirtual 82, 3) := by decide +kernel
theorem dX1_meet_49 : decode cX1_meet 49 = .ok (.ifCond .eq 21, 3) := by decide +kernel
theorem dX1_meet_52 : decode cX1_meet 52 = .ok (.aload_n 0, 1) := by decide +kernel
theorem dX1_meet_53 : decode cX1_meet 53 = .ok (.iload_n 1, 1) := by decide +kernel
theorem dX1_meet_54 : decode cX1_meet 54 = .ok (.putfield 32, 3) := by decide +kernel
theorem dX1_meet_57 : decode cX1_meet 57 = .ok (.aload_n 0, 1) := by decide +kernel
theorem dX1_meet_58 : decode cX1_meet 58 = .ok (.aload_n 0, 1) := by decide +kernel
theorem dX1_meet_59 : decode cX1_meet 59 = .ok (.getfield 15, 3) := by decide +kernel
theorem dX1_meet_62 : decode cX1_meet 62 = .ok (.iload 6, 2) := by decide +kernel
theorem dX1_meet_64 : decode cX1_meet 64 = .ok (.iaload, 1) := by decide +kernel
theorem dX1_meet_65 : decode cX1_meet 65 = .ok (.putfield 35, 3) := by decide +kernel
theorem dX1_meet_68 : decode cX1_meet 68 = .ok (.iconst 1, 1) := by decide +kernel
theorem dX1_meet_69 : decode cX1_meet 69 = .ok (.ireturn, 1) := by decide +kernel
theorem dX1_meet_70 : decode cX1_meet 70 = .ok (.iinc 6 1, 3) := by decide +kernel
theorem dX1_meet_73 : decode cX1_meet 73 = .ok (.goto (-70), 3) := by decide +kernel
theorem dX1_meet_76 : decode cX1_meet 76 = .ok (.iconst 0, 1) := by decide +kernel
theorem dX1_meet_77 : decode cX1_meet 77 = .ok (.ireturn, 1) := by decide +kernel
theorem dX1_isMet_0 : decode cX1_isMet 0 = .ok (.iload_n 3, 1) := by decide +kernel
theorem dX1_isMet_1 : decode cX1_isMet 1 = .ok (.istore 5, 2) := by decide +kernel
theorem dX1_isMet_3 : decode cX1_isMet 3 = .ok (.iload 5, 2) := by decide +kernel
theorem dX1_isMet_5 : decode cX1_isMet 5 = .ok (.iload 4, 2) := by decide +kernel
theorem dX1_isMet_7 : decode cX1_isMet 7 = .ok (.if_icmp .ge 58, 3) := by decide +kernel
theorem dX1_isMet_10 : decode cX1_isMet 10 = .ok (.iload 5, 2) := by decide +kernel
theorem dX1_isMet_12 : decode cX1_isMet 12 = .ok (.ifCond .lt 53, 3) := by decide +kernel
theorem dX1_isMet_15 : decode cX1_isMet 15 = .ok (.iload 5, 2) := by decide +kernel
theorem dX1_isMet_17 : decode cX1_isMet 17 = .ok (.aload_n 0, 1) := by decide +kernel
theorem dX1_isMet_18 : decode cX1_isMet 18 = .ok (.getfield 19, 3) := by decide +kernel
theorem dX1_isMet_21 : decode cX1_isMet 21 = .ok (.arraylength, 1) := by decide +kernel
theorem dX1_isMet_22 : decode cX1_isMet 22 = .ok (.if_icmp .ge 43, 3) := by decide +kernel
theorem dX1_isMet_25 : decode cX1_isMet 25 = .ok (.iload 5, 2) := by decide +kernel
theorem dX1_isMet_27 : decode cX1_isMet 27 = .ok (.aload_n 0, 1) := by decide +kernel
theorem dX1_isMet_28 : decode cX1_isMet 28 = .ok (.getfield 22, 3) := by decide +kernel
theorem dX1_isMet_31 : decode cX1_isMet 31 = .ok (.arraylength, 1) := by decide +kernel
theorem dX1_isMet_32 : decode cX1_isMet 32 = .ok (.if_icmp .ge 33, 3) := by decide +kernel
theorem dX1_isMet_35 : decode cX1_isMet 35 = .ok (.lload_n 1, 1) := by decide +kernel
theorem dX1_isMet_36 : decode cX1_isMet 36 = .ok (.aload_n 0, 1) := by decide +kernel
theorem dX1_isMet_37 : decode cX1_isMet 37 = .ok (.getfield 19, 3) := by decide +kernel
theorem dX1_isMet_40 : decode cX1_isMet 40 = .ok (.iload 5, 2) := by decide +kernel
theorem dX1_isMet_42 : decode cX1_isMet 42 = .ok (.laload, 1) := by decide +kernel
theorem dX1_isMet_43 : decode cX1_isMet 43 = .ok (.lxor, 1) := by decide +kernel
theorem dX1_isMet_44 : decode cX1_isMet 44 = .ok (.aload_n 0, 1) := by decide +kernel
theorem dX1_isMet_45 : decode cX1_isMet 45 = .ok (.getfield 22, 3) := by decide +kernel
theorem dX1_isMet_48 : decode cX1_isMet 48 = .ok (.iload 5, 2) := by decide +kernel
theorem dX1_isMet_50 : decode cX1_isMet 50 = .ok (.laload, 1) := by decide +kernel
theorem dX1_isMet_51 : decode cX1_isMet 51 = .ok (.land, 1) := by decide +kernel
theorem dX1_isMet_52 : decode cX1_isMet 52 = .ok (.lconst 0, 1) := by decide +kernel
theorem dX1_isMet_53 : decode cX1_isMet 53 = .ok (.lcmp, 1) := by decide +kernel
theorem dX1_isMet_54 : decode cX1_isMet 54 = .ok (.ifCond .ne 5, 3) := by decide +kernel
theorem dX1_isMet_57 : decode cX1_isMet 57 = .ok (.iconst 1, 1) := by decide +kernel
theorem dX1_isMet_58 : decode cX1_isMet 58 = .ok (.ireturn, 1) := by decide +kernel
theorem dX1_isMet_59 : decode cX1_isMet 59 = .ok (.iinc 5 1, 3) := by decide +kernel
theorem dX1_isMet_62 : decode cX1_isMet 62 = .ok (.goto (-59), 3) := by decide +kernel
theorem dX1_isMet_65 : decode cX1_isMet 65 = .ok (.iconst 0, 1) := by decide +kernel
theorem dX1_isMet_66 : decode cX1_isMet 66 = .ok (.ireturn, 1) := by decide +kernel
theorem dX2_init_0 : decode cX2_init 0 = .ok (.aload_n 0, 1) := by decide +kernel
theorem dX2_init_1 : decode cX2_init 1 = .ok (.invokespecial 3, 3) := by decide +kernel
theorem dX2_init_4 : decode cX2_init 4 = .ok (.aload_n 0, 1) := by decide +kernel
theorem dX2_init_5 : decode cX2_init 5 = .ok (.bipush 8, 2) := by decide +kernel
theorem dX2_init_7 : decode cX2_init 7 = .ok (.anewarray 9, 3) := by decide +kernel
theorem dX2_init_10 : decode cX2_init 10 = .ok (.putfield 11, 3) := by decide +kernel
theorem dX2_init_13 : decode cX2_init 13 = .ok (.aload_n 0, 1) := by decide +kernel
theorem dX2_init_14 : decode cX2_init 14 = .ok (.iconst 0, 1) := by decide +kernel
theorem dX2_init_15 : decode cX2_init 15 = .ok (.putfield 17, 3) := by decide +kernel
theorem dX2_init_18 : decode cX2_init 18 = .ok (.aload_n 0, 1) := by decide +kernel
theorem dX2_init_19 : decode cX2_init 19 = .ok (.iconst 0, 1) := by decide +kernel
theorem dX2_init_20 : decode cX2_init 20 = .ok (.putfield 21, 3) := by decide +kernel
theorem dX2_init_23 : decode cX2_init 23 = .ok (.iconst 0, 1) := by decide +kernel
theorem dX2_init_24 : decode cX2_init 24 = .ok (.istore_n 1, 1) := by decide +kernel
theorem dX2_init_25 : decode cX2_init 25 = .ok (.iload_n 1, 1) := by decide +kernel
theorem dX2_init_26 : decode cX2_init 26 = .ok (.aload_n 0, 1) := by decide +kernel
theorem dX2_init_27 : decode cX2_init 27 = .ok (.getfield 11, 3) := by decide +kernel
theorem dX2_init_30 : decode cX2_init 30 = .ok (.arraylength, 1) := by decide +kernel
theorem dX2_init_31 : decode cX2_init 31 = .ok (.if_icmp .ge 22, 3) := by decide +kernel
theorem dX2_init_34 : decode cX2_init 34 = .ok (.aload_n 0, 1) := by decide +kernel
theorem dX2_init_35 : decode cX2_init 35 = .ok (.getfield 11, 3) := by decide +kernel
theorem dX2_init_38 : decode cX2_init 38 = .ok (.iload_n 1, 1) := by decide +kernel
theorem dX2_init_39 : decode cX2_init 39 = .ok (.new 9, 3) := by decide +kernel
theorem dX2_init_42 : decode cX2_init 42 = .ok (.dup, 1) := by decide +kernel
theorem dX2_init_43 : decode cX2_init 43 = .ok (.invokespecial 24, 3) := by decide +kernel
theorem dX2_init_46 : decode cX2_init 46 = .ok (.aastore, 1) := by decide +kernel
theorem dX2_init_47 : decode cX2_init 47 = .ok (.iinc 1 1, 3) := by decide +kernel
theorem dX2_init_50 : decode cX2_init 50 = .ok (.goto (-25), 3) := by decide +kernel
theorem dX2_init_53 : decode cX2_init 53 = .ok (.return_, 1) := by decide +kernel
theorem dX2_keep_0 : decode cX2_keep 0 = .ok (.aload_n 1, 1) := by decide +kernel
theorem dX2_keep_1 : decode cX2_keep 1 = .ok (.aload_n 0, 1) := by decide +kernel
theorem dX2_keep_2 : decode cX2_keep 2 = .ok (.aload_n 0, 1) := by decide +kernel
theorem dX2_keep_3 : decode cX2_keep 3 = .ok (.getfield 17, 3) := by decide +kernel
theorem dX2_keep_6 : decode cX2_keep 6 = .ok (.invokevirtual 25, 3) := by decide +kernel
theorem dX2_keep_9 : decode cX2_keep 9 = .ok (.invokestatic 29, 3) := by decide +kernel
theorem dX2_keep_12 : decode cX2_keep 12 = .ok (.aload_n 0, 1) := by decide +kernel
theorem dX2_keep_13 : decode cX2_keep 13 = .ok (.aload_n 0, 1) := by decide +kernel
theorem dX2_keep_14 : decode cX2_keep 14 = .ok (.getfield 17, 3) := by decide +kernel
theorem dX2_keep_17 : decode cX2_keep 17 = .ok (.iconst 1, 1) := by decide +kernel
theorem dX2_keep_18 : decode cX2_keep 18 = .ok (.iadd, 1) := by decide +kernel
theorem dX2_keep_19 : decode cX2_keep 19 = .ok (.bipush 8, 2) := by decide +kernel
theorem dX2_keep_21 : decode cX2_keep 21 = .ok (.if_icmp .lt 7, 3) := by decide +kernel
theorem dX2_keep_24 : decode cX2_keep 24 = .ok (.iconst 0, 1) := by decide +kernel
theorem dX2_keep_25 : decode cX2_keep 25 = .ok (.goto 9, 3) := by decide +kernel
theorem dX2_keep_28 : decode cX2_keep 28 = .ok (.aload_n 0, 1) := by decide +kernel
theorem dX2_keep_29 : decode cX2_keep 29 = .ok (.getfield 17, 3) := by decide +kernel
theorem dX2_keep_32 : decode cX2_keep 32 = .ok (.iconst 1, 1) := by decide +kernel
theorem dX2_keep_33 : decode cX2_keep 33 = .ok (.iadd, 1) := by decide +kernel
theorem dX2_keep_34 : decode cX2_keep 34 = .ok (.putfield 17, 3) := by decide +kernel
theorem dX2_keep_37 : decode cX2_keep 37 = .ok (.aload_n 0, 1) := by decide +kernel
theorem dX2_keep_38 : decode cX2_keep 38 = .ok (.aload_n 0, 1) := by decide +kernel
theorem dX2_keep_39 : decode cX2_keep 39 = .ok (.getfield 21, 3) := by decide +kernel
theorem dX2_keep_42 : decode cX2_keep 42 = .ok (.iconst 1, 1) := by decide +kernel
theorem dX2_keep_43 : decode cX2_keep 43 = .ok (.iadd, 1) := by decide +kernel
theorem dX2_keep_44 : decode cX2_keep 44 = .ok (.bipush 8, 2) := by decide +kernel
theorem dX2_keep_46 : decode cX2_keep 46 = .ok (.invokestatic 33, 3) := by decide +kernel
theorem dX2_keep_49 : decode cX2_keep 49 = .ok (.putfield 21, 3) := by decide +kernel
theorem dX2_keep_52 : decode cX2_keep 52 = .ok (.return_, 1) := by decide +kernel
theorem dX2_takeBack_0 : decode cX2_takeBack 0 = .ok (.aload_n 0, 1) := by decide +kernel
theorem dX2_takeBack_1 : decode cX2_takeBack 1 = .ok (.aload_n 0, 1) := by decide +kernel
theorem dX2_takeBack_2 : decode cX2_takeBack 2 = .ok (.getfield 17, 3) := by decide +kernel
theorem dX2_takeBack_5 : decode cX2_takeBack 5 = .ok (.ifCond .gt 8, 3) := by decide +kernel
theorem dX2_takeBack_8 : decode cX2_takeBack 8 = .ok (.bipush 7, 2) := by decide +kernel
theorem dX2_takeBack_10 : decode cX2_takeBack 10 = .ok (.goto 9, 3) := by decide +kernel
theorem dX2_takeBack_13 : decode cX2_takeBack 13 = .ok (.aload_n 0, 1) := by decide +kernel
theorem dX2_takeBack_14 : decode cX2_takeBack 14 = .ok (.getfield 17, 3) := by decide +kernel
theorem dX2_takeBack_17 : decode cX2_takeBack 17 = .ok (.iconst 1, 1) := by decide +kernel
theorem dX2_takeBack_18 : decode cX2_takeBack 18 = .ok (.isub, 1) := by decide +kernel
theorem dX2_takeBack_19 : decode cX2_takeBack 19 = .ok (.putfield 17, 3) := by decide +kernel
theorem dX2_takeBack_22 : decode cX2_takeBack 22 = .ok (.aload_n 0, 1) := by decide +kernel
theorem dX2_takeBack_23 : decode cX2_takeBack 23 = .ok (.aload_n 0, 1) := by decide +kernel
theorem dX2_takeBack_24 : decode cX2_takeBack 24 = .ok (.getfield 21, 3) := by decide +kernel
theorem dX2_takeBack_27 : decode cX2_takeBack 27 = .ok (.iconst 1, 1) := by decide +kernel
theorem dX2_takeBack_28 : decode cX2_takeBack 28 = .ok (.isub, 1) := by decide +kernel
theorem dX2_takeBack_29 : decode cX2_takeBack 29 = .ok (.iconst 0, 1) := by decide +kernel
theorem dX2_takeBack_30 : decode cX2_takeBack 30 = .ok (.invokestatic 39, 3) := by decide +kernel
theorem dX2_takeBack_33 : decode cX2_takeBack 33 = .ok (.putfield 21, 3) := by decide +kernel
theorem dX2_takeBack_36 : decode cX2_takeBack 36 = .ok (.aload_n 0, 1) := by decide +kernel
theorem dX2_takeBack_37 : decode cX2_takeBack 37 = .ok (.aload_n 0, 1) := by decide +kernel
theorem dX2_takeBack_38 : decode cX2_takeBack 38 = .ok (.getfield 17, 3) := by decide +kernel
theorem dX2_takeBack_41 : decode cX2_takeBack 41 = .ok (.invokevirtual 25, 3) := by decide +kernel
theorem dX2_takeBack_44 : decode cX2_takeBack 44 = .ok (.aload_n 1, 1) := by decide +kernel
theorem dX2_takeBack_45 : decode cX2_takeBack 45 = .ok (.invokestatic 29, 3) := by decide +kernel
theorem dX2_takeBack_48 : decode cX2_takeBack 48 = .ok (.return_, 1) := by decide +kernel
theorem dX2_forget_0 : decode cX2_forget 0 = .ok (.aload_n 0, 1) := by decide +kernel
theorem dX2_forget_1 : decode cX2_forget 1 = .ok (.iconst 0, 1) := by decide +kernel
theorem dX2_forget_2 : decode cX2_forget 2 = .ok (.putfield 21, 3) := by decide +kernel
theorem dX2_forget_5 : decode cX2_forget 5 = .ok (.return_, 1) := by decide +kernel
theorem dX2_at_0 : decode cX2_at 0 = .ok (.iload_n 1, 1) := by decide +kernel
theorem dX2_at_1 : decode cX2_at 1 = .ok (.ifCond .lt 21, 3) := by decide +kernel
theorem dX2_at_4 : decode cX2_at 4 = .ok (.iload_n 1, 1) := by decide +kernel
theorem dX2_at_5 : decode cX2_at 5 = .ok (.aload_n 0, 1) := by decide +kernel
theorem dX2_at_6 : decode cX2_at 6 = .ok (.getfield 11, 3) := by decide +kernel
theorem dX2_at_9 : decode cX2_at 9 = .ok (.arraylength, 1) := by decide +kernel
theorem dX2_at_10 : decode cX2_at 10 = .ok (.if_icmp .ge 12, 3) := by decide +kernel
theorem dX2_at_13 : decode cX2_at 13 = .ok (.aload_n 0, 1) := by decide +kernel
theorem dX2_at_14 : decode cX2_at 14 = .ok (.getfield 11, 3) := by decide +kernel
theorem dX2_at_17 : decode cX2_at 17 = .ok (.iload_n 1, 1) := by decide +kernel
theorem dX2_at_18 : decode cX2_at 18 = .ok (.aaload, 1) := by decide +kernel
theorem dX2_at_19 : decode cX2_at 19 = .ok (.goto 4, 3) := by decide +kernel
theorem dX2_at_22 : decode cX2_at 22 = .ok (.aconst_null, 1) := by decide +kernel
theorem dX2_at_23 : decode cX2_at 23 = .ok (.areturn, 1) := by decide +kernel
theorem dX2_copyBoard_0 : decode cX2_copyBoard 0 = .ok (.aload_n 0, 1) := by decide +kernel
theorem dX2_copyBoard_1 : decode cX2_copyBoard 1 = .ok (.ifnull 12, 3) := by decide +kernel
theorem dX2_copyBoard_4 : decode cX2_copyBoard 4 = .ok (.aload_n 1, 1) := by decide +kernel
theorem dX2_copyBoard_5 : decode cX2_copyBoard 5 = .ok (.ifnull 8, 3) := by decide +kernel
theorem dX2_copyBoard_8 : decode cX2_copyBoard 8 = .ok (.aload_n 1, 1) := by decide +kernel
theorem dX2_copyBoard_9 : decode cX2_copyBoard 9 = .ok (.aload_n 0, 1) := by decide +kernel
theorem dX2_copyBoard_10 : decode cX2_copyBoard 10 = .ok (.invokevirtual 42, 3) := by decide +kernel
theorem dX2_copyBoard_13 : decode cX2_copyBoard 13 = .ok (.return_, 1) := by decide +kernel
theorem dX3_init_0 : decode cX3_init 0 = .ok (.aload_n 0, 1) := by decide +kernel
theorem dX3_init_1 : decode cX3_init 1 = .ok (.invokespecial 3, 3) := by decide +kernel
theorem dX3_init_4 : decode cX3_init 4 = .ok (.aload_n 0, 1) := by decide +kernel
theorem dX3_init_5 : decode cX3_init 5 = .ok (.bipush 11, 2) := by decide +kernel
theorem dX3_init_7 : decode cX3_init 7 = .ok (.newarray .char, 2) := by decide +kernel
theorem dX3_init_9 : decode cX3_init 9 = .ok (.putfield 9, 3) := by decide +kernel
theorem dX3_init_12 : decode cX3_init 12 = .ok (.aload_n 0, 1) := by decide +kernel
theorem dX3_init_13 : decode cX3_init 13 = .ok (.iconst 0, 1) := by decide +kernel
theorem dX3_init_14 : decode cX3_init 14 = .ok (.putfield 15, 3) := by decide +kernel
theorem dX3_init_17 : decode cX3_init 17 = .ok (.return_, 1) := by decide +kernel
theorem dX3_clear_0 : decode cX3_clear 0 = .ok (.aload_n 0, 1) := by decide +kernel
theorem dX3_clear_1 : decode cX3_clear 1 = .ok (.iconst 0, 1) := by decide +kernel
theorem dX3_clear_2 : decode cX3_clear 2 = .ok (.putfield 15, 3) := by decide +kernel
theorem dX3_clear_5 : decode cX3_clear 5 = .ok (.return_, 1) := by decide +kernel
theorem dX3_add_0 : decode cX3_add 0 = .ok (.aload_n 0, 1) := by decide +kernel
theorem dX3_add_1 : decode cX3_add 1 = .ok (.getfield 15, 3) := by decide +kernel
theorem dX3_add_4 : decode cX3_add 4 = .ok (.ifCond .lt 35, 3) := by decide +kernel
theorem dX3_add_7 : decode cX3_add 7 = .ok (.aload_n 0, 1) := by decide +kernel
theorem dX3_add_8 : decode cX3_add 8 = .ok (.getfield 15, 3) := by decide +kernel
theorem dX3_add_11 : decode cX3_add 11 = .ok (.aload_n 0, 1) := by decide +kernel
theorem dX3_add_12 : decode cX3_add 12 = .ok (.getfield 9, 3) := by decide +kernel
theorem dX3_add_15 : decode cX3_add 15 = .ok (.arraylength, 1) := by decide +kernel
theorem dX3_add_16 : decode cX3_add 16 = .ok (.if_icmp .ge 23, 3) := by decide +kernel
theorem dX3_add_19 : decode cX3_add 19 = .ok (.aload_n 0, 1) := by decide +kernel
theorem dX3_add_20 : decode cX3_add 20 = .ok (.getfield 9, 3) := by decide +kernel
theorem dX3_add_23 : decode cX3_add 23 = .ok (.aload_n 0, 1) := by decide +kernel
theorem dX3_add_24 : decode cX3_add 24 = .ok (.getfield 15, 3) := by decide +kernel
theorem dX3_add_27 : decode cX3_add 27 = .ok (.iload_n 1, 1) := by decide +kernel
theorem dX3_add_28 : decode cX3_add 28 = .ok (.castore, 1) := by decide +kernel
theorem dX3_add_29 : decode cX3_add 29 = .ok (.aload_n 0, 1) := by decide +kernel
theorem dX3_add_30 : decode cX3_add 30 = .ok (.dup, 1) := by decide +kernel
theorem dX3_add_31 : decode cX3_add 31 = .ok (.getfield 15, 3) := by decide +kernel
theorem dX3_add_34 : decode cX3_add 34 = .ok (.iconst 1, 1) := by decide +kernel
theorem dX3_add_35 : decode cX3_add 35 = .ok (.iadd, 1) := by decide +kernel
theorem dX3_add_36 : decode cX3_add 36 = .ok (.putfield 15, 3) := by decide +kernel
theorem dX3_add_39 : decode cX3_add 39 = .ok (.return_, 1) := by decide +kernel
theorem dX3_signAt_0 : decode cX3_signAt 0 = .ok (.iload_n 1, 1) := by decide +kernel
theorem dX3_signAt_1 : decode cX3_signAt 1 = .ok (.ifCond .lt 21, 3) := by decide +kernel
theorem dX3_signAt_4 : decode cX3_signAt 4 = .ok (.iload_n 1, 1) := by decide +kernel
theorem dX3_signAt_5 : decode cX3_signAt 5 = .ok (.aload_n 0, 1) := by decide +kernel
theorem dX3_signAt_6 : decode cX3_signAt 6 = .ok (.getfield 9, 3) := by decide +kernel
theorem dX3_signAt_9 : decode cX3_signAt 9 = .ok (.arraylength, 1) := by decide +kernel
theorem dX3_signAt_10 : decode cX3_signAt 10 = .ok (.if_icmp .ge 12, 3) := by decide +kernel
theorem dX3_signAt_13 : decode cX3_signAt 13 = .ok (.aload_n 0, 1) := by decide +kernel
theorem dX3_signAt_14 : decode cX3_signAt 14 = .ok (.getfield 9, 3) := by decide +kernel
theorem dX3_signAt_17 : decode cX3_signAt 17 = .ok (.iload_n 1, 1) := by decide +kernel
theorem dX3_signAt_18 : decode cX3_signAt 18 = .ok (.caload, 1) := by decide +kernel
theorem dX3_signAt_19 : decode cX3_signAt 19 = .ok (.goto 5, 3) := by decide +kernel
theorem dX3_signAt_22 : decode cX3_signAt 22 = .ok (.bipush 32, 2) := by decide +kernel
theorem dX3_signAt_24 : decode cX3_signAt 24 = .ok (.ireturn, 1) := by decide +kernel
theorem dX4_init_0 : decode cX4_init 0 = .ok (.aload_n 0, 1) := by decide +kernel
theorem dX4_init_1 : decode cX4_init 1 = .ok (.invokespecial 3, 3) := by decide +kernel
theorem dX4_init_4 : decode cX4_init 4 = .ok (.aload_n 0, 1) := by decide +kernel
theorem dX4_init_5 : decode cX4_init 5 = .ok (.bipush 60, 2) := by decide +kernel
theorem dX4_init_7 : decode cX4_init 7 = .ok (.newarray .int, 2) := by decide +kernel
theorem dX4_init_9 : decode cX4_init 9 = .ok (.putfield 9, 3) := by decide +kernel
theorem dX4_init_12 : decode cX4_init 12 = .ok (.aload_n 0, 1) := by decide +kernel
theorem dX4_init_13 : decode cX4_init 13 = .ok (.bipush 60, 2) := by decide +kernel
theorem dX4_init_15 : decode cX4_init 15 = .ok (.newarray .int, 2) := by decide +kernel
theorem dX4_init_17 : decode cX4_init 17 = .ok (.putfield 15, 3) := by decide +kernel
theorem dX4_init_20 : decode cX4_init 20 = .ok (.aload_n 0, 1) := by decide +kernel
theorem dX4_init_21 : decode cX4_init 21 = .ok (.bipush 60, 2) := by decide +kernel
theorem dX4_init_23 : decode cX4_init 23 = .ok (.newarray .int, 2) := by decide +kernel
theorem dX4_init_25 : decode cX4_init 25 = .ok (.putfield 18, 3) := by decide +kernel
theorem dX4_init_28 : decode cX4_init 28 = .ok (.aload_n 0, 1) := by decide +kernel
theorem dX4_init_29 : decode cX4_init 29 = .ok (.aconst_null, 1) := by decide +kernel
theorem dX4_init_30 : decode cX4_init 30 = .ok (.putfield 21, 3) := by decide +kernel
theorem dX4_init_33 : decode cX4_init 33 = .ok (.aload_n 0, 1) := by decide +kernel
theorem dX4_init_34 : decode cX4_init 34 = .ok (.iconst 0, 1) := by decide +kernel
theorem dX4_init_35 : decode cX4_init 35 = .ok (.putfield 25, 3) := by decide +kernel
theorem dX4_init_38 : decode cX4_init 38 = .ok (.aload_n 0, 1) := by decide +kernel
theorem dX4_init_39 : decode cX4_init 39 = .ok (.iconst 0, 1) := by decide +kernel
theorem dX4_init_40 : decode cX4_init 40 = .ok (.putfield 29, 3) := by decide +kernel
theorem dX4_init_43 : decode cX4_init 43 = .ok (.aload_n 0, 1) := by decide +kernel
theorem dX4_init_44 : decode cX4_init 44 = .ok (.iconst 0, 1) := by decide +kernel
theorem dX4_init_45 : decode cX4_init 45 = .ok (.putfield 32, 3) := by decide +kernel
theorem dX4_init_48 : decode cX4_init 48 = .ok (.return_, 1) := by decide +kernel
theorem dX4_kindOf_0 : decode cX4_kindOf 0 = .ok (.iload_n 1, 1) := by decide +kernel
theorem dX4_kindOf_1 : decode cX4_kindOf 1 = .ok (.ifCond .lt 21, 3) := by decide +kernel
theorem dX4_kindOf_4 : decode cX4_kindOf 4 = .ok (.iload_n 1, 1) := by decide +kernel
theorem dX4_kindOf_5 : decode cX4_kindOf 5 = .ok (.aload_n 0, 1) := by decide +kernel
theorem dX4_kindOf_6 : decode cX4_kindOf 6 = .ok (.getfield 9, 3) := by decide +kernel
theorem dX4_kindOf_9 : decode cX4_kindOf 9 = .ok (.arraylength, 1) := by decide +kernel
theorem dX4_kindOf_10 : decode cX4_kindOf 10 = .ok (.if_icmp .ge 12, 3) := by decide +kernel
theorem dX4_kindOf_13 : decode cX4_kindOf 13 = .ok (.aload_n 0, 1) := by decide +kernel
theorem dX4_kindOf_14 : decode cX4_kindOf 14 = .ok (.getfield 9, 3) := by decide +kernel
theorem dX4_kindOf_17 : decode cX4_kindOf 17 = .ok (.iload_n 1, 1) := by decide +kernel
theorem dX4_kindOf_18 : decode cX4_kindOf 18 = .ok (.iaload, 1) := by decide +kernel
theorem dX4_kindOf_19 : decode cX4_kindOf 19 = .ok (.goto 4, 3) := by decide +kernel
theorem dX4_kindOf_22 : decode cX4_kindOf 22 = .ok (.iconst (-1), 1) := by decide +kernel
theorem dX4_kindOf_23 : decode cX4_kindOf 23 = .ok (.ireturn, 1) := by decide +kernel
theorem dX4_oneOf_0 : decode cX4_oneOf 0 = .ok (.iload_n 1, 1) := by decide +kernel
theorem dX4_oneOf_1 : decode cX4_oneOf 1 = .ok (.ifCond .lt 21, 3) := by decide +kernel
theorem dX4_oneOf_4 : decode cX4_oneOf 4 = .ok (.iload_n 1, 1) := by decide +kernel
theorem dX4_oneOf_5 : decode cX4_oneOf 5 = .ok (.aload_n 0, 1) := by decide +kernel
theorem dX4_oneOf_6 : decode cX4_oneOf 6 = .ok (.getfield 15, 3) := by decide +kernel
theorem dX4_oneOf_9 : decode cX4_oneOf 9 = .ok (.arraylength, 1) := by decide +kernel
theorem dX4_oneOf_10 : decode cX4_oneOf 10 = .ok (.if_icmp .ge 12, 3) := by decide +kernel
theorem dX4_oneOf_13 : decode cX4_oneOf 13 = .ok (.aload_n 0, 1) := by decide +kernel
theorem dX4_oneOf_14 : decode cX4_oneOf 14 = .ok (.getfield 15, 3) := by decide +kernel
theorem dX4_oneOf_17 : decode cX4_oneOf 17 = .ok (.iload_n 1, 1) := by decide +kernel
theorem dX4_oneOf_18 : decode cX4_oneOf 18 = .ok (.iaload, 1) := by decide +kernel
theorem dX4_oneOf_19 : decode cX4_oneOf 19 = .ok (.goto 4, 3) := by decide +kernel
theorem dX4_oneOf_22 : decode cX4_oneOf 22 = .ok (.iconst (-1), 1) := by decide +kernel
theorem dX4_oneOf_23 : decode cX4_oneOf 23 = .ok (.ireturn, 1) := by decide +kernel
theorem dX4_otherOf_0 : decode cX4_otherOf 0 = .ok (.iload_n 1, 1) := by decide +kernel
theorem dX4_otherOf_1 : decode cX4_otherOf 1 = .ok (.ifCond .lt 21, 3) := by decide +kernel
theorem dX4_otherOf_4 : decode cX4_otherOf 4 = .ok (.iload_n 1, 1) := by decide +kernel
theorem dX4_otherOf_5 : decode cX4_otherOf 5 = .ok (.aload_n 0, 1) := by decide +kernel
theorem dX4_otherOf_6 : decode cX4_otherOf 6 = .ok (.getfield 18, 3) := by decide +kernel
theorem dX4_otherOf_9 : decode cX4_otherOf 9 = .ok (.arraylength, 1) := by decide +kernel
theorem dX4_otherOf_10 : decode cX4_otherOf 10 = .ok (.if_icmp .ge 12, 3) := by decide +kernel
theorem dX4_otherOf_13 : decode cX4_otherOf 13 = .ok (.aload_n 0, 1) := by decide +kernel
theorem dX4_otherOf_14 : decode cX4_otherOf 14 = .ok (.getfield 18, 3) := by decide +kernel
theorem dX4_otherOf_17 : decode cX4_otherOf 17 = .ok (.iload_n 1, 1) := by decide +kernel
theorem dX4_otherOf_18 : decode cX4_otherOf 18 = .ok (.iaload, 1) := by decide +kernel
theorem dX4_otherOf_19 : decode cX4_otherOf 19 = .ok (.goto 4, 3) := by decide +kernel
theorem dX4_otherOf_22 : decode cX4_otherOf 22 = .ok (.iconst (-1), 1) := by decide +kernel
theorem dX4_otherOf_23 : decode cX4_otherOf 23 = .ok (.ireturn, 1) := by decide +kernel
theorem dX4_read_0 : decode cX4_read 0 = .ok (.aload_n 0, 1) := by decide +kernel
theorem dX4_read_1 : decode cX4_read 1 = .ok (.aload_n 1, 1) := by decide +kernel
theorem dX4_read_2 : decode cX4_read 2 = .ok (.putfield 21, 3) := by decide +kernel
theorem dX4_read_5 : decode cX4_read 5 = .ok (.aload_n 0, 1) := by decide +kernel
theorem dX4_read_6 : decode cX4_read 6 = .ok (.iload_n 2, 1) := by decide +kernel
theorem dX4_read_7 : decode cX4_read 7 = .ok (.putfield 25, 3) := by decide +kernel
theorem dX4_read_10 : decode cX4_read 10 = .ok (.aload_n 0, 1) := by decide +kernel
theorem dX4_read_11 : decode cX4_read 11 = .ok (.iconst 0, 1) := by decide +kernel
theorem dX4_read_12 : decode cX4_read 12 = .ok (.putfield 29, 3) := by decide +kernel
theorem dX4_read_15 : decode cX4_read 15 = .ok (.aload_n 0, 1) := by decide +kernel
theorem dX4_read_16 : decode cX4_read 16 = .ok (.iconst 0, 1) := by decide +kernel
theorem dX4_read_17 : decode cX4_read 17 = .ok (.putfield 32, 3) := by decide +kernel
theorem dX4_read_20 : decode cX4_read 20 = .ok (.iconst 0, 1) := by decide +kernel
theorem dX4_read_21 : decode cX4_read 21 = .ok (.istore_n 3, 1) := by decide +kernel
theorem dX4_read_22 : decode cX4_read 22 = .ok (.iload_n 3, 1) := by decide +kernel
theorem dX4_read_23 : decode cX4_read 23 = .ok (.bipush 60, 2) := by decide +kernel
theorem dX4_read_25 : decode cX4_read 25 = .ok (.if_icmp .ge 43, 3) := by decide +kernel
theorem dX4_read_28 : decode cX4_read 28 = .ok (.aload_n 0, 1) := by decide +kernel
theorem dX4_read_29 : decode cX4_read 29 = .ok (.invokevirtual 35, 3) := by decide +kernel
theorem dX4_read_32 : decode cX4_read 32 = .ok (.ifCond .eq 36, 3) := by decide +kernel
theorem dX4_read_35 : decode cX4_read 35 = .ok (.aload_n 0, 1) := by decide +kernel
theorem dX4_read_36 : decode cX4_read 36 = .ok (.getfield 29, 3) := by decide +kernel
theorem dX4_read_39 : decode cX4_read 39 = .ok (.aload_n 0, 1) := by decide +kernel
theorem dX4_read_40 : decode cX4_read 40 = .ok (.getfield 25, 3) := by decide +kernel
theorem dX4_read_43 : decode cX4_read 43 = .ok (.if_icmp .lt 5, 3) := by decide +kernel
theorem dX4_read_46 : decode cX4_read 46 = .ok (.iconst (-1), 1) := by decide +kernel
theorem dX4_read_47 : decode cX4_read 47 = .ok (.ireturn, 1) := by decide +kernel
theorem dX4_read_48 : decode cX4_read 48 = .ok (.aload_n 0, 1) := by decide +kernel
theorem dX4_read_49 : decode cX4_read 49 = .ok (.bipush 59, 2) := by decide +kernel
theorem dX4_read_51 : decode cX4_read 51 = .ok (.invokevirtual 39, 3) := by decide +kernel
theorem dX4_read_54 : decode cX4_read 54 = .ok (.ifCond .ne 8, 3) := by decide +kernel
theorem dX4_read_57 : decode cX4_read 57 = .ok (.aload_n 0, 1) := by decide +kernel
theorem dX4_read_58 : decode cX4_read 58 = .ok (.getfield 29, 3) := by decide +kernel
theorem dX4_read_61 : decode cX4_read 61 = .ok (.ireturn, 1) := by decide +kernel
theorem dX4_read_62 : decode cX4_read 62 = .ok (.iinc 3 1, 3) := by decide +kernel
theorem dX4_read_65 : decode cX4_read 65 = .ok (.goto (-43), 3) := by decide +kernel
theorem dX4_read_68 : decode cX4_read 68 = .ok (.aload_n 0, 1) := by decide +kernel
theorem dX4_read_69 : decode cX4_read 69 = .ok (.getfield 29, 3) := by decide +kernel
theorem dX4_read_72 : decode cX4_read 72 = .ok (.ireturn, 1) := by decide +kernel
theorem dX4_readOrder_0 : decode cX4_readOrder 0 = .ok (.aload_n 0, 1) := by decide +kernel
theorem dX4_readOrder_1 : decode cX4_readOrder 1 = .ok (.invokevirtual 43, 3) := by decide +kernel
theorem dX4_readOrder_4 : decode cX4_readOrder 4 = .ok (.istore_n 1, 1) := by decide +kernel
theorem dX4_readOrder_5 : decode cX4_readOrder 5 = .ok (.iload_n 1, 1) := by decide +kernel
theorem dX4_readOrder_6 : decode cX4_readOrder 6 = .ok (.invokestatic 47, 3) := by decide +kernel
theorem dX4_readOrder_9 : decode cX4_readOrder 9 = .ok (.ifCond .ne 5, 3) := by decide +kernel
theorem dX4_readOrder_12 : decode cX4_readOrder 12 = .ok (.iconst 0, 1) := by decide +kernel
theorem dX4_readOrder_13 : decode cX4_readOrder 13 = .ok (.ireturn, 1) := by decide +kernel
theorem dX4_readOrder_14 : decode cX4_readOrder 14 = .ok (.aload_n 0, 1) := by decide +kernel
theorem dX4_readOrder_15 : decode cX4_readOrder 15 = .ok (.dup, 1) := by decide +kernel
theorem dX4_readOrder_16 : decode cX4_readOrder 16 = .ok (.getfield 29, 3) := by decide +kernel
theorem dX4_readOrder_19 : decode cX4_readOrder 19 = .ok (.iconst 1, 1) := by decide +kernel
theorem dX4_readOrder_20 : decode cX4_readOrder 20 = .ok (.iadd, 1) := by decide +kernel
theorem dX4_readOrder_21 : decode cX4_readOrder 21 = .ok (.putfield 29, 3) := by decide +kernel
theorem dX4_readOrder_24 : decode cX4_readOrder 24 = .ok (.iload_n 1, 1) := by decide +kernel
theorem dX4_readOrder_25 : decode cX4_readOrder 25 = .ok (.bipush 116, 2) := by decide +kernel
theorem dX4_readOrder_27 : decode cX4_readOrder 27 = .ok (.if_icmp .eq 9, 3) := by decide +kernel
theorem dX4_readOrder_30 : decode cX4_readOrder 30 = .ok (.iload_n 1, 1) := by decide +kernel
theorem dX4_readOrder_31 : decode cX4_readOrder 31 = .ok (.bipush 114, 2) := by decide +kernel
theorem dX4_readOrder_33 : decode cX4_readOrder 33 = .ok (.if_icmp .ne 10, 3) := by decide +kernel
theorem dX4_readOrder_36 : decode cX4_readOrder 36 = .ok (.aload_n 0, 1) := by decide +kernel
theorem dX4_readOrder_37 : decode cX4_readOrder 37 = .ok (.invokevirtual 51, 3) := by decide +kernel
theorem dX4_readOrder_40 : decode cX4_readOrder 40 = .ok (.goto 7, 3) := by decide +kernel
theorem dX4_readOrder_43 : decode cX4_readOrder 43 = .ok (.aload_n 0, 1) := by decide +kernel
theorem dX4_readOrder_44 : decode cX4_readOrder 44 = .ok (.invokevirtual 55, 3) := by decide +kernel
theorem dX4_readOrder_47 : decode cX4_readOrder 47 = .ok (.istore_n 2, 1) := by decide +kernel
theorem dX4_readOrder_48 : decode cX4_readOrder 48 = .ok (.iload_n 2, 1) := by decide +kernel
theorem dX4_readOrder_49 : decode cX4_readOrder 49 = .ok (.ifCond .lt 18, 3) := by decide +kernel
theorem dX4_readOrder_52 : decode cX4_readOrder 52 = .ok (.iload_n 1, 1) := by decide +kernel
theorem dX4_readOrder_53 : decode cX4_readOrder 53 = .ok (.bipush 114, 2) := by decide +kernel
theorem dX4_readOrder_55 : decode cX4_readOrder 55 = .ok (.if_icmp .ne 14, 3) := by decide +kernel
theorem dX4_readOrder_58 : decode cX4_readOrder 58 = .ok (.aload_n 0, 1) := by decide +kernel
theorem dX4_readOrder_59 : decode cX4_readOrder 59 = .ok (.bipush 47, 2) := by decide +kernel
theorem dX4_readOrder_61 : decode cX4_readOrder 61 = .ok (.invokevirtual 39, 3) := by decide +kernel
theorem dX4_readOrder_64 : decode cX4_readOrder 64 = .ok (.ifCond .ne 5, 3) := by decide +kernel
theorem dX4_readOrder_67 : decode cX4_readOrder 67 = .ok (.iconst 0, 1) := by decide +kernel
theorem dX4_readOrder_68 : decode cX4_readOrder 68 = .ok (.ireturn, 1) := by decide +kernel
theorem dX4_readOrder_69 : decode cX4_readOrder 69 = .ok (.aload_n 0, 1) := by decide +kernel
theorem dX4_readOrder_70 : decode cX4_readOrder 70 = .ok (.iload_n 1, 1) := by decide +kernel
theorem dX4_readOrder_71 : decode cX4_readOrder 71 = .ok (.invokevirtual 58, 3) := by decide +kernel
theorem dX4_readOrder_74 : decode cX4_readOrder 74 = .ok (.istore_n 3, 1) := by decide +kernel
theorem dX4_readOrder_75 : decode cX4_readOrder 75 = .ok (.iload_n 3, 1) := by decide +kernel
theorem dX4_readOrder_76 : decode cX4_readOrder 76 = .ok (.ifCond .ge 5, 3) := by decide +kernel
theorem dX4_readOrder_79 : decode cX4_readOrder 79 = .ok (.iconst 0, 1) := by decide +kernel
theorem dX4_readOrder_80 : decode cX4_readOrder 80 = .ok (.ireturn, 1) := by decide +kernel
theorem dX4_readOrder_81 : decode cX4_readOrder 81 = .ok (.aload_n 0, 1) := by decide +kernel
theorem dX4_readOrder_82 : decode cX4_readOrder 82 = .ok (.iload_n 1, 1) := by decide +kernel
theorem dX4_readOrder_83 : decode cX4_readOrder 83 = .ok (.iload_n 2, 1) := by decide +kernel
theorem dX4_readOrder_84 : decode cX4_readOrder 84 = .ok (.iload_n 3, 1) := by decide +kernel
theorem dX4_readOrder_85 : decode cX4_readOrder 85 = .ok (.invokevirtual 62, 3) := by decide +kernel
theorem dX4_readOrder_88 : decode cX4_readOrder 88 = .ok (.iconst 1, 1) := by decide +kernel
theorem dX4_readOrder_89 : decode cX4_readOrder 89 = .ok (.ireturn, 1) := by decide +kernel
theorem dX4_takeOther_0 : decode cX4_takeOther 0 = .ok (.iload_n 1, 1) := by decide +kernel
theorem dX4_takeOther_1 : decode cX4_takeOther 1 = .ok (.lookupswitch 59 #[(103, 50), (112, 43), (116, 57), (120, 57)], 43) := by decide +kernel
theorem dX4_takeOther_44 : decode cX4_takeOther 44 = .ok (.aload_n 0, 1) := by decide +kernel
theorem dX4_takeOther_45 : decode cX4_takeOther 45 = .ok (.bipush 11, 2) := by decide +kernel
theorem dX4_takeOther_47 : decode cX4_takeOther 47 = .ok (.invokevirtual 66, 3) := by decide +kernel
theorem dX4_takeOther_50 : decode cX4_takeOther 50 = .ok (.ireturn, 1) := by decide +kernel
theorem dX4_takeOther_51 : decode cX4_takeOther 51 = .ok (.aload_n 0, 1) := by decide +kernel
theorem dX4_takeOther_52 : decode cX4_takeOther 52 = .ok (.bipush 12, 2) := by decide +kernel
theorem dX4_takeOther_54 : decode cX4_takeOther 54 = .ok (.invokevirtual 66, 3) := by decide +kernel
theorem dX4_takeOther_57 : decode cX4_takeOther 57 = .ok (.ireturn, 1) := by decide +kernel
theorem dX4_takeOther_58 : decode cX4_takeOther 58 = .ok (.iconst 0, 1) := by decide +kernel
theorem dX4_takeOther_59 : decode cX4_takeOther 59 = .ok (.ireturn, 1) := by decide +kernel
theorem dX4_takeOther_60 : decode cX4_takeOther 60 = .ok (.aload_n 0, 1) := by decide +kernel
theorem dX4_takeOther_61 : decode cX4_takeOther 61 = .ok (.invokevirtual 55, 3) := by decide +kernel
theorem dX4_takeOther_64 : decode cX4_takeOther 64 = .ok (.ireturn, 1) := by decide +kernel
theorem dX4_add_0 : decode cX4_add 0 = .ok (.aload_n 0, 1) := by decide +kernel
theorem dX4_add_1 : decode cX4_add 1 = .ok (.getfield 32, 3) := by decide +kernel
theorem dX4_add_4 : decode cX4_add 4 = .ok (.ifCond .lt 79, 3) := by decide +kernel
theorem dX4_add_7 : decode cX4_add 7 = .ok (.aload_n 0, 1) := by decide +kernel
theorem dX4_add_8 : decode cX4_add 8 = .ok (.getfield 32, 3) := by decide +kernel
theorem dX4_add_11 : decode cX4_add 11 = .ok (.aload_n 0, 1) := by decide +kernel
theorem dX4_add_12 : decode cX4_add 12 = .ok (.getfield 9, 3) := by decide +kernel
theorem dX4_add_15 : decode cX4_add 15 = .ok (.arraylength, 1) := by decide +kernel
theorem dX4_add_16 : decode cX4_add 16 = .ok (.if_icmp .ge 67, 3) := by decide +kernel
theorem dX4_add_19 : decode cX4_add 19 = .ok (.aload_n 0, 1) := by decide +kernel
theorem dX4_add_20 : decode cX4_add 20 = .ok (.getfield 32, 3) := by decide +kernel
theorem dX4_add_23 : decode cX4_add 23 = .ok (.aload_n 0, 1) := by decide +kernel
theorem dX4_add_24 : decode cX4_add 24 = .ok (.getfield 15, 3) := by decide +kernel
theorem dX4_add_27 : decode cX4_add 27 = .ok (.arraylength, 1) := by decide +kernel
theorem dX4_add_28 : decode cX4_add 28 = .ok (.if_icmp .ge 55, 3) := by decide +kernel
theorem dX4_add_31 : decode cX4_add 31 = .ok (.aload_n 0, 1) := by decide +kernel
theorem dX4_add_32 : decode cX4_add 32 = .ok (.getfield 32, 3) := by decide +kernel
theorem dX4_add_35 : decode cX4_add 35 = .ok (.aload_n 0, 1) := by decide +kernel
theorem dX4_add_36 : decode cX4_add 36 = .ok (.getfield 18, 3) := by decide +kernel
theorem dX4_add_39 : decode cX4_add 39 = .ok (.arraylength, 1) := by decide +kernel
theorem dX4_add_40 : decode cX4_add 40 = .ok (.if_icmp .ge 43, 3) := by decide +kernel
theorem dX4_add_43 : decode cX4_add 43 = .ok (.aload_n 0, 1) := by decide +kernel
theorem dX4_add_44 : decode cX4_add 44 = .ok (.getfield 9, 3) := by decide +kernel
theorem dX4_add_47 : decode cX4_add 47 = .ok (.aload_n 0, 1) := by decide +kernel
theorem dX4_add_48 : decode cX4_add 48 = .ok (.getfield 32, 3) := by decide +kernel
theorem dX4_add_51 : decode cX4_add 51 = .ok (.iload_n 1, 1) := by decide +kernel
theorem dX4_add_52 : decode cX4_add 52 = .ok (.iastore, 1) := by decide +kernel
theorem dX4_add_53 : decode cX4_add 53 = .ok (.aload_n 0, 1) := by decide +kernel
theorem dX4_add_54 : decode cX4_add 54 = .ok (.getfield 15, 3) := by decide +kernel
theorem dX4_add_57 : decode cX4_add 57 = .ok (.aload_n 0, 1) := by decide +kernel
theorem dX4_add_58 : decode cX4_add 58 = .ok (.getfield 32, 3) := by decide +kernel
theorem dX4_add_61 : decode cX4_add 61 = .ok (.iload_n 2, 1) := by decide +kernel
theorem dX4_add_62 : decode cX4_add 62 = .ok (.iastore, 1) := by decide +kernel
theorem dX4_add_63 : decode cX4_add 63 = .ok (.aload_n 0, 1) := by decide +kernel
theorem dX4_add_64 : decode cX4_add 64 = .ok (.getfield 18, 3) := by decide +kernel
theorem dX4_add_67 : decode cX4_add 67 = .ok (.aload_n 0, 1) := by decide +kernel
theorem dX4_add_68 : decode cX4_add 68 = .ok (.getfield 32, 3) := by decide +kernel
theorem dX4_add_71 : decode cX4_add 71 = .ok (.iload_n 3, 1) := by decide +kernel
theorem dX4_add_72 : decode cX4_add 72 = .ok (.iastore, 1) := by decide +kernel
theorem dX4_add_73 : decode cX4_add 73 = .ok (.aload_n 0, 1) := by decide +kernel
theorem dX4_add_74 : decode cX4_add 74 = .ok (.dup, 1) := by decide +kernel
theorem dX4_add_75 : decode cX4_add 75 = .ok (.getfield 32, 3) := by decide +kernel
theorem dX4_add_78 : decode cX4_add 78 = .ok (.iconst 1, 1) := by decide +kernel
theorem dX4_add_79 : decode cX4_add 79 = .ok (.iadd, 1) := by decide +kernel
theorem dX4_add_80 : decode cX4_add 80 = .ok (.putfield 32, 3) := by decide +kernel
theorem dX4_add_83 : decode cX4_add 83 = .ok (.return_, 1) := by decide +kernel
theorem dX4_isKind_0 : decode cX4_isKind 0 = .ok (.iload_n 0, 1) := by decide +kernel
theorem dX4_isKind_1 : decode cX4_isKind 1 = .ok (.bipush 98, 2) := by decide +kernel
theorem dX4_isKind_3 : decode cX4_isKind 3 = .ok (.if_icmp .eq 39, 3) := by decide +kernel
theorem dX4_isKind_6 : decode cX4_isKind 6 = .ok (.iload_n 0, 1) := by decide +kernel
theorem dX4_isKind_7 : decode cX4_isKind 7 = .ok (.bipush 112, 2) := by decide +kernel
theorem dX4_isKind_9 : decode cX4_isKind 9 = .ok (.if_icmp .eq 33, 3) := by decide +kernel
theorem dX4_isKind_12 : decode cX4_isKind 12 = .ok (.iload_n 0, 1) := by decide +kernel
theorem dX4_isKind_13 : decode cX4_isKind 13 = .ok (.bipush 103, 2) := by decide +kernel
theorem dX4_isKind_15 : decode cX4_isKind 15 = .ok (.if_icmp .eq 27, 3) := by decide +kernel
theorem dX4_isKind_18 : decode cX4_isKind 18 = .ok (.iload_n 0, 1) := by decide +kernel
theorem dX4_isKind_19 : decode cX4_isKind 19 = .ok (.bipush 116, 2) := by decide +kernel
theorem dX4_isKind_21 : decode cX4_isKind 21 = .ok (.if_icmp .eq 21, 3) := by decide +kernel
theorem dX4_isKind_24 : decode cX4_isKind 24 = .ok (.iload_n 0, 1) := by decide +kernel
theorem dX4_isKind_25 : decode cX4_isKind 25 = .ok (.bipush 115, 2) := by decide +kernel
theorem dX4_isKind_27 : decode cX4_isKind 27 = .ok (.if_icmp .eq 15, 3) := by decide +kernel
theorem dX4_isKind_30 : decode cX4_isKind 30 = .ok (.iload_n 0, 1) := by decide +kernel
theorem dX4_isKind_31 : decode cX4_isKind 31 = .ok (.bipush 120, 2) := by decide +kernel
theorem dX4_isKind_33 : decode cX4_isKind 33 = .ok (.if_icmp .eq 9, 3) := by decide +kernel
theorem dX4_isKind_36 : decode cX4_isKind 36 = .ok (.iload_n 0, 1) := by decide +kernel
theorem dX4_isKind_37 : decode cX4_isKind 37 = .ok (.bipush 114, 2) := by decide +kernel
theorem dX4_isKind_39 : decode cX4_isKind 39 = .ok (.if_icmp .ne 7, 3) := by decide +kernel
theorem dX4_isKind_42 : decode cX4_isKind 42 = .ok (.iconst 1, 1) := by decide +kernel
theorem dX4_isKind_43 : decode cX4_isKind 43 = .ok (.goto 4, 3) := by decide +kernel
theorem dX4_isKind_46 : decode cX4_isKind 46 = .ok (.iconst 0, 1) := by decide +kernel
theorem dX4_isKind_47 : decode cX4_isKind 47 = .ok (.ireturn, 1) := by decide +kernel
theorem dX4_peek_0 : decode cX4_peek 0 = .ok (.aload_n 0, 1) := by decide +kernel
theorem dX4_peek_1 : decode cX4_peek 1 = .ok (.getfield 21, 3) := by decide +kernel
theorem dX4_peek_4 : decode cX4_peek 4 = .ok (.ifnull 37, 3) := by decide +kernel
theorem dX4_peek_7 : decode cX4_peek 7 = .ok (.aload_n 0, 1) := by decide +kernel
theorem dX4_peek_8 : decode cX4_peek 8 = .ok (.getfield 29, 3) := by decide +kernel
theorem dX4_peek_11 : decode cX4_peek 11 = .ok (.ifCond .lt 30, 3) := by decide +kernel
theorem dX4_peek_14 : decode cX4_peek 14 = .ok (.aload_n 0, 1) := by decide +kernel
theorem dX4_peek_15 : decode cX4_peek 15 = .ok (.getfield 29, 3) := by decide +kernel
theorem dX4_peek_18 : decode cX4_peek 18 = .ok (.aload_n 0, 1) := by decide +kernel
theorem dX4_peek_19 : decode cX4_peek 19 = .ok (.getfield 25, 3) := by decide +kernel
theorem dX4_peek_22 : decode cX4_peek 22 = .ok (.if_icmp .ge 19, 3) := by decide +kernel
theorem dX4_peek_25 : decode cX4_peek 25 = .ok (.aload_n 0, 1) := by decide +kernel
theorem dX4_peek_26 : decode cX4_peek 26 = .ok (.getfield 29, 3) := by decide +kernel
theorem dX4_peek_29 : decode cX4_peek 29 = .ok (.aload_n 0, 1) := by decide +kernel
theorem dX4_peek_30 : decode cX4_peek 30 = .ok (.getfield 21, 3) := by decide +kernel
theorem dX4_peek_33 : decode cX4_peek 33 = .ok (.arraylength, 1) := by decide +kernel
theorem dX4_peek_34 : decode cX4_peek 34 = .ok (.if_icmp .ge 7, 3) := by decide +kernel
theorem dX4_peek_37 : decode cX4_peek 37 = .ok (.iconst 1, 1) := by decide +kernel
theorem dX4_peek_38 : decode cX4_peek 38 = .ok (.goto 4, 3) := by decide +kernel
theorem dX4_peek_41 : decode cX4_peek 41 = .ok (.iconst 0, 1) := by decide +kernel
theorem dX4_peek_42 : decode cX4_peek 42 = .ok (.istore_n 1, 1) := by decide +kernel
theorem dX4_peek_43 : decode cX4_peek 43 = .ok (.iload_n 1, 1) := by decide +kernel
theorem dX4_peek_44 : decode cX4_peek 44 = .ok (.ifCond .eq 15, 3) := by decide +kernel
theorem dX4_peek_47 : decode cX4_peek 47 = .ok (.aload_n 0, 1) := by decide +kernel
theorem dX4_peek_48 : decode cX4_peek 48 = .ok (.getfield 21, 3) := by decide +kernel
theorem dX4_peek_51 : decode cX4_peek 51 = .ok (.aload_n 0, 1) := by decide +kernel
theorem dX4_peek_52 : decode cX4_peek 52 = .ok (.getfield 29, 3) := by decide +kernel
theorem dX4_peek_55 : decode cX4_peek 55 = .ok (.caload, 1) := by decide +kernel
theorem dX4_peek_56 : decode cX4_peek 56 = .ok (.goto 4, 3) := by decide +kernel
theorem dX4_peek_59 : decode cX4_peek 59 = .ok (.iconst 0, 1) := by decide +kernel
theorem dX4_peek_60 : decode cX4_peek 60 = .ok (.ireturn, 1) := by decide +kernel
theorem dX4_take_0 : decode cX4_take 0 = .ok (.aload_n 0, 1) := by decide +kernel
theorem dX4_take_1 : decode cX4_take 1 = .ok (.invokevirtual 43, 3) := by decide +kernel
theorem dX4_take_4 : decode cX4_take 4 = .ok (.iload_n 1, 1) := by decide +kernel
theorem dX4_take_5 : decode cX4_take 5 = .ok (.if_icmp .ne 7, 3) := by decide +kernel
theorem dX4_take_8 : decode cX4_take 8 = .ok (.iconst 1, 1) := by decide +kernel
theorem dX4_take_9 : decode cX4_take 9 = .ok (.goto 4, 3) := by decide +kernel
theorem dX4_take_12 : decode cX4_take 12 = .ok (.iconst 0, 1) := by decide +kernel
theorem dX4_take_13 : decode cX4_take 13 = .ok (.istore_n 2, 1) := by decide +kernel
theorem dX4_take_14 : decode cX4_take 14 = .ok (.iload_n 2, 1) := by decide +kernel
theorem dX4_take_15 : decode cX4_take 15 = .ok (.ifCond .eq 13, 3) := by decide +kernel
theorem dX4_take_18 : decode cX4_take 18 = .ok (.aload_n 0, 1) := by decide +kernel
theorem dX4_take_19 : decode cX4_take 19 = .ok (.dup, 1) := by decide +kernel
theorem dX4_take_20 : decode cX4_take 20 = .ok (.getfield 29, 3) := by decide +kernel
theorem dX4_take_23 : decode cX4_take 23 = .ok (.iconst 1, 1) := by decide +kernel
theorem dX4_take_24 : decode cX4_take 24 = .ok (.iadd, 1) := by decide +kernel
theorem dX4_take_25 : decode cX4_take 25 = .ok (.putfield 29, 3) := by decide +kernel
theorem dX4_take_28 : decode cX4_take 28 = .ok (.iload_n 2, 1) := by decide +kernel
theorem dX4_take_29 : decode cX4_take 29 = .ok (.ireturn, 1) := by decide +kernel
theorem dX4_takeDigit_0 : decode cX4_takeDigit 0 = .ok (.aload_n 0, 1) := by decide +kernel
theorem dX4_takeDigit_1 : decode cX4_takeDigit 1 = .ok (.invokevirtual 43, 3) := by decide +kernel
theorem dX4_takeDigit_4 : decode cX4_takeDigit 4 = .ok (.istore_n 1, 1) := by decide +kernel
theorem dX4_takeDigit_5 : decode cX4_takeDigit 5 = .ok (.iload_n 1, 1) := by decide +kernel
theorem dX4_takeDigit_6 : decode cX4_takeDigit 6 = .ok (.bipush 48, 2) := by decide +kernel
theorem dX4_takeDigit_8 : decode cX4_takeDigit 8 = .ok (.if_icmp .lt 9, 3) := by decide +kernel
theorem dX4_takeDigit_11 : decode cX4_takeDigit 11 = .ok (.iload_n 1, 1) := by decide +kernel
theorem dX4_takeDigit_12 : decode cX4_takeDigit 12 = .ok (.bipush 57, 2) := by decide +kernel
theorem dX4_takeDigit_14 : decode cX4_takeDigit 14 = .ok (.if_icmp .le 5, 3) := by decide +kernel
theorem dX4_takeDigit_17 : decode cX4_takeDigit 17 = .ok (.iconst (-1), 1) := by decide +kernel
theorem dX4_takeDigit_18 : decode cX4_takeDigit 18 = .ok (.ireturn, 1) := by decide +kernel
theorem dX4_takeDigit_19 : decode cX4_takeDigit 19 = .ok (.aload_n 0, 1) := by decide +kernel
theorem dX4_takeDigit_20 : decode cX4_takeDigit 20 = .ok (.dup, 1) := by decide +kernel
theorem dX4_takeDigit_21 : decode cX4_takeDigit 21 = .ok (.getfield 29, 3) := by decide +kernel
theorem dX4_takeDigit_24 : decode cX4_takeDigit 24 = .ok (.iconst 1, 1) := by decide +kernel
theorem dX4_takeDigit_25 : decode cX4_takeDigit 25 = .ok (.iadd, 1) := by decide +kernel
theorem dX4_takeDigit_26 : decode cX4_takeDigit 26 = .ok (.putfield 29, 3) := by decide +kernel
theorem dX4_takeDigit_29 : decode cX4_takeDigit 29 = .ok (.iload_n 1, 1) := by decide +kernel
theorem dX4_takeDigit_30 : decode cX4_takeDigit 30 = .ok (.bipush 48, 2) := by decide +kernel
theorem dX4_takeDigit_32 : decode cX4_takeDigit 32 = .ok (.isub, 1) := by decide +kernel
theorem dX4_takeDigit_33 : decode cX4_takeDigit 33 = .ok (.ireturn, 1) := by decide +kernel
theorem dX4_takeNumber_0 : decode cX4_takeNumber 0 = .ok (.aload_n 0, 1) := by decide +kernel
theorem dX4_takeNumber_1 : decode cX4_takeNumber 1 = .ok (.invokevirtual 55, 3) := by decide +kernel
theorem dX4_takeNumber_4 : decode cX4_takeNumber 4 = .ok (.istore_n 1, 1) := by decide +kernel
theorem dX4_takeNumber_5 : decode cX4_takeNumber 5 = .ok (.iload_n 1, 1) := by decide +kernel
theorem dX4_takeNumber_6 : decode cX4_takeNumber 6 = .ok (.istore_n 2, 1) := by decide +kernel
theorem dX4_takeNumber_7 : decode cX4_takeNumber 7 = .ok (.iconst 1, 1) := by decide +kernel
theorem dX4_takeNumber_8 : decode cX4_takeNumber 8 = .ok (.istore_n 3, 1) := by decide +kernel
theorem dX4_takeNumber_9 : decode cX4_takeNumber 9 = .ok (.iload_n 3, 1) := by decide +kernel
theorem dX4_takeNumber_10 : decode cX4_takeNumber 10 = .ok (.iconst 3, 1) := by decide +kernel
theorem dX4_takeNumber_11 : decode cX4_takeNumber 11 = .ok (.if_icmp .ge 29, 3) := by decide +kernel
theorem dX4_takeNumber_14 : decode cX4_takeNumber 14 = .ok (.iload_n 2, 1) := by decide +kernel
theorem dX4_takeNumber_15 : decode cX4_takeNumber 15 = .ok (.ifCond .lt 25, 3) := by decide +kernel
theorem dX4_takeNumber_18 : decode cX4_takeNumber 18 = .ok (.aload_n 0, 1) := by decide +kernel
theorem dX4_takeNumber_19 : decode cX4_takeNumber 19 = .ok (.invokevirtual 55, 3) := by decide +kernel
theorem dX4_takeNumber_22 : decode cX4_takeNumber 22 = .ok (.istore_n 2, 1) := by decide +kernel
theorem dX4_takeNumber_23 : decode cX4_takeNumber 23 = .ok (.iload_n 2, 1) := by decide +kernel
theorem dX4_takeNumber_24 : decode cX4_takeNumber 24 = .ok (.ifCond .lt 10, 3) := by decide +kernel
theorem dX4_takeNumber_27 : decode cX4_takeNumber 27 = .ok (.bipush 10, 2) := by decide +kernel
theorem dX4_takeNumber_29 : decode cX4_takeNumber 29 = .ok (.iload_n 1, 1) := by decide +kernel
theorem dX4_takeNumber_30 : decode cX4_takeNumber 30 = .ok (.imul, 1) := by decide +kernel
theorem dX4_takeNumber_31 : decode cX4_takeNumber 31 = .ok (.iload_n 2, 1) := by decide +kernel
theorem dX4_takeNumber_32 : decode cX4_takeNumber 32 = .ok (.iadd, 1) := by decide +kernel
theorem dX4_takeNumber_33 : decode cX4_takeNumber 33 = .ok (.istore_n 1, 1) := by decide +kernel
theorem dX4_takeNumber_34 : decode cX4_takeNumber 34 = .ok (.iinc 3 1, 3) := by decide +kernel
theorem dX4_takeNumber_37 : decode cX4_takeNumber 37 = .ok (.goto (-28), 3) := by decide +kernel
theorem dX4_takeNumber_40 : decode cX4_takeNumber 40 = .ok (.iload_n 1, 1) := by decide +kernel
theorem dX4_takeNumber_41 : decode cX4_takeNumber 41 = .ok (.ireturn, 1) := by decide +kernel
theorem dX4_takeCode_0 : decode cX4_takeCode 0 = .ok (.aload_n 0, 1) := by decide +kernel
theorem dX4_takeCode_1 : decode cX4_takeCode 1 = .ok (.invokevirtual 43, 3) := by decide +kernel
theorem dX4_takeCode_4 : decode cX4_takeCode 4 = .ok (.invokestatic 69, 3) := by decide +kernel
theorem dX4_takeCode_7 : decode cX4_takeCode 7 = .ok (.istore_n 2, 1) := by decide +kernel
theorem dX4_takeCode_8 : decode cX4_takeCode 8 = .ok (.iload_n 2, 1) := by decide +kernel
theorem dX4_takeCode_9 : decode cX4_takeCode 9 = .ok (.ifCond .lt 8, 3) := by decide +kernel
theorem dX4_takeCode_12 : decode cX4_takeCode 12 = .ok (.iload_n 2, 1) := by decide +kernel
theorem dX4_takeCode_13 : decode cX4_takeCode 13 = .ok (.iload_n 1, 1) := by decide +kernel
theorem dX4_takeCode_14 : decode cX4_takeCode 14 = .ok (.if_icmp .le 5, 3) := by decide +kernel
theorem dX4_takeCode_17 : decode cX4_takeCode 17 = .ok (.iconst (-1), 1) := by decide +kernel
theorem dX4_takeCode_18 : decode cX4_takeCode 18 = .ok (.ireturn, 1) := by decide +kernel
theorem dX4_takeCode_19 : decode cX4_takeCode 19 = .ok (.aload_n 0, 1) := by decide +kernel
theorem dX4_takeCode_20 : decode cX4_takeCode 20 = .ok (.dup, 1) := by decide +kernel
theorem dX4_takeCode_21 : decode cX4_takeCode 21 = .ok (.getfield 29, 3) := by decide +kernel
theorem dX4_takeCode_24 : decode cX4_takeCode 24 = .ok (.iconst 1, 1) := by decide +kernel
theorem dX4_takeCode_25 : decode cX4_takeCode 25 = .ok (.iadd, 1) := by decide +kernel
theorem dX4_takeCode_26 : decode cX4_takeCode 26 = .ok (.putfield 29, 3) := by decide +kernel
theorem dX4_takeCode_29 : decode cX4_takeCode 29 = .ok (.iload_n 2, 1) := by decide +kernel
theorem dX4_takeCode_30 : decode cX4_takeCode 30 = .ok (.ireturn, 1) := by decide +kernel
end
section
theorem dX5_init_0 : decode cX5_init 0 = .ok (.aload_n 0, 1) := by decide +kernel
theorem dX5_init_1 : decode cX5_init 1 = .ok (.invokespecial 3, 3) := by decide +kernel
theorem dX5_init_4 : decode cX5_init 4 = .ok (.aload_n 0, 1) := by decide +kernel
theorem dX5_init_5 : decode cX5_init 5 = .ok (.new 9, 3) := by decide +kernel
theorem dX5_init_8 : decode cX5_init 8 = .ok (.dup, 1) := by decide +kernel
theorem dX5_init_9 : decode cX5_init 9 = .ok (.invokespecial 11, 3) := by decide +kernel
theorem dX5_init_12 : decode cX5_init 12 = .ok (.putfield 12, 3) := by decide +kernel
theorem dX5_init_15 : decode cX5_init 15 = .ok (.aload_n 0, 1) := by decide +kernel
theorem dX5_init_16 : decode cX5_init 16 = .ok (.new 9, 3) := by decide +kernel
theorem dX5_init_19 : decode cX5_init 19 = .ok (.dup, 1) := by decide +kernel
theorem dX5_init_20 : decode cX5_init 20 = .ok (.invokespecial 11, 3) := by decide +kernel
theorem dX5_init_23 : decode cX5_init 23 = .ok (.putfield 16, 3) := by decide +kernel
theorem dX5_init_26 : decode cX5_init 26 = .ok (.aload_n 0, 1) := by decide +kernel
theorem dX5_init_27 : decode cX5_init 27 = .ok (.new 9, 3) := by decide +kernel
theorem dX5_init_30 : decode cX5_init 30 = .ok (.dup, 1) := by decide +kernel
theorem dX5_init_31 : decode cX5_init 31 = .ok (.invokespecial 11, 3) := by decide +kernel
theorem dX5_init_34 : decode cX5_init 34 = .ok (.putfield 19, 3) := by decide +kernel
theorem dX5_init_37 : decode cX5_init 37 = .ok (.aload_n 0, 1) := by decide +kernel
theorem dX5_init_38 : decode cX5_init 38 = .ok (.new 22, 3) := by decide +kernel
theorem dX5_init_41 : decode cX5_init 41 = .ok (.dup, 1) := by decide +kernel
theorem dX5_init_42 : decode cX5_init 42 = .ok (.invokespecial 24, 3) := by decide +kernel
theorem dX5_init_45 : decode cX5_init 45 = .ok (.putfield 25, 3) := by decide +kernel
theorem dX5_init_48 : decode cX5_init 48 = .ok (.aload_n 0, 1) := by decide +kernel
theorem dX5_init_49 : decode cX5_init 49 = .ok (.new 29, 3) := by decide +kernel
theorem dX5_init_52 : decode cX5_init 52 = .ok (.dup, 1) := by decide +kernel
theorem dX5_init_53 : decode cX5_init 53 = .ok (.invokespecial 31, 3) := by decide +kernel
theorem dX5_init_56 : decode cX5_init 56 = .ok (.putfield 32, 3) := by decide +kernel
theorem dX5_init_59 : decode cX5_init 59 = .ok (.aload_n 0, 1) := by decide +kernel
theorem dX5_init_60 : decode cX5_init 60 = .ok (.new 36, 3) := by decide +kernel
theorem dX5_init_63 : decode cX5_init 63 = .ok (.dup, 1) := by decide +kernel
theorem dX5_init_64 : decode cX5_init 64 = .ok (.invokespecial 38, 3) := by decide +kernel
theorem dX5_init_67 : decode cX5_init 67 = .ok (.putfield 39, 3) := by decide +kernel
theorem dX5_init_70 : decode cX5_init 70 = .ok (.aload_n 0, 1) := by decide +kernel
theorem dX5_init_71 : decode cX5_init 71 = .ok (.new 43, 3) := by decide +kernel
theorem dX5_init_74 : decode cX5_init 74 = .ok (.dup, 1) := by decide +kernel
theorem dX5_init_75 : decode cX5_init 75 = .ok (.invokespecial 45, 3) := by decide +kernel
theorem dX5_init_78 : decode cX5_init 78 = .ok (.putfield 46, 3) := by decide +kernel
theorem dX5_init_81 : decode cX5_init 81 = .ok (.aload_n 0, 1) := by decide +kernel
theorem dX5_init_82 : decode cX5_init 82 = .ok (.bipush 60, 2) := by decide +kernel
theorem dX5_init_84 : decode cX5_init 84 = .ok (.newarray .char, 2) := by decide +kernel
theorem dX5_init_86 : decode cX5_init 86 = .ok (.putfield 50, 3) := by decide +kernel
theorem dX5_init_89 : decode cX5_init 89 = .ok (.aload_n 0, 1) := by decide +kernel
theorem dX5_init_90 : decode cX5_init 90 = .ok (.iconst 0, 1) := by decide +kernel
theorem dX5_init_91 : decode cX5_init 91 = .ok (.putfield 54, 3) := by decide +kernel
theorem dX5_init_94 : decode cX5_init 94 = .ok (.aload_n 0, 1) := by decide +kernel
theorem dX5_init_95 : decode cX5_init 95 = .ok (.iconst (-1), 1) := by decide +kernel
theorem dX5_init_96 : decode cX5_init 96 = .ok (.putfield 58, 3) := by decide +kernel
theorem dX5_init_99 : decode cX5_init 99 = .ok (.aload_n 0, 1) := by decide +kernel
theorem dX5_init_100 : decode cX5_init 100 = .ok (.iconst (-1), 1) := by decide +kernel
theorem dX5_init_101 : decode cX5_init 101 = .ok (.putfield 61, 3) := by decide +kernel
theorem dX5_init_104 : decode cX5_init 104 = .ok (.aload_n 0, 1) := by decide +kernel
theorem dX5_init_105 : decode cX5_init 105 = .ok (.iconst (-1), 1) := by decide +kernel
theorem dX5_init_106 : decode cX5_init 106 = .ok (.putfield 64, 3) := by decide +kernel
theorem dX5_init_109 : decode cX5_init 109 = .ok (.aload_n 0, 1) := by decide +kernel
theorem dX5_init_110 : decode cX5_init 110 = .ok (.iconst 0, 1) := by decide +kernel
theorem dX5_init_111 : decode cX5_init 111 = .ok (.putfield 67, 3) := by decide +kernel
theorem dX5_init_114 : decode cX5_init 114 = .ok (.aload_n 0, 1) := by decide +kernel
theorem dX5_init_115 : decode cX5_init 115 = .ok (.getfield 12, 3) := by decide +kernel
theorem dX5_init_118 : decode cX5_init 118 = .ok (.iconst 3, 1) := by decide +kernel
theorem dX5_init_119 : decode cX5_init 119 = .ok (.iconst 3, 1) := by decide +kernel
theorem dX5_init_120 : decode cX5_init 120 = .ok (.invokevirtual 71, 3) := by decide +kernel
theorem dX5_init_123 : decode cX5_init 123 = .ok (.return_, 1) := by decide +kernel
theorem dX5_board_0 : decode cX5_board 0 = .ok (.aload_n 0, 1) := by decide +kernel
theorem dX5_board_1 : decode cX5_board 1 = .ok (.bipush 98, 2) := by decide +kernel
theorem dX5_board_3 : decode cX5_board 3 = .ok (.iload_n 1, 1) := by decide +kernel
theorem dX5_board_4 : decode cX5_board 4 = .ok (.iload_n 2, 1) := by decide +kernel
theorem dX5_board_5 : decode cX5_board 5 = .ok (.invokevirtual 75, 3) := by decide +kernel
theorem dX5_board_8 : decode cX5_board 8 = .ok (.aload_n 0, 1) := by decide +kernel
theorem dX5_board_9 : decode cX5_board 9 = .ok (.getfield 12, 3) := by decide +kernel
theorem dX5_board_12 : decode cX5_board 12 = .ok (.invokevirtual 79, 3) := by decide +kernel
theorem dX5_board_15 : decode cX5_board 15 = .ok (.ireturn, 1) := by decide +kernel
theorem dX5_put_0 : decode cX5_put 0 = .ok (.aload_n 0, 1) := by decide +kernel
theorem dX5_put_1 : decode cX5_put 1 = .ok (.getfield 12, 3) := by decide +kernel
theorem dX5_put_4 : decode cX5_put 4 = .ok (.getfield 83, 3) := by decide +kernel
theorem dX5_put_7 : decode cX5_put 7 = .ok (.lstore_n 3, 1) := by decide +kernel
theorem dX5_put_8 : decode cX5_put 8 = .ok (.aload_n 0, 1) := by decide +kernel
theorem dX5_put_9 : decode cX5_put 9 = .ok (.bipush 112, 2) := by decide +kernel
theorem dX5_put_11 : decode cX5_put 11 = .ok (.iload_n 1, 1) := by decide +kernel
theorem dX5_put_12 : decode cX5_put 12 = .ok (.iload_n 2, 1) := by decide +kernel
theorem dX5_put_13 : decode cX5_put 13 = .ok (.invokestatic 87, 3) := by decide +kernel
theorem dX5_put_16 : decode cX5_put 16 = .ok (.invokevirtual 75, 3) := by decide +kernel
theorem dX5_put_19 : decode cX5_put 19 = .ok (.lload_n 3, 1) := by decide +kernel
theorem dX5_put_20 : decode cX5_put 20 = .ok (.iload_n 1, 1) := by decide +kernel
theorem dX5_put_21 : decode cX5_put 21 = .ok (.invokestatic 91, 3) := by decide +kernel
theorem dX5_put_24 : decode cX5_put 24 = .ok (.invokestatic 95, 3) := by decide +kernel
theorem dX5_put_27 : decode cX5_put 27 = .ok (.ireturn, 1) := by decide +kernel
theorem dX5_goal_0 : decode cX5_goal 0 = .ok (.aload_n 0, 1) := by decide +kernel
theorem dX5_goal_1 : decode cX5_goal 1 = .ok (.getfield 12, 3) := by decide +kernel
theorem dX5_goal_4 : decode cX5_goal 4 = .ok (.getfield 99, 3) := by decide +kernel
theorem dX5_goal_7 : decode cX5_goal 7 = .ok (.lstore_n 3, 1) := by decide +kernel
theorem dX5_goal_8 : decode cX5_goal 8 = .ok (.aload_n 0, 1) := by decide +kernel
theorem dX5_goal_9 : decode cX5_goal 9 = .ok (.bipush 103, 2) := by decide +kernel
theorem dX5_goal_11 : decode cX5_goal 11 = .ok (.iload_n 1, 1) := by decide +kernel
theorem dX5_goal_12 : decode cX5_goal 12 = .ok (.iload_n 2, 1) := by decide +kernel
theorem dX5_goal_13 : decode cX5_goal 13 = .ok (.invokestatic 87, 3) := by decide +kernel
theorem dX5_goal_16 : decode cX5_goal 16 = .ok (.invokevirtual 75, 3) := by decide +kernel
theorem dX5_goal_19 : decode cX5_goal 19 = .ok (.lload_n 3, 1) := by decide +kernel
theorem dX5_goal_20 : decode cX5_goal 20 = .ok (.iload_n 1, 1) := by decide +kernel
theorem dX5_goal_21 : decode cX5_goal 21 = .ok (.invokestatic 91, 3) := by decide +kernel
theorem dX5_goal_24 : decode cX5_goal 24 = .ok (.invokestatic 95, 3) := by decide +kernel
theorem dX5_goal_27 : decode cX5_goal 27 = .ok (.ireturn, 1) := by decide +kernel
theorem dX5_turn_0 : decode cX5_turn 0 = .ok (.aload_n 0, 1) := by decide +kernel
theorem dX5_turn_1 : decode cX5_turn 1 = .ok (.bipush 116, 2) := by decide +kernel
theorem dX5_turn_3 : decode cX5_turn 3 = .ok (.iload_n 1, 1) := by decide +kernel
theorem dX5_turn_4 : decode cX5_turn 4 = .ok (.iconst 0, 1) := by decide +kernel
theorem dX5_turn_5 : decode cX5_turn 5 = .ok (.invokevirtual 75, 3) := by decide +kernel
theorem dX5_turn_8 : decode cX5_turn 8 = .ok (.aload_n 0, 1) := by decide +kernel
theorem dX5_turn_9 : decode cX5_turn 9 = .ok (.getfield 12, 3) := by decide +kernel
theorem dX5_turn_12 : decode cX5_turn 12 = .ok (.aload_n 0, 1) := by decide +kernel
theorem dX5_turn_13 : decode cX5_turn 13 = .ok (.getfield 12, 3) := by decide +kernel
theorem dX5_turn_16 : decode cX5_turn 16 = .ok (.getfield 83, 3) := by decide +kernel
theorem dX5_turn_19 : decode cX5_turn 19 = .ok (.invokevirtual 102, 3) := by decide +kernel
theorem dX5_turn_22 : decode cX5_turn 22 = .ok (.ireturn, 1) := by decide +kernel
theorem dX5_swap_0 : decode cX5_swap 0 = .ok (.aload_n 0, 1) := by decide +kernel
theorem dX5_swap_1 : decode cX5_swap 1 = .ok (.bipush 115, 2) := by decide +kernel
theorem dX5_swap_3 : decode cX5_swap 3 = .ok (.iload_n 1, 1) := by decide +kernel
theorem dX5_swap_4 : decode cX5_swap 4 = .ok (.iload_n 2, 1) := by decide +kernel
theorem dX5_swap_5 : decode cX5_swap 5 = .ok (.invokevirtual 75, 3) := by decide +kernel
theorem dX5_swap_8 : decode cX5_swap 8 = .ok (.aload_n 0, 1) := by decide +kernel
theorem dX5_swap_9 : decode cX5_swap 9 = .ok (.getfield 12, 3) := by decide +kernel
theorem dX5_swap_12 : decode cX5_swap 12 = .ok (.aload_n 0, 1) := by decide +kernel
theorem dX5_swap_13 : decode cX5_swap 13 = .ok (.getfield 12, 3) := by decide +kernel
theorem dX5_swap_16 : decode cX5_swap 16 = .ok (.getfield 83, 3) := by decide +kernel
theorem dX5_swap_19 : decode cX5_swap 19 = .ok (.invokevirtual 102, 3) := by decide +kernel
theorem dX5_swap_22 : decode cX5_swap 22 = .ok (.ireturn, 1) := by decide +kernel
theorem dX5_bar_0 : decode cX5_bar 0 = .ok (.aload_n 0, 1) := by decide +kernel
theorem dX5_bar_1 : decode cX5_bar 1 = .ok (.bipush 120, 2) := by decide +kernel
theorem dX5_bar_3 : decode cX5_bar 3 = .ok (.iload_n 1, 1) := by decide +kernel
theorem dX5_bar_4 : decode cX5_bar 4 = .ok (.iconst 0, 1) := by decide +kernel
theorem dX5_bar_5 : decode cX5_bar 5 = .ok (.invokevirtual 75, 3) := by decide +kernel
theorem dX5_bar_8 : decode cX5_bar 8 = .ok (.aload_n 0, 1) := by decide +kernel
theorem dX5_bar_9 : decode cX5_bar 9 = .ok (.getfield 12, 3) := by decide +kernel
theorem dX5_bar_12 : decode cX5_bar 12 = .ok (.iload_n 1, 1) := by decide +kernel
theorem dX5_bar_13 : decode cX5_bar 13 = .ok (.invokevirtual 106, 3) := by decide +kernel
theorem dX5_bar_16 : decode cX5_bar 16 = .ok (.ireturn, 1) := by decide +kernel
theorem dX5_scramble_0 : decode cX5_scramble 0 = .ok (.aload_n 0, 1) := by decide +kernel
theorem dX5_scramble_1 : decode cX5_scramble 1 = .ok (.getfield 12, 3) := by decide +kernel
theorem dX5_scramble_4 : decode cX5_scramble 4 = .ok (.getfield 110, 3) := by decide +kernel
theorem dX5_scramble_7 : decode cX5_scramble 7 = .ok (.istore_n 3, 1) := by decide +kernel
theorem dX5_scramble_8 : decode cX5_scramble 8 = .ok (.aload_n 0, 1) := by decide +kernel
theorem dX5_scramble_9 : decode cX5_scramble 9 = .ok (.bipush 114, 2) := by decide +kernel
theorem dX5_scramble_11 : decode cX5_scramble 11 = .ok (.iload_n 1, 1) := by decide +kernel
theorem dX5_scramble_12 : decode cX5_scramble 12 = .ok (.iload_n 2, 1) := by decide +kernel
theorem dX5_scramble_13 : decode cX5_scramble 13 = .ok (.invokevirtual 75, 3) := by decide +kernel
theorem dX5_scramble_16 : decode cX5_scramble 16 = .ok (.aload_n 0, 1) := by decide +kernel
theorem dX5_scramble_17 : decode cX5_scramble 17 = .ok (.getfield 12, 3) := by decide +kernel
theorem dX5_scramble_20 : decode cX5_scramble 20 = .ok (.getfield 110, 3) := by decide +kernel
theorem dX5_scramble_23 : decode cX5_scramble 23 = .ok (.iload_n 3, 1) := by decide +kernel
theorem dX5_scramble_24 : decode cX5_scramble 24 = .ok (.isub, 1) := by decide +kernel
theorem dX5_scramble_25 : decode cX5_scramble 25 = .ok (.ireturn, 1) := by decide +kernel
theorem dX5_step_0 : decode cX5_step 0 = .ok (.aload_n 0, 1) := by decide +kernel
theorem dX5_step_1 : decode cX5_step 1 = .ok (.invokevirtual 113, 3) := by decide +kernel
theorem dX5_step_4 : decode cX5_step 4 = .ok (.invokestatic 116, 3) := by decide +kernel
theorem dX5_step_7 : decode cX5_step 7 = .ok (.aload_n 0, 1) := by decide +kernel
theorem dX5_step_8 : decode cX5_step 8 = .ok (.getfield 32, 3) := by decide +kernel
theorem dX5_step_11 : decode cX5_step 11 = .ok (.aload_n 0, 1) := by decide +kernel
theorem dX5_step_12 : decode cX5_step 12 = .ok (.getfield 12, 3) := by decide +kernel
theorem dX5_step_15 : decode cX5_step 15 = .ok (.invokevirtual 120, 3) := by decide +kernel
theorem dX5_step_18 : decode cX5_step 18 = .ok (.aload_n 0, 1) := by decide +kernel
theorem dX5_step_19 : decode cX5_step 19 = .ok (.getfield 32, 3) := by decide +kernel
theorem dX5_step_22 : decode cX5_step 22 = .ok (.getfield 124, 3) := by decide +kernel
theorem dX5_step_25 : decode cX5_step 25 = .ok (.istore_n 1, 1) := by decide +kernel
theorem dX5_step_26 : decode cX5_step 26 = .ok (.iload_n 1, 1) := by decide +kernel
theorem dX5_step_27 : decode cX5_step 27 = .ok (.ifCond .ge 13, 3) := by decide +kernel
theorem dX5_step_30 : decode cX5_step 30 = .ok (.new 127, 3) := by decide +kernel
theorem dX5_step_33 : decode cX5_step 33 = .ok (.dup, 1) := by decide +kernel
theorem dX5_step_34 : decode cX5_step 34 = .ok (.ldc 129, 2) := by decide +kernel
theorem dX5_step_36 : decode cX5_step 36 = .ok (.invokespecial 131, 3) := by decide +kernel
theorem dX5_step_39 : decode cX5_step 39 = .ok (.athrow, 1) := by decide +kernel
theorem dX5_step_40 : decode cX5_step 40 = .ok (.aload_n 0, 1) := by decide +kernel
theorem dX5_step_41 : decode cX5_step 41 = .ok (.getfield 25, 3) := by decide +kernel
theorem dX5_step_44 : decode cX5_step 44 = .ok (.aload_n 0, 1) := by decide +kernel
theorem dX5_step_45 : decode cX5_step 45 = .ok (.getfield 12, 3) := by decide +kernel
theorem dX5_step_48 : decode cX5_step 48 = .ok (.invokevirtual 134, 3) := by decide +kernel
theorem dX5_step_51 : decode cX5_step 51 = .ok (.aload_n 0, 1) := by decide +kernel
theorem dX5_step_52 : decode cX5_step 52 = .ok (.getfield 12, 3) := by decide +kernel
theorem dX5_step_55 : decode cX5_step 55 = .ok (.dup, 1) := by decide +kernel
theorem dX5_step_56 : decode cX5_step 56 = .ok (.getfield 137, 3) := by decide +kernel
theorem dX5_step_59 : decode cX5_step 59 = .ok (.iconst 1, 1) := by decide +kernel
theorem dX5_step_60 : decode cX5_step 60 = .ok (.iadd, 1) := by decide +kernel
theorem dX5_step_61 : decode cX5_step 61 = .ok (.putfield 137, 3) := by decide +kernel
theorem dX5_step_64 : decode cX5_step 64 = .ok (.aload_n 0, 1) := by decide +kernel
theorem dX5_step_65 : decode cX5_step 65 = .ok (.getfield 12, 3) := by decide +kernel
theorem dX5_step_68 : decode cX5_step 68 = .ok (.iload_n 1, 1) := by decide +kernel
theorem dX5_step_69 : decode cX5_step 69 = .ok (.invokevirtual 140, 3) := by decide +kernel
theorem dX5_step_72 : decode cX5_step 72 = .ok (.iload_n 1, 1) := by decide +kernel
theorem dX5_step_73 : decode cX5_step 73 = .ok (.ireturn, 1) := by decide +kernel
theorem dX5_letter_0 : decode cX5_letter 0 = .ok (.aload_n 0, 1) := by decide +kernel
theorem dX5_letter_1 : decode cX5_letter 1 = .ok (.getfield 12, 3) := by decide +kernel
theorem dX5_letter_4 : decode cX5_letter 4 = .ok (.iload_n 1, 1) := by decide +kernel
theorem dX5_letter_5 : decode cX5_letter 5 = .ok (.invokevirtual 143, 3) := by decide +kernel
theorem dX5_letter_8 : decode cX5_letter 8 = .ok (.invokestatic 146, 3) := by decide +kernel
theorem dX5_letter_11 : decode cX5_letter 11 = .ok (.aload_n 0, 1) := by decide +kernel
theorem dX5_letter_12 : decode cX5_letter 12 = .ok (.getfield 12, 3) := by decide +kernel
theorem dX5_letter_15 : decode cX5_letter 15 = .ok (.getfield 83, 3) := by decide +kernel
theorem dX5_letter_18 : decode cX5_letter 18 = .ok (.iload_n 1, 1) := by decide +kernel
theorem dX5_letter_19 : decode cX5_letter 19 = .ok (.invokestatic 91, 3) := by decide +kernel
theorem dX5_letter_22 : decode cX5_letter 22 = .ok (.invokestatic 95, 3) := by decide +kernel
theorem dX5_letter_25 : decode cX5_letter 25 = .ok (.ireturn, 1) := by decide +kernel
theorem dX5_sign_0 : decode cX5_sign 0 = .ok (.aload_n 0, 1) := by decide +kernel
theorem dX5_sign_1 : decode cX5_sign 1 = .ok (.getfield 12, 3) := by decide +kernel
theorem dX5_sign_4 : decode cX5_sign 4 = .ok (.iload_n 1, 1) := by decide +kernel
theorem dX5_sign_5 : decode cX5_sign 5 = .ok (.invokevirtual 143, 3) := by decide +kernel
theorem dX5_sign_8 : decode cX5_sign 8 = .ok (.invokestatic 146, 3) := by decide +kernel
theorem dX5_sign_11 : decode cX5_sign 11 = .ok (.aload_n 0, 1) := by decide +kernel
theorem dX5_sign_12 : decode cX5_sign 12 = .ok (.getfield 12, 3) := by decide +kernel
theorem dX5_sign_15 : decode cX5_sign 15 = .ok (.getfield 99, 3) := by decide +kernel
theorem dX5_sign_18 : decode cX5_sign 18 = .ok (.iload_n 1, 1) := by decide +kernel
theorem dX5_sign_19 : decode cX5_sign 19 = .ok (.invokestatic 91, 3) := by decide +kernel
theorem dX5_sign_22 : decode cX5_sign 22 = .ok (.invokestatic 95, 3) := by decide +kernel
theorem dX5_sign_25 : decode cX5_sign 25 = .ok (.ireturn, 1) := by decide +kernel
theorem dX5_isBarred_0 : decode cX5_isBarred 0 = .ok (.aload_n 0, 1) := by decide +kernel
theorem dX5_isBarred_1 : decode cX5_isBarred 1 = .ok (.getfield 12, 3) := by decide +kernel
theorem dX5_isBarred_4 : decode cX5_isBarred 4 = .ok (.iload_n 1, 1) := by decide +kernel
theorem dX5_isBarred_5 : decode cX5_isBarred 5 = .ok (.invokevirtual 150, 3) := by decide +kernel
theorem dX5_isBarred_8 : decode cX5_isBarred 8 = .ok (.invokestatic 146, 3) := by decide +kernel
theorem dX5_isBarred_11 : decode cX5_isBarred 11 = .ok (.aload_n 0, 1) := by decide +kernel
theorem dX5_isBarred_12 : decode cX5_isBarred 12 = .ok (.getfield 12, 3) := by decide +kernel
theorem dX5_isBarred_15 : decode cX5_isBarred 15 = .ok (.iload_n 1, 1) := by decide +kernel
theorem dX5_isBarred_16 : decode cX5_isBarred 16 = .ok (.invokevirtual 106, 3) := by decide +kernel
theorem dX5_isBarred_19 : decode cX5_isBarred 19 = .ok (.ireturn, 1) := by decide +kernel
theorem dX5_boardOf_0 : decode cX5_boardOf 0 = .ok (.iload_n 1, 1) := by decide +kernel
theorem dX5_boardOf_1 : decode cX5_boardOf 1 = .ok (.tableswitch 118 0 6 #[43, 51, 59, 67, 85, 93, 101], 43) := by decide +kernel
theorem dX5_boardOf_44 : decode cX5_boardOf 44 = .ok (.aload_n 0, 1) := by decide +kernel
theorem dX5_boardOf_45 : decode cX5_boardOf 45 = .ok (.getfield 12, 3) := by decide +kernel
theorem dX5_boardOf_48 : decode cX5_boardOf 48 = .ok (.getfield 153, 3) := by decide +kernel
theorem dX5_boardOf_51 : decode cX5_boardOf 51 = .ok (.ireturn, 1) := by decide +kernel
theorem dX5_boardOf_52 : decode cX5_boardOf 52 = .ok (.aload_n 0, 1) := by decide +kernel
theorem dX5_boardOf_53 : decode cX5_boardOf 53 = .ok (.getfield 12, 3) := by decide +kernel
theorem dX5_boardOf_56 : decode cX5_boardOf 56 = .ok (.getfield 156, 3) := by decide +kernel
theorem dX5_boardOf_59 : decode cX5_boardOf 59 = .ok (.ireturn, 1) := by decide +kernel
theorem dX5_boardOf_60 : decode cX5_boardOf 60 = .ok (.aload_n 0, 1) := by decide +kernel
theorem dX5_boardOf_61 : decode cX5_boardOf 61 = .ok (.getfield 12, 3) := by decide +kernel
theorem dX5_boardOf_64 : decode cX5_boardOf 64 = .ok (.invokevirtual 159, 3) := by decide +kernel
theorem dX5_boardOf_67 : decode cX5_boardOf 67 = .ok (.ireturn, 1) := by decide +kernel
theorem dX5_boardOf_68 : decode cX5_boardOf 68 = .ok (.aload_n 0, 1) := by decide +kernel
theorem dX5_boardOf_69 : decode cX5_boardOf 69 = .ok (.getfield 12, 3) := by decide +kernel
theorem dX5_boardOf_72 : decode cX5_boardOf 72 = .ok (.invokevirtual 159, 3) := by decide +kernel
theorem dX5_boardOf_75 : decode cX5_boardOf 75 = .ok (.iconst 2, 1) := by decide +kernel
theorem dX5_boardOf_76 : decode cX5_boardOf 76 = .ok (.aload_n 0, 1) := by decide +kernel
theorem dX5_boardOf_77 : decode cX5_boardOf 77 = .ok (.getfield 12, 3) := by decide +kernel
theorem dX5_boardOf_80 : decode cX5_boardOf 80 = .ok (.invokevirtual 162, 3) := by decide +kernel
theorem dX5_boardOf_83 : decode cX5_boardOf 83 = .ok (.imul, 1) := by decide +kernel
theorem dX5_boardOf_84 : decode cX5_boardOf 84 = .ok (.isub, 1) := by decide +kernel
theorem dX5_boardOf_85 : decode cX5_boardOf 85 = .ok (.ireturn, 1) := by decide +kernel
theorem dX5_boardOf_86 : decode cX5_boardOf 86 = .ok (.aload_n 0, 1) := by decide +kernel
theorem dX5_boardOf_87 : decode cX5_boardOf 87 = .ok (.getfield 12, 3) := by decide +kernel
theorem dX5_boardOf_90 : decode cX5_boardOf 90 = .ok (.invokevirtual 165, 3) := by decide +kernel
theorem dX5_boardOf_93 : decode cX5_boardOf 93 = .ok (.ireturn, 1) := by decide +kernel
theorem dX5_boardOf_94 : decode cX5_boardOf 94 = .ok (.aload_n 0, 1) := by decide +kernel
theorem dX5_boardOf_95 : decode cX5_boardOf 95 = .ok (.getfield 12, 3) := by decide +kernel
theorem dX5_boardOf_98 : decode cX5_boardOf 98 = .ok (.invokevirtual 168, 3) := by decide +kernel
theorem dX5_boardOf_101 : decode cX5_boardOf 101 = .ok (.ireturn, 1) := by decide +kernel
theorem dX5_boardOf_102 : decode cX5_boardOf 102 = .ok (.aload_n 0, 1) := by decide +kernel
theorem dX5_boardOf_103 : decode cX5_boardOf 103 = .ok (.getfield 12, 3) := by decide +kernel
theorem dX5_boardOf_106 : decode cX5_boardOf 106 = .ok (.aload_n 0, 1) := by decide +kernel
theorem dX5_boardOf_107 : decode cX5_boardOf 107 = .ok (.getfield 12, 3) := by decide +kernel
theorem dX5_boardOf_110 : decode cX5_boardOf 110 = .ok (.getfield 99, 3) := by decide +kernel
theorem dX5_boardOf_113 : decode cX5_boardOf 113 = .ok (.bipush 12, 2) := by decide +kernel
theorem dX5_boardOf_115 : decode cX5_boardOf 115 = .ok (.invokevirtual 171, 3) := by decide +kernel
theorem dX5_boardOf_118 : decode cX5_boardOf 118 = .ok (.ireturn, 1) := by decide +kernel
theorem dX5_boardOf_119 : decode cX5_boardOf 119 = .ok (.new 174, 3) := by decide +kernel
theorem dX5_boardOf_122 : decode cX5_boardOf 122 = .ok (.dup, 1) := by decide +kernel
theorem dX5_boardOf_123 : decode cX5_boardOf 123 = .ok (.ldc 176, 2) := by decide +kernel
theorem dX5_boardOf_125 : decode cX5_boardOf 125 = .ok (.invokespecial 178, 3) := by decide +kernel
theorem dX5_boardOf_128 : decode cX5_boardOf 128 = .ok (.athrow, 1) := by decide +kernel
theorem dX5_away_0 : decode cX5_away 0 = .ok (.iload_n 1, 1) := by decide +kernel
theorem dX5_away_1 : decode cX5_away 1 = .ok (.ifCond .eq 10, 3) := by decide +kernel
theorem dX5_away_4 : decode cX5_away 4 = .ok (.aload_n 0, 1) := by decide +kernel
theorem dX5_away_5 : decode cX5_away 5 = .ok (.invokevirtual 179, 3) := by decide +kernel
theorem dX5_away_8 : decode cX5_away 8 = .ok (.goto 7, 3) := by decide +kernel
theorem dX5_away_11 : decode cX5_away 11 = .ok (.aload_n 0, 1) := by decide +kernel
theorem dX5_away_12 : decode cX5_away 12 = .ok (.invokevirtual 182, 3) := by decide +kernel
theorem dX5_away_15 : decode cX5_away 15 = .ok (.istore_n 2, 1) := by decide +kernel
theorem dX5_away_16 : decode cX5_away 16 = .ok (.iload_n 2, 1) := by decide +kernel
theorem dX5_away_17 : decode cX5_away 17 = .ok (.iconst 3, 1) := by decide +kernel
theorem dX5_away_18 : decode cX5_away 18 = .ok (.if_icmp .le 13, 3) := by decide +kernel
theorem dX5_away_21 : decode cX5_away 21 = .ok (.new 127, 3) := by decide +kernel
theorem dX5_away_24 : decode cX5_away 24 = .ok (.dup, 1) := by decide +kernel
theorem dX5_away_25 : decode cX5_away 25 = .ok (.ldc 129, 2) := by decide +kernel
theorem dX5_away_27 : decode cX5_away 27 = .ok (.invokespecial 131, 3) := by decide +kernel
theorem dX5_away_30 : decode cX5_away 30 = .ok (.athrow, 1) := by decide +kernel
theorem dX5_away_31 : decode cX5_away 31 = .ok (.iload_n 2, 1) := by decide +kernel
theorem dX5_away_32 : decode cX5_away 32 = .ok (.ireturn, 1) := by decide +kernel
theorem dX5_firstTurn_0 : decode cX5_firstTurn 0 = .ok (.aload_n 0, 1) := by decide +kernel
theorem dX5_firstTurn_1 : decode cX5_firstTurn 1 = .ok (.getfield 32, 3) := by decide +kernel
theorem dX5_firstTurn_4 : decode cX5_firstTurn 4 = .ok (.aload_n 0, 1) := by decide +kernel
theorem dX5_firstTurn_5 : decode cX5_firstTurn 5 = .ok (.getfield 12, 3) := by decide +kernel
theorem dX5_firstTurn_8 : decode cX5_firstTurn 8 = .ok (.invokevirtual 120, 3) := by decide +kernel
theorem dX5_firstTurn_11 : decode cX5_firstTurn 11 = .ok (.aload_n 0, 1) := by decide +kernel
theorem dX5_firstTurn_12 : decode cX5_firstTurn 12 = .ok (.getfield 32, 3) := by decide +kernel
theorem dX5_firstTurn_15 : decode cX5_firstTurn 15 = .ok (.getfield 124, 3) := by decide +kernel
theorem dX5_firstTurn_18 : decode cX5_firstTurn 18 = .ok (.ifCond .ge 13, 3) := by decide +kernel
theorem dX5_firstTurn_21 : decode cX5_firstTurn 21 = .ok (.new 127, 3) := by decide +kernel
theorem dX5_firstTurn_24 : decode cX5_firstTurn 24 = .ok (.dup, 1) := by decide +kernel
theorem dX5_firstTurn_25 : decode cX5_firstTurn 25 = .ok (.ldc 185, 2) := by decide +kernel
theorem dX5_firstTurn_27 : decode cX5_firstTurn 27 = .ok (.invokespecial 131, 3) := by decide +kernel
theorem dX5_firstTurn_30 : decode cX5_firstTurn 30 = .ok (.athrow, 1) := by decide +kernel
theorem dX5_firstTurn_31 : decode cX5_firstTurn 31 = .ok (.aload_n 0, 1) := by decide +kernel
theorem dX5_firstTurn_32 : decode cX5_firstTurn 32 = .ok (.getfield 32, 3) := by decide +kernel
theorem dX5_firstTurn_35 : decode cX5_firstTurn 35 = .ok (.getfield 124, 3) := by decide +kernel
theorem dX5_firstTurn_38 : decode cX5_firstTurn 38 = .ok (.ireturn, 1) := by decide +kernel
theorem dX5_isOut_0 : decode cX5_isOut 0 = .ok (.aload_n 0, 1) := by decide +kernel
theorem dX5_isOut_1 : decode cX5_isOut 1 = .ok (.getfield 12, 3) := by decide +kernel
theorem dX5_isOut_4 : decode cX5_isOut 4 = .ok (.invokevirtual 187, 3) := by decide +kernel
theorem dX5_isOut_7 : decode cX5_isOut 7 = .ok (.ireturn, 1) := by decide +kernel
theorem dX5_isOdd_0 : decode cX5_isOdd 0 = .ok (.aload_n 0, 1) := by decide +kernel
theorem dX5_isOdd_1 : decode cX5_isOdd 1 = .ok (.getfield 12, 3) := by decide +kernel
theorem dX5_isOdd_4 : decode cX5_isOdd 4 = .ok (.invokevirtual 191, 3) := by decide +kernel
theorem dX5_isOdd_7 : decode cX5_isOdd 7 = .ok (.ifCond .ne 13, 3) := by decide +kernel
theorem dX5_isOdd_10 : decode cX5_isOdd 10 = .ok (.new 127, 3) := by decide +kernel
theorem dX5_isOdd_13 : decode cX5_isOdd 13 = .ok (.dup, 1) := by decide +kernel
theorem dX5_isOdd_14 : decode cX5_isOdd 14 = .ok (.ldc 194, 2) := by decide +kernel
theorem dX5_isOdd_16 : decode cX5_isOdd 16 = .ok (.invokespecial 131, 3) := by decide +kernel
theorem dX5_isOdd_19 : decode cX5_isOdd 19 = .ok (.athrow, 1) := by decide +kernel
theorem dX5_isOdd_20 : decode cX5_isOdd 20 = .ok (.iload_n 1, 1) := by decide +kernel
theorem dX5_isOdd_21 : decode cX5_isOdd 21 = .ok (.ifCond .eq 20, 3) := by decide +kernel
theorem dX5_isOdd_24 : decode cX5_isOdd 24 = .ok (.aload_n 0, 1) := by decide +kernel
theorem dX5_isOdd_25 : decode cX5_isOdd 25 = .ok (.getfield 12, 3) := by decide +kernel
theorem dX5_isOdd_28 : decode cX5_isOdd 28 = .ok (.aload_n 0, 1) := by decide +kernel
theorem dX5_isOdd_29 : decode cX5_isOdd 29 = .ok (.getfield 12, 3) := by decide +kernel
theorem dX5_isOdd_32 : decode cX5_isOdd 32 = .ok (.getfield 99, 3) := by decide +kernel
theorem dX5_isOdd_35 : decode cX5_isOdd 35 = .ok (.invokevirtual 196, 3) := by decide +kernel
theorem dX5_isOdd_38 : decode cX5_isOdd 38 = .ok (.goto 17, 3) := by decide +kernel
theorem dX5_isOdd_41 : decode cX5_isOdd 41 = .ok (.aload_n 0, 1) := by decide +kernel
theorem dX5_isOdd_42 : decode cX5_isOdd 42 = .ok (.getfield 12, 3) := by decide +kernel
theorem dX5_isOdd_45 : decode cX5_isOdd 45 = .ok (.aload_n 0, 1) := by decide +kernel
theorem dX5_isOdd_46 : decode cX5_isOdd 46 = .ok (.getfield 12, 3) := by decide +kernel
theorem dX5_isOdd_49 : decode cX5_isOdd 49 = .ok (.getfield 99, 3) := by decide +kernel
theorem dX5_isOdd_52 : decode cX5_isOdd 52 = .ok (.invokevirtual 200, 3) := by decide +kernel
theorem dX5_isOdd_55 : decode cX5_isOdd 55 = .ok (.ireturn, 1) := by decide +kernel
theorem dX5_home_0 : decode cX5_home 0 = .ok (.aload_n 0, 1) := by decide +kernel
theorem dX5_home_1 : decode cX5_home 1 = .ok (.getfield 12, 3) := by decide +kernel
theorem dX5_home_4 : decode cX5_home 4 = .ok (.aload_n 0, 1) := by decide +kernel
theorem dX5_home_5 : decode cX5_home 5 = .ok (.getfield 12, 3) := by decide +kernel
theorem dX5_home_8 : decode cX5_home 8 = .ok (.getfield 83, 3) := by decide +kernel
theorem dX5_home_11 : decode cX5_home 11 = .ok (.invokevirtual 102, 3) := by decide +kernel
theorem dX5_home_14 : decode cX5_home 14 = .ok (.ireturn, 1) := by decide +kernel
theorem dX5_would_0 : decode cX5_would 0 = .ok (.aload_n 0, 1) := by decide +kernel
theorem dX5_would_1 : decode cX5_would 1 = .ok (.getfield 12, 3) := by decide +kernel
theorem dX5_would_4 : decode cX5_would 4 = .ok (.iload_n 1, 1) := by decide +kernel
theorem dX5_would_5 : decode cX5_would 5 = .ok (.invokevirtual 203, 3) := by decide +kernel
theorem dX5_would_8 : decode cX5_would 8 = .ok (.invokestatic 146, 3) := by decide +kernel
theorem dX5_would_11 : decode cX5_would 11 = .ok (.aload_n 0, 1) := by decide +kernel
theorem dX5_would_12 : decode cX5_would 12 = .ok (.getfield 12, 3) := by decide +kernel
theorem dX5_would_15 : decode cX5_would 15 = .ok (.aload_n 0, 1) := by decide +kernel
theorem dX5_would_16 : decode cX5_would 16 = .ok (.getfield 12, 3) := by decide +kernel
theorem dX5_would_19 : decode cX5_would 19 = .ok (.aload_n 0, 1) := by decide +kernel
theorem dX5_would_20 : decode cX5_would 20 = .ok (.getfield 12, 3) := by decide +kernel
theorem dX5_would_23 : decode cX5_would 23 = .ok (.getfield 83, 3) := by decide +kernel
theorem dX5_would_26 : decode cX5_would 26 = .ok (.iload_n 1, 1) := by decide +kernel
theorem dX5_would_27 : decode cX5_would 27 = .ok (.invokevirtual 206, 3) := by decide +kernel
theorem dX5_would_30 : decode cX5_would 30 = .ok (.invokevirtual 102, 3) := by decide +kernel
theorem dX5_would_33 : decode cX5_would 33 = .ok (.ireturn, 1) := by decide +kernel
theorem dX5_best_0 : decode cX5_best 0 = .ok (.aload_n 0, 1) := by decide +kernel
theorem dX5_best_1 : decode cX5_best 1 = .ok (.getfield 12, 3) := by decide +kernel
theorem dX5_best_4 : decode cX5_best 4 = .ok (.invokevirtual 210, 3) := by decide +kernel
theorem dX5_best_7 : decode cX5_best 7 = .ok (.istore_n 1, 1) := by decide +kernel
theorem dX5_best_8 : decode cX5_best 8 = .ok (.iload_n 1, 1) := by decide +kernel
theorem dX5_best_9 : decode cX5_best 9 = .ok (.ifCond .ge 13, 3) := by decide +kernel
theorem dX5_best_12 : decode cX5_best 12 = .ok (.new 127, 3) := by decide +kernel
theorem dX5_best_15 : decode cX5_best 15 = .ok (.dup, 1) := by decide +kernel
theorem dX5_best_16 : decode cX5_best 16 = .ok (.ldc 213, 2) := by decide +kernel
theorem dX5_best_18 : decode cX5_best 18 = .ok (.invokespecial 131, 3) := by decide +kernel
theorem dX5_best_21 : decode cX5_best 21 = .ok (.athrow, 1) := by decide +kernel
theorem dX5_best_22 : decode cX5_best 22 = .ok (.iload_n 1, 1) := by decide +kernel
theorem dX5_best_23 : decode cX5_best 23 = .ok (.ireturn, 1) := by decide +kernel
theorem dX5_where_0 : decode cX5_where 0 = .ok (.aload_n 0, 1) := by decide +kernel
theorem dX5_where_1 : decode cX5_where 1 = .ok (.getfield 12, 3) := by decide +kernel
theorem dX5_where_4 : decode cX5_where 4 = .ok (.iload_n 1, 1) := by decide +kernel
theorem dX5_where_5 : decode cX5_where 5 = .ok (.invokevirtual 143, 3) := by decide +kernel
theorem dX5_where_8 : decode cX5_where 8 = .ok (.ifCond .eq 18, 3) := by decide +kernel
theorem dX5_where_11 : decode cX5_where 11 = .ok (.aload_n 0, 1) := by decide +kernel
theorem dX5_where_12 : decode cX5_where 12 = .ok (.getfield 12, 3) := by decide +kernel
theorem dX5_where_15 : decode cX5_where 15 = .ok (.iload_n 2, 1) := by decide +kernel
theorem dX5_where_16 : decode cX5_where 16 = .ok (.invokevirtual 203, 3) := by decide +kernel
theorem dX5_where_19 : decode cX5_where 19 = .ok (.ifCond .eq 7, 3) := by decide +kernel
theorem dX5_where_22 : decode cX5_where 22 = .ok (.iconst 1, 1) := by decide +kernel
theorem dX5_where_23 : decode cX5_where 23 = .ok (.goto 4, 3) := by decide +kernel
theorem dX5_where_26 : decode cX5_where 26 = .ok (.iconst 0, 1) := by decide +kernel
theorem dX5_where_27 : decode cX5_where 27 = .ok (.invokestatic 146, 3) := by decide +kernel
theorem dX5_where_30 : decode cX5_where 30 = .ok (.iload_n 3, 1) := by decide +kernel
theorem dX5_where_31 : decode cX5_where 31 = .ok (.ifCond .lt 9, 3) := by decide +kernel
theorem dX5_where_34 : decode cX5_where 34 = .ok (.iload_n 3, 1) := by decide +kernel
theorem dX5_where_35 : decode cX5_where 35 = .ok (.bipush 99, 2) := by decide +kernel
theorem dX5_where_37 : decode cX5_where 37 = .ok (.if_icmp .le 13, 3) := by decide +kernel
theorem dX5_where_40 : decode cX5_where 40 = .ok (.new 174, 3) := by decide +kernel
theorem dX5_where_43 : decode cX5_where 43 = .ok (.dup, 1) := by decide +kernel
theorem dX5_where_44 : decode cX5_where 44 = .ok (.ldc 215, 2) := by decide +kernel
theorem dX5_where_46 : decode cX5_where 46 = .ok (.invokespecial 178, 3) := by decide +kernel
theorem dX5_where_49 : decode cX5_where 49 = .ok (.athrow, 1) := by decide +kernel
theorem dX5_where_50 : decode cX5_where 50 = .ok (.aload_n 0, 1) := by decide +kernel
theorem dX5_where_51 : decode cX5_where 51 = .ok (.getfield 12, 3) := by decide +kernel
theorem dX5_where_54 : decode cX5_where 54 = .ok (.iload_n 1, 1) := by decide +kernel
theorem dX5_where_55 : decode cX5_where 55 = .ok (.iload_n 2, 1) := by decide +kernel
theorem dX5_where_56 : decode cX5_where 56 = .ok (.iload_n 3, 1) := by decide +kernel
theorem dX5_where_57 : decode cX5_where 57 = .ok (.invokevirtual 217, 3) := by decide +kernel
theorem dX5_where_60 : decode cX5_where 60 = .ok (.ireturn, 1) := by decide +kernel
theorem dX5_far_0 : decode cX5_far 0 = .ok (.aload_n 0, 1) := by decide +kernel
theorem dX5_far_1 : decode cX5_far 1 = .ok (.getfield 12, 3) := by decide +kernel
theorem dX5_far_4 : decode cX5_far 4 = .ok (.iload_n 1, 1) := by decide +kernel
theorem dX5_far_5 : decode cX5_far 5 = .ok (.invokevirtual 143, 3) := by decide +kernel
theorem dX5_far_8 : decode cX5_far 8 = .ok (.ifCond .eq 18, 3) := by decide +kernel
theorem dX5_far_11 : decode cX5_far 11 = .ok (.aload_n 0, 1) := by decide +kernel
theorem dX5_far_12 : decode cX5_far 12 = .ok (.getfield 12, 3) := by decide +kernel
theorem dX5_far_15 : decode cX5_far 15 = .ok (.iload_n 2, 1) := by decide +kernel
theorem dX5_far_16 : decode cX5_far 16 = .ok (.invokevirtual 143, 3) := by decide +kernel
theorem dX5_far_19 : decode cX5_far 19 = .ok (.ifCond .eq 7, 3) := by decide +kernel
theorem dX5_far_22 : decode cX5_far 22 = .ok (.iconst 1, 1) := by decide +kernel
theorem dX5_far_23 : decode cX5_far 23 = .ok (.goto 4, 3) := by decide +kernel
theorem dX5_far_26 : decode cX5_far 26 = .ok (.iconst 0, 1) := by decide +kernel
theorem dX5_far_27 : decode cX5_far 27 = .ok (.invokestatic 146, 3) := by decide +kernel
theorem dX5_far_30 : decode cX5_far 30 = .ok (.aload_n 0, 1) := by decide +kernel
theorem dX5_far_31 : decode cX5_far 31 = .ok (.getfield 12, 3) := by decide +kernel
theorem dX5_far_34 : decode cX5_far 34 = .ok (.iload_n 1, 1) := by decide +kernel
theorem dX5_far_35 : decode cX5_far 35 = .ok (.iload_n 2, 1) := by decide +kernel
theorem dX5_far_36 : decode cX5_far 36 = .ok (.invokevirtual 221, 3) := by decide +kernel
theorem dX5_far_39 : decode cX5_far 39 = .ok (.ireturn, 1) := by decide +kernel
theorem dX5_sings_0 : decode cX5_sings 0 = .ok (.aload_n 0, 1) := by decide +kernel
theorem dX5_sings_1 : decode cX5_sings 1 = .ok (.getfield 12, 3) := by decide +kernel
theorem dX5_sings_4 : decode cX5_sings 4 = .ok (.iload_n 1, 1) := by decide +kernel
theorem dX5_sings_5 : decode cX5_sings 5 = .ok (.invokevirtual 150, 3) := by decide +kernel
theorem dX5_sings_8 : decode cX5_sings 8 = .ok (.invokestatic 146, 3) := by decide +kernel
theorem dX5_sings_11 : decode cX5_sings 11 = .ok (.aload_n 0, 1) := by decide +kernel
theorem dX5_sings_12 : decode cX5_sings 12 = .ok (.getfield 12, 3) := by decide +kernel
theorem dX5_sings_15 : decode cX5_sings 15 = .ok (.iload_n 1, 1) := by decide +kernel
theorem dX5_sings_16 : decode cX5_sings 16 = .ok (.invokevirtual 225, 3) := by decide +kernel
theorem dX5_sings_19 : decode cX5_sings 19 = .ok (.ireturn, 1) := by decide +kernel
theorem dX5_singing_0 : decode cX5_singing 0 = .ok (.iconst 0, 1) := by decide +kernel
theorem dX5_singing_1 : decode cX5_singing 1 = .ok (.istore_n 1, 1) := by decide +kernel
theorem dX5_singing_2 : decode cX5_singing 2 = .ok (.iconst 0, 1) := by decide +kernel
theorem dX5_singing_3 : decode cX5_singing 3 = .ok (.istore_n 2, 1) := by decide +kernel
theorem dX5_singing_4 : decode cX5_singing 4 = .ok (.iload_n 2, 1) := by decide +kernel
theorem dX5_singing_5 : decode cX5_singing 5 = .ok (.aload_n 0, 1) := by decide +kernel
theorem dX5_singing_6 : decode cX5_singing 6 = .ok (.getfield 12, 3) := by decide +kernel
theorem dX5_singing_9 : decode cX5_singing 9 = .ok (.invokevirtual 228, 3) := by decide +kernel
theorem dX5_singing_12 : decode cX5_singing 12 = .ok (.if_icmp .ge 23, 3) := by decide +kernel
theorem dX5_singing_15 : decode cX5_singing 15 = .ok (.aload_n 0, 1) := by decide +kernel
theorem dX5_singing_16 : decode cX5_singing 16 = .ok (.getfield 12, 3) := by decide +kernel
theorem dX5_singing_19 : decode cX5_singing 19 = .ok (.iload_n 2, 1) := by decide +kernel
theorem dX5_singing_20 : decode cX5_singing 20 = .ok (.invokevirtual 225, 3) := by decide +kernel
theorem dX5_singing_23 : decode cX5_singing 23 = .ok (.ifCond .eq 6, 3) := by decide +kernel
theorem dX5_singing_26 : decode cX5_singing 26 = .ok (.iinc 1 1, 3) := by decide +kernel
theorem dX5_singing_29 : decode cX5_singing 29 = .ok (.iinc 2 1, 3) := by decide +kernel
theorem dX5_singing_32 : decode cX5_singing 32 = .ok (.goto (-28), 3) := by decide +kernel
theorem dX5_singing_35 : decode cX5_singing 35 = .ok (.iload_n 1, 1) := by decide +kernel
theorem dX5_singing_36 : decode cX5_singing 36 = .ok (.ireturn, 1) := by decide +kernel
theorem dX5_ranked_0 : decode cX5_ranked 0 = .ok (.aload_n 0, 1) := by decide +kernel
theorem dX5_ranked_1 : decode cX5_ranked 1 = .ok (.getfield 12, 3) := by decide +kernel
theorem dX5_ranked_4 : decode cX5_ranked 4 = .ok (.iload_n 1, 1) := by decide +kernel
theorem dX5_ranked_5 : decode cX5_ranked 5 = .ok (.invokevirtual 231, 3) := by decide +kernel
theorem dX5_ranked_8 : decode cX5_ranked 8 = .ok (.istore_n 2, 1) := by decide +kernel
theorem dX5_ranked_9 : decode cX5_ranked 9 = .ok (.iload_n 2, 1) := by decide +kernel
theorem dX5_ranked_10 : decode cX5_ranked 10 = .ok (.ifCond .ge 13, 3) := by decide +kernel
theorem dX5_ranked_13 : decode cX5_ranked 13 = .ok (.new 127, 3) := by decide +kernel
theorem dX5_ranked_16 : decode cX5_ranked 16 = .ok (.dup, 1) := by decide +kernel
theorem dX5_ranked_17 : decode cX5_ranked 17 = .ok (.ldc 235, 2) := by decide +kernel
theorem dX5_ranked_19 : decode cX5_ranked 19 = .ok (.invokespecial 131, 3) := by decide +kernel
theorem dX5_ranked_22 : decode cX5_ranked 22 = .ok (.athrow, 1) := by decide +kernel
theorem dX5_ranked_23 : decode cX5_ranked 23 = .ok (.iload_n 2, 1) := by decide +kernel
theorem dX5_ranked_24 : decode cX5_ranked 24 = .ok (.ireturn, 1) := by decide +kernel
theorem dX5_text_0 : decode cX5_text 0 = .ok (.aload_n 0, 1) := by decide +kernel
theorem dX5_text_1 : decode cX5_text 1 = .ok (.aload_n 0, 1) := by decide +kernel
theorem dX5_text_2 : decode cX5_text 2 = .ok (.getfield 12, 3) := by decide +kernel
theorem dX5_text_5 : decode cX5_text 5 = .ok (.getfield 83, 3) := by decide +kernel
theorem dX5_text_8 : decode cX5_text 8 = .ok (.invokevirtual 237, 3) := by decide +kernel
theorem dX5_text_11 : decode cX5_text 11 = .ok (.ireturn, 1) := by decide +kernel
theorem dX5_goalText_0 : decode cX5_goalText 0 = .ok (.aload_n 0, 1) := by decide +kernel
theorem dX5_goalText_1 : decode cX5_goalText 1 = .ok (.aload_n 0, 1) := by decide +kernel
theorem dX5_goalText_2 : decode cX5_goalText 2 = .ok (.getfield 12, 3) := by decide +kernel
theorem dX5_goalText_5 : decode cX5_goalText 5 = .ok (.getfield 99, 3) := by decide +kernel
theorem dX5_goalText_8 : decode cX5_goalText 8 = .ok (.invokevirtual 237, 3) := by decide +kernel
theorem dX5_goalText_11 : decode cX5_goalText 11 = .ok (.ireturn, 1) := by decide +kernel
theorem dX5_lineText_0 : decode cX5_lineText 0 = .ok (.aload_n 0, 1) := by decide +kernel
theorem dX5_lineText_1 : decode cX5_lineText 1 = .ok (.getfield 12, 3) := by decide +kernel
theorem dX5_lineText_4 : decode cX5_lineText 4 = .ok (.iload_n 1, 1) := by decide +kernel
theorem dX5_lineText_5 : decode cX5_lineText 5 = .ok (.invokevirtual 150, 3) := by decide +kernel
theorem dX5_lineText_8 : decode cX5_lineText 8 = .ok (.invokestatic 146, 3) := by decide +kernel
theorem dX5_lineText_11 : decode cX5_lineText 11 = .ok (.aload_n 0, 1) := by decide +kernel
theorem dX5_lineText_12 : decode cX5_lineText 12 = .ok (.getfield 39, 3) := by decide +kernel
theorem dX5_lineText_15 : decode cX5_lineText 15 = .ok (.invokevirtual 240, 3) := by decide +kernel
theorem dX5_lineText_18 : decode cX5_lineText 18 = .ok (.aload_n 0, 1) := by decide +kernel
theorem dX5_lineText_19 : decode cX5_lineText 19 = .ok (.getfield 12, 3) := by decide +kernel
theorem dX5_lineText_22 : decode cX5_lineText 22 = .ok (.iload_n 1, 1) := by decide +kernel
theorem dX5_lineText_23 : decode cX5_lineText 23 = .ok (.invokevirtual 106, 3) := by decide +kernel
theorem dX5_lineText_26 : decode cX5_lineText 26 = .ok (.ifCond .eq 12, 3) := by decide +kernel
theorem dX5_lineText_29 : decode cX5_lineText 29 = .ok (.aload_n 0, 1) := by decide +kernel
theorem dX5_lineText_30 : decode cX5_lineText 30 = .ok (.getfield 39, 3) := by decide +kernel
theorem dX5_lineText_33 : decode cX5_lineText 33 = .ok (.bipush 35, 2) := by decide +kernel
theorem dX5_lineText_35 : decode cX5_lineText 35 = .ok (.invokevirtual 243, 3) := by decide +kernel
theorem dX5_lineText_38 : decode cX5_lineText 38 = .ok (.iconst 0, 1) := by decide +kernel
theorem dX5_lineText_39 : decode cX5_lineText 39 = .ok (.istore_n 2, 1) := by decide +kernel
theorem dX5_lineText_40 : decode cX5_lineText 40 = .ok (.iload_n 2, 1) := by decide +kernel
theorem dX5_lineText_41 : decode cX5_lineText 41 = .ok (.aload_n 0, 1) := by decide +kernel
theorem dX5_lineText_42 : decode cX5_lineText 42 = .ok (.getfield 12, 3) := by decide +kernel
theorem dX5_lineText_45 : decode cX5_lineText 45 = .ok (.iload_n 1, 1) := by decide +kernel
theorem dX5_lineText_46 : decode cX5_lineText 46 = .ok (.invokevirtual 247, 3) := by decide +kernel
theorem dX5_lineText_49 : decode cX5_lineText 49 = .ok (.if_icmp .ge 38, 3) := by decide +kernel
theorem dX5_lineText_52 : decode cX5_lineText 52 = .ok (.aload_n 0, 1) := by decide +kernel
theorem dX5_lineText_53 : decode cX5_lineText 53 = .ok (.getfield 39, 3) := by decide +kernel
theorem dX5_lineText_56 : decode cX5_lineText 56 = .ok (.aload_n 0, 1) := by decide +kernel
theorem dX5_lineText_57 : decode cX5_lineText 57 = .ok (.getfield 12, 3) := by decide +kernel
theorem dX5_lineText_60 : decode cX5_lineText 60 = .ok (.getfield 83, 3) := by decide +kernel
theorem dX5_lineText_63 : decode cX5_lineText 63 = .ok (.aload_n 0, 1) := by decide +kernel
theorem dX5_lineText_64 : decode cX5_lineText 64 = .ok (.getfield 12, 3) := by decide +kernel
theorem dX5_lineText_67 : decode cX5_lineText 67 = .ok (.iload_n 1, 1) := by decide +kernel
theorem dX5_lineText_68 : decode cX5_lineText 68 = .ok (.iload_n 2, 1) := by decide +kernel
theorem dX5_lineText_69 : decode cX5_lineText 69 = .ok (.invokevirtual 250, 3) := by decide +kernel
theorem dX5_lineText_72 : decode cX5_lineText 72 = .ok (.invokestatic 91, 3) := by decide +kernel
theorem dX5_lineText_75 : decode cX5_lineText 75 = .ok (.invokestatic 95, 3) := by decide +kernel
theorem dX5_lineText_78 : decode cX5_lineText 78 = .ok (.invokevirtual 243, 3) := by decide +kernel
theorem dX5_lineText_81 : decode cX5_lineText 81 = .ok (.iinc 2 1, 3) := by decide +kernel
theorem dX5_lineText_84 : decode cX5_lineText 84 = .ok (.goto (-44), 3) := by decide +kernel
theorem dX5_lineText_87 : decode cX5_lineText 87 = .ok (.aload_n 0, 1) := by decide +kernel
theorem dX5_lineText_88 : decode cX5_lineText 88 = .ok (.getfield 12, 3) := by decide +kernel
theorem dX5_lineText_91 : decode cX5_lineText 91 = .ok (.iload_n 1, 1) := by decide +kernel
theorem dX5_lineText_92 : decode cX5_lineText 92 = .ok (.invokevirtual 225, 3) := by decide +kernel
theorem dX5_lineText_95 : decode cX5_lineText 95 = .ok (.ifCond .eq 12, 3) := by decide +kernel
theorem dX5_lineText_98 : decode cX5_lineText 98 = .ok (.aload_n 0, 1) := by decide +kernel
theorem dX5_lineText_99 : decode cX5_lineText 99 = .ok (.getfield 39, 3) := by decide +kernel
theorem dX5_lineText_102 : decode cX5_lineText 102 = .ok (.bipush 33, 2) := by decide +kernel
theorem dX5_lineText_104 : decode cX5_lineText 104 = .ok (.invokevirtual 243, 3) := by decide +kernel
theorem dX5_lineText_107 : decode cX5_lineText 107 = .ok (.aload_n 0, 1) := by decide +kernel
theorem dX5_lineText_108 : decode cX5_lineText 108 = .ok (.getfield 39, 3) := by decide +kernel
theorem dX5_lineText_111 : decode cX5_lineText 111 = .ok (.getfield 253, 3) := by decide +kernel
theorem dX5_lineText_114 : decode cX5_lineText 114 = .ok (.ireturn, 1) := by decide +kernel
theorem dX5_character_0 : decode cX5_character 0 = .ok (.iload_n 1, 1) := by decide +kernel
theorem dX5_character_1 : decode cX5_character 1 = .ok (.ifCond .lt 18, 3) := by decide +kernel
theorem dX5_character_4 : decode cX5_character 4 = .ok (.iload_n 1, 1) := by decide +kernel
theorem dX5_character_5 : decode cX5_character 5 = .ok (.aload_n 0, 1) := by decide +kernel
theorem dX5_character_6 : decode cX5_character 6 = .ok (.getfield 39, 3) := by decide +kernel
theorem dX5_character_9 : decode cX5_character 9 = .ok (.getfield 253, 3) := by decide +kernel
theorem dX5_character_12 : decode cX5_character 12 = .ok (.if_icmp .ge 7, 3) := by decide +kernel
theorem dX5_character_15 : decode cX5_character 15 = .ok (.iconst 1, 1) := by decide +kernel
theorem dX5_character_16 : decode cX5_character 16 = .ok (.goto 4, 3) := by decide +kernel
theorem dX5_character_19 : decode cX5_character 19 = .ok (.iconst 0, 1) := by decide +kernel
theorem dX5_character_20 : decode cX5_character 20 = .ok (.invokestatic 146, 3) := by decide +kernel
theorem dX5_character_23 : decode cX5_character 23 = .ok (.aload_n 0, 1) := by decide +kernel
theorem dX5_character_24 : decode cX5_character 24 = .ok (.getfield 39, 3) := by decide +kernel
theorem dX5_character_27 : decode cX5_character 27 = .ok (.iload_n 1, 1) := by decide +kernel
theorem dX5_character_28 : decode cX5_character 28 = .ok (.invokevirtual 256, 3) := by decide +kernel
theorem dX5_character_31 : decode cX5_character 31 = .ok (.ireturn, 1) := by decide +kernel
theorem dX5_append_0 : decode cX5_append 0 = .ok (.aload_n 0, 1) := by decide +kernel
theorem dX5_append_1 : decode cX5_append 1 = .ok (.getfield 54, 3) := by decide +kernel
theorem dX5_append_4 : decode cX5_append 4 = .ok (.ifCond .lt 15, 3) := by decide +kernel
theorem dX5_append_7 : decode cX5_append 7 = .ok (.aload_n 0, 1) := by decide +kernel
theorem dX5_append_8 : decode cX5_append 8 = .ok (.getfield 54, 3) := by decide +kernel
theorem dX5_append_11 : decode cX5_append 11 = .ok (.aload_n 0, 1) := by decide +kernel
theorem dX5_append_12 : decode cX5_append 12 = .ok (.getfield 50, 3) := by decide +kernel
theorem dX5_append_15 : decode cX5_append 15 = .ok (.arraylength, 1) := by decide +kernel
theorem dX5_append_16 : decode cX5_append 16 = .ok (.if_icmp .lt 14, 3) := by decide +kernel
theorem dX5_append_19 : decode cX5_append 19 = .ok (.new 259, 3) := by decide +kernel
theorem dX5_append_22 : decode cX5_append 22 = .ok (.dup, 1) := by decide +kernel
theorem dX5_append_23 : decode cX5_append 23 = .ok (.ldc_w 261, 3) := by decide +kernel
theorem dX5_append_26 : decode cX5_append 26 = .ok (.invokespecial 263, 3) := by decide +kernel
theorem dX5_append_29 : decode cX5_append 29 = .ok (.athrow, 1) := by decide +kernel
theorem dX5_append_30 : decode cX5_append 30 = .ok (.aload_n 0, 1) := by decide +kernel
theorem dX5_append_31 : decode cX5_append 31 = .ok (.getfield 50, 3) := by decide +kernel
theorem dX5_append_34 : decode cX5_append 34 = .ok (.aload_n 0, 1) := by decide +kernel
theorem dX5_append_35 : decode cX5_append 35 = .ok (.getfield 54, 3) := by decide +kernel
theorem dX5_append_38 : decode cX5_append 38 = .ok (.iload_n 1, 1) := by decide +kernel
theorem dX5_append_39 : decode cX5_append 39 = .ok (.castore, 1) := by decide +kernel
theorem dX5_append_40 : decode cX5_append 40 = .ok (.aload_n 0, 1) := by decide +kernel
theorem dX5_append_41 : decode cX5_append 41 = .ok (.dup, 1) := by decide +kernel
theorem dX5_append_42 : decode cX5_append 42 = .ok (.getfield 54, 3) := by decide +kernel
theorem dX5_append_45 : decode cX5_append 45 = .ok (.iconst 1, 1) := by decide +kernel
theorem dX5_append_46 : decode cX5_append 46 = .ok (.iadd, 1) := by decide +kernel
theorem dX5_append_47 : decode cX5_append 47 = .ok (.putfield 54, 3) := by decide +kernel
theorem dX5_append_50 : decode cX5_append 50 = .ok (.aload_n 0, 1) := by decide +kernel
theorem dX5_append_51 : decode cX5_append 51 = .ok (.getfield 54, 3) := by decide +kernel
theorem dX5_append_54 : decode cX5_append 54 = .ok (.ireturn, 1) := by decide +kernel
theorem dX5_run_0 : decode cX5_run 0 = .ok (.aload_n 0, 1) := by decide +kernel
theorem dX5_run_1 : decode cX5_run 1 = .ok (.aload_n 0, 1) := by decide +kernel
theorem dX5_run_2 : decode cX5_run 2 = .ok (.getfield 46, 3) := by decide +kernel
theorem dX5_run_5 : decode cX5_run 5 = .ok (.aload_n 0, 1) := by decide +kernel
theorem dX5_run_6 : decode cX5_run 6 = .ok (.getfield 50, 3) := by decide +kernel
theorem dX5_run_9 : decode cX5_run 9 = .ok (.aload_n 0, 1) := by decide +kernel
theorem dX5_run_10 : decode cX5_run 10 = .ok (.getfield 54, 3) := by decide +kernel
theorem dX5_run_13 : decode cX5_run 13 = .ok (.invokevirtual 264, 3) := by decide +kernel
theorem dX5_run_16 : decode cX5_run 16 = .ok (.putfield 58, 3) := by decide +kernel
theorem dX5_run_19 : decode cX5_run 19 = .ok (.aload_n 0, 1) := by decide +kernel
theorem dX5_run_20 : decode cX5_run 20 = .ok (.iconst 0, 1) := by decide +kernel
theorem dX5_run_21 : decode cX5_run 21 = .ok (.putfield 54, 3) := by decide +kernel
theorem dX5_run_24 : decode cX5_run 24 = .ok (.aload_n 0, 1) := by decide +kernel
theorem dX5_run_25 : decode cX5_run 25 = .ok (.getfield 58, 3) := by decide +kernel
theorem dX5_run_28 : decode cX5_run 28 = .ok (.ifCond .ge 10, 3) := by decide +kernel
theorem dX5_run_31 : decode cX5_run 31 = .ok (.aload_n 0, 1) := by decide +kernel
theorem dX5_run_32 : decode cX5_run 32 = .ok (.invokevirtual 268, 3) := by decide +kernel
theorem dX5_run_35 : decode cX5_run 35 = .ok (.goto 4, 3) := by decide +kernel
theorem dX5_run_38 : decode cX5_run 38 = .ok (.iconst 2, 1) := by decide +kernel
theorem dX5_run_39 : decode cX5_run 39 = .ok (.istore_n 1, 1) := by decide +kernel
theorem dX5_run_40 : decode cX5_run 40 = .ok (.iload_n 1, 1) := by decide +kernel
theorem dX5_run_41 : decode cX5_run 41 = .ok (.iconst 1, 1) := by decide +kernel
theorem dX5_run_42 : decode cX5_run 42 = .ok (.if_icmp .ne 7, 3) := by decide +kernel
theorem dX5_run_45 : decode cX5_run 45 = .ok (.iconst 2, 1) := by decide +kernel
theorem dX5_run_46 : decode cX5_run 46 = .ok (.goto 4, 3) := by decide +kernel
theorem dX5_run_49 : decode cX5_run 49 = .ok (.iload_n 1, 1) := by decide +kernel
theorem dX5_run_50 : decode cX5_run 50 = .ok (.invokestatic 116, 3) := by decide +kernel
theorem dX5_run_53 : decode cX5_run 53 = .ok (.aload_n 0, 1) := by decide +kernel
theorem dX5_run_54 : decode cX5_run 54 = .ok (.getfield 46, 3) := by decide +kernel
theorem dX5_run_57 : decode cX5_run 57 = .ok (.getfield 271, 3) := by decide +kernel
theorem dX5_run_60 : decode cX5_run 60 = .ok (.ireturn, 1) := by decide +kernel
theorem dX5_errorPosition_0 : decode cX5_errorPosition 0 = .ok (.aload_n 0, 1) := by decide +kernel
theorem dX5_errorPosition_1 : decode cX5_errorPosition 1 = .ok (.getfield 58, 3) := by decide +kernel
theorem dX5_errorPosition_4 : decode cX5_errorPosition 4 = .ok (.ireturn, 1) := by decide +kernel
theorem dX5_refusal_0 : decode cX5_refusal 0 = .ok (.aload_n 0, 1) := by decide +kernel
theorem dX5_refusal_1 : decode cX5_refusal 1 = .ok (.getfield 61, 3) := by decide +kernel
theorem dX5_refusal_4 : decode cX5_refusal 4 = .ok (.ifCond .ge 14, 3) := by decide +kernel
theorem dX5_refusal_7 : decode cX5_refusal 7 = .ok (.new 127, 3) := by decide +kernel
theorem dX5_refusal_10 : decode cX5_refusal 10 = .ok (.dup, 1) := by decide +kernel
theorem dX5_refusal_11 : decode cX5_refusal 11 = .ok (.ldc_w 273, 3) := by decide +kernel
theorem dX5_refusal_14 : decode cX5_refusal 14 = .ok (.invokespecial 131, 3) := by decide +kernel
theorem dX5_refusal_17 : decode cX5_refusal 17 = .ok (.athrow, 1) := by decide +kernel
theorem dX5_refusal_18 : decode cX5_refusal 18 = .ok (.iload_n 1, 1) := by decide +kernel
theorem dX5_refusal_19 : decode cX5_refusal 19 = .ok (.ifCond .eq 10, 3) := by decide +kernel
theorem dX5_refusal_22 : decode cX5_refusal 22 = .ok (.aload_n 0, 1) := by decide +kernel
theorem dX5_refusal_23 : decode cX5_refusal 23 = .ok (.getfield 64, 3) := by decide +kernel
theorem dX5_refusal_26 : decode cX5_refusal 26 = .ok (.goto 7, 3) := by decide +kernel
theorem dX5_refusal_29 : decode cX5_refusal 29 = .ok (.aload_n 0, 1) := by decide +kernel
theorem dX5_refusal_30 : decode cX5_refusal 30 = .ok (.getfield 61, 3) := by decide +kernel
theorem dX5_refusal_33 : decode cX5_refusal 33 = .ok (.ireturn, 1) := by decide +kernel
theorem dX5_account_0 : decode cX5_account 0 = .ok (.iload_n 1, 1) := by decide +kernel
theorem dX5_account_1 : decode cX5_account 1 = .ok (.tableswitch 132 0 9 #[55, 63, 71, 79, 87, 95, 103, 111, 119, 124], 55) := by decide +kernel
theorem dX5_account_56 : decode cX5_account 56 = .ok (.aload_n 0, 1) := by decide +kernel
theorem dX5_account_57 : decode cX5_account 57 = .ok (.getfield 12, 3) := by decide +kernel
theorem dX5_account_60 : decode cX5_account 60 = .ok (.invokevirtual 79, 3) := by decide +kernel
theorem dX5_account_63 : decode cX5_account 63 = .ok (.ireturn, 1) := by decide +kernel
theorem dX5_account_64 : decode cX5_account 64 = .ok (.aload_n 0, 1) := by decide +kernel
theorem dX5_account_65 : decode cX5_account 65 = .ok (.getfield 12, 3) := by decide +kernel
theorem dX5_account_68 : decode cX5_account 68 = .ok (.invokevirtual 162, 3) := by decide +kernel
theorem dX5_account_71 : decode cX5_account 71 = .ok (.ireturn, 1) := by decide +kernel
theorem dX5_account_72 : decode cX5_account 72 = .ok (.aload_n 0, 1) := by decide +kernel
theorem dX5_account_73 : decode cX5_account 73 = .ok (.getfield 12, 3) := by decide +kernel
theorem dX5_account_76 : decode cX5_account 76 = .ok (.getfield 110, 3) := by decide +kernel
theorem dX5_account_79 : decode cX5_account 79 = .ok (.ireturn, 1) := by decide +kernel
theorem dX5_account_80 : decode cX5_account 80 = .ok (.aload_n 0, 1) := by decide +kernel
theorem dX5_account_81 : decode cX5_account 81 = .ok (.getfield 12, 3) := by decide +kernel
theorem dX5_account_84 : decode cX5_account 84 = .ok (.getfield 275, 3) := by decide +kernel
theorem dX5_account_87 : decode cX5_account 87 = .ok (.ireturn, 1) := by decide +kernel
theorem dX5_account_88 : decode cX5_account 88 = .ok (.aload_n 0, 1) := by decide +kernel
theorem dX5_account_89 : decode cX5_account 89 = .ok (.getfield 12, 3) := by decide +kernel
theorem dX5_account_92 : decode cX5_account 92 = .ok (.getfield 278, 3) := by decide +kernel
theorem dX5_account_95 : decode cX5_account 95 = .ok (.ireturn, 1) := by decide +kernel
theorem dX5_account_96 : decode cX5_account 96 = .ok (.aload_n 0, 1) := by decide +kernel
theorem dX5_account_97 : decode cX5_account 97 = .ok (.getfield 12, 3) := by decide +kernel
theorem dX5_account_100 : decode cX5_account 100 = .ok (.getfield 137, 3) := by decide +kernel
theorem dX5_account_103 : decode cX5_account 103 = .ok (.ireturn, 1) := by decide +kernel
theorem dX5_account_104 : decode cX5_account 104 = .ok (.aload_n 0, 1) := by decide +kernel
theorem dX5_account_105 : decode cX5_account 105 = .ok (.getfield 12, 3) := by decide +kernel
theorem dX5_account_108 : decode cX5_account 108 = .ok (.getfield 281, 3) := by decide +kernel
theorem dX5_account_111 : decode cX5_account 111 = .ok (.ireturn, 1) := by decide +kernel
theorem dX5_account_112 : decode cX5_account 112 = .ok (.aload_n 0, 1) := by decide +kernel
theorem dX5_account_113 : decode cX5_account 113 = .ok (.getfield 12, 3) := by decide +kernel
theorem dX5_account_116 : decode cX5_account 116 = .ok (.getfield 284, 3) := by decide +kernel
theorem dX5_account_119 : decode cX5_account 119 = .ok (.ireturn, 1) := by decide +kernel
theorem dX5_account_120 : decode cX5_account 120 = .ok (.aload_n 0, 1) := by decide +kernel
theorem dX5_account_121 : decode cX5_account 121 = .ok (.getfield 54, 3) := by decide +kernel
theorem dX5_account_124 : decode cX5_account 124 = .ok (.ireturn, 1) := by decide +kernel
theorem dX5_account_125 : decode cX5_account 125 = .ok (.aload_n 0, 1) := by decide +kernel
theorem dX5_account_126 : decode cX5_account 126 = .ok (.getfield 25, 3) := by decide +kernel
theorem dX5_account_129 : decode cX5_account 129 = .ok (.getfield 287, 3) := by decide +kernel
theorem dX5_account_132 : decode cX5_account 132 = .ok (.ireturn, 1) := by decide +kernel
theorem dX5_account_133 : decode cX5_account 133 = .ok (.new 174, 3) := by decide +kernel
theorem dX5_account_136 : decode cX5_account 136 = .ok (.dup, 1) := by decide +kernel
theorem dX5_account_137 : decode cX5_account 137 = .ok (.ldc_w 288, 3) := by decide +kernel
theorem dX5_account_140 : decode cX5_account 140 = .ok (.invokespecial 178, 3) := by decide +kernel
theorem dX5_account_143 : decode cX5_account 143 = .ok (.athrow, 1) := by decide +kernel
theorem dX5_isWell_0 : decode cX5_isWell 0 = .ok (.aload_n 0, 1) := by decide +kernel
theorem dX5_isWell_1 : decode cX5_isWell 1 = .ok (.invokevirtual 182, 3) := by decide +kernel
theorem dX5_isWell_4 : decode cX5_isWell 4 = .ok (.istore_n 1, 1) := by decide +kernel
theorem dX5_isWell_5 : decode cX5_isWell 5 = .ok (.iload_n 1, 1) := by decide +kernel
theorem dX5_isWell_6 : decode cX5_isWell 6 = .ok (.aload_n 0, 1) := by decide +kernel
theorem dX5_isWell_7 : decode cX5_isWell 7 = .ok (.invokevirtual 179, 3) := by decide +kernel
theorem dX5_isWell_10 : decode cX5_isWell 10 = .ok (.if_icmp .ne 18, 3) := by decide +kernel
theorem dX5_isWell_13 : decode cX5_isWell 13 = .ok (.iload_n 1, 1) := by decide +kernel
theorem dX5_isWell_14 : decode cX5_isWell 14 = .ok (.iconst 3, 1) := by decide +kernel
theorem dX5_isWell_15 : decode cX5_isWell 15 = .ok (.if_icmp .gt 15, 3) := by decide +kernel
theorem dX5_isWell_18 : decode cX5_isWell 18 = .ok (.aload_n 0, 1) := by decide +kernel
theorem dX5_isWell_19 : decode cX5_isWell 19 = .ok (.getfield 12, 3) := by decide +kernel
theorem dX5_isWell_22 : decode cX5_isWell 22 = .ok (.invokevirtual 187, 3) := by decide +kernel
theorem dX5_isWell_25 : decode cX5_isWell 25 = .ok (.ifCond .eq 5, 3) := by decide +kernel
theorem dX5_isWell_28 : decode cX5_isWell 28 = .ok (.iconst 0, 1) := by decide +kernel
theorem dX5_isWell_29 : decode cX5_isWell 29 = .ok (.ireturn, 1) := by decide +kernel
theorem dX5_isWell_30 : decode cX5_isWell 30 = .ok (.aload_n 0, 1) := by decide +kernel
theorem dX5_isWell_31 : decode cX5_isWell 31 = .ok (.getfield 12, 3) := by decide +kernel
theorem dX5_isWell_34 : decode cX5_isWell 34 = .ok (.invokevirtual 191, 3) := by decide +kernel
theorem dX5_isWell_37 : decode cX5_isWell 37 = .ok (.ifCond .eq 36, 3) := by decide +kernel
theorem dX5_isWell_40 : decode cX5_isWell 40 = .ok (.aload_n 0, 1) := by decide +kernel
theorem dX5_isWell_41 : decode cX5_isWell 41 = .ok (.getfield 12, 3) := by decide +kernel
theorem dX5_isWell_44 : decode cX5_isWell 44 = .ok (.aload_n 0, 1) := by decide +kernel
theorem dX5_isWell_45 : decode cX5_isWell 45 = .ok (.getfield 12, 3) := by decide +kernel
theorem dX5_isWell_48 : decode cX5_isWell 48 = .ok (.getfield 99, 3) := by decide +kernel
theorem dX5_isWell_51 : decode cX5_isWell 51 = .ok (.invokevirtual 200, 3) := by decide +kernel
theorem dX5_isWell_54 : decode cX5_isWell 54 = .ok (.aload_n 0, 1) := by decide +kernel
theorem dX5_isWell_55 : decode cX5_isWell 55 = .ok (.getfield 12, 3) := by decide +kernel
theorem dX5_isWell_58 : decode cX5_isWell 58 = .ok (.aload_n 0, 1) := by decide +kernel
theorem dX5_isWell_59 : decode cX5_isWell 59 = .ok (.getfield 12, 3) := by decide +kernel
theorem dX5_isWell_62 : decode cX5_isWell 62 = .ok (.getfield 99, 3) := by decide +kernel
theorem dX5_isWell_65 : decode cX5_isWell 65 = .ok (.invokevirtual 196, 3) := by decide +kernel
theorem dX5_isWell_68 : decode cX5_isWell 68 = .ok (.if_icmp .eq 5, 3) := by decide +kernel
theorem dX5_isWell_71 : decode cX5_isWell 71 = .ok (.iconst 0, 1) := by decide +kernel
theorem dX5_isWell_72 : decode cX5_isWell 72 = .ok (.ireturn, 1) := by decide +kernel
theorem dX5_isWell_73 : decode cX5_isWell 73 = .ok (.aload_n 0, 1) := by decide +kernel
theorem dX5_isWell_74 : decode cX5_isWell 74 = .ok (.getfield 12, 3) := by decide +kernel
theorem dX5_isWell_77 : decode cX5_isWell 77 = .ok (.invokevirtual 290, 3) := by decide +kernel
theorem dX5_isWell_80 : decode cX5_isWell 80 = .ok (.ireturn, 1) := by decide +kernel
theorem dX5_meanFar_0 : decode cX5_meanFar 0 = .ok (.iconst 0, 1) := by decide +kernel
theorem dX5_meanFar_1 : decode cX5_meanFar 1 = .ok (.istore_n 1, 1) := by decide +kernel
theorem dX5_meanFar_2 : decode cX5_meanFar 2 = .ok (.iconst 0, 1) := by decide +kernel
theorem dX5_meanFar_3 : decode cX5_meanFar 3 = .ok (.istore_n 2, 1) := by decide +kernel
theorem dX5_meanFar_4 : decode cX5_meanFar 4 = .ok (.iconst 0, 1) := by decide +kernel
theorem dX5_meanFar_5 : decode cX5_meanFar 5 = .ok (.istore_n 3, 1) := by decide +kernel
theorem dX5_meanFar_6 : decode cX5_meanFar 6 = .ok (.iload_n 3, 1) := by decide +kernel
theorem dX5_meanFar_7 : decode cX5_meanFar 7 = .ok (.aload_n 0, 1) := by decide +kernel
theorem dX5_meanFar_8 : decode cX5_meanFar 8 = .ok (.getfield 12, 3) := by decide +kernel
theorem dX5_meanFar_11 : decode cX5_meanFar 11 = .ok (.invokevirtual 79, 3) := by decide +kernel
theorem dX5_meanFar_14 : decode cX5_meanFar 14 = .ok (.if_icmp .ge 72, 3) := by decide +kernel
theorem dX5_meanFar_17 : decode cX5_meanFar 17 = .ok (.aload_n 0, 1) := by decide +kernel
theorem dX5_meanFar_18 : decode cX5_meanFar 18 = .ok (.getfield 12, 3) := by decide +kernel
theorem dX5_meanFar_21 : decode cX5_meanFar 21 = .ok (.getfield 99, 3) := by decide +kernel
theorem dX5_meanFar_24 : decode cX5_meanFar 24 = .ok (.iload_n 3, 1) := by decide +kernel
theorem dX5_meanFar_25 : decode cX5_meanFar 25 = .ok (.invokestatic 91, 3) := by decide +kernel
theorem dX5_meanFar_28 : decode cX5_meanFar 28 = .ok (.istore 4, 2) := by decide +kernel
theorem dX5_meanFar_30 : decode cX5_meanFar 30 = .ok (.aload_n 0, 1) := by decide +kernel
theorem dX5_meanFar_31 : decode cX5_meanFar 31 = .ok (.getfield 12, 3) := by decide +kernel
theorem dX5_meanFar_34 : decode cX5_meanFar 34 = .ok (.aload_n 0, 1) := by decide +kernel
theorem dX5_meanFar_35 : decode cX5_meanFar 35 = .ok (.getfield 12, 3) := by decide +kernel
theorem dX5_meanFar_38 : decode cX5_meanFar 38 = .ok (.getfield 83, 3) := by decide +kernel
theorem dX5_meanFar_41 : decode cX5_meanFar 41 = .ok (.iload 4, 2) := by decide +kernel
theorem dX5_meanFar_43 : decode cX5_meanFar 43 = .ok (.invokevirtual 171, 3) := by decide +kernel
theorem dX5_meanFar_46 : decode cX5_meanFar 46 = .ok (.iconst 1, 1) := by decide +kernel
theorem dX5_meanFar_47 : decode cX5_meanFar 47 = .ok (.if_icmp .ne 33, 3) := by decide +kernel
theorem dX5_meanFar_50 : decode cX5_meanFar 50 = .ok (.iinc 1 1, 3) := by decide +kernel
theorem dX5_meanFar_53 : decode cX5_meanFar 53 = .ok (.iload_n 2, 1) := by decide +kernel
theorem dX5_meanFar_54 : decode cX5_meanFar 54 = .ok (.aload_n 0, 1) := by decide +kernel
theorem dX5_meanFar_55 : decode cX5_meanFar 55 = .ok (.getfield 12, 3) := by decide +kernel
theorem dX5_meanFar_58 : decode cX5_meanFar 58 = .ok (.iload_n 3, 1) := by decide +kernel
theorem dX5_meanFar_59 : decode cX5_meanFar 59 = .ok (.aload_n 0, 1) := by decide +kernel
theorem dX5_meanFar_60 : decode cX5_meanFar 60 = .ok (.getfield 12, 3) := by decide +kernel
theorem dX5_meanFar_63 : decode cX5_meanFar 63 = .ok (.aload_n 0, 1) := by decide +kernel
theorem dX5_meanFar_64 : decode cX5_meanFar 64 = .ok (.getfield 12, 3) := by decide +kernel
theorem dX5_meanFar_67 : decode cX5_meanFar 67 = .ok (.getfield 83, 3) := by decide +kernel
theorem dX5_meanFar_70 : decode cX5_meanFar 70 = .ok (.iload 4, 2) := by decide +kernel
theorem dX5_meanFar_72 : decode cX5_meanFar 72 = .ok (.invokevirtual 293, 3) := by decide +kernel
theorem dX5_meanFar_75 : decode cX5_meanFar 75 = .ok (.invokevirtual 221, 3) := by decide +kernel
theorem dX5_meanFar_78 : decode cX5_meanFar 78 = .ok (.iadd, 1) := by decide +kernel
theorem dX5_meanFar_79 : decode cX5_meanFar 79 = .ok (.istore_n 2, 1) := by decide +kernel
theorem dX5_meanFar_80 : decode cX5_meanFar 80 = .ok (.iinc 3 1, 3) := by decide +kernel
theorem dX5_meanFar_83 : decode cX5_meanFar 83 = .ok (.goto (-77), 3) := by decide +kernel
theorem dX5_meanFar_86 : decode cX5_meanFar 86 = .ok (.iload_n 1, 1) := by decide +kernel
theorem dX5_meanFar_87 : decode cX5_meanFar 87 = .ok (.ifCond .ne 14, 3) := by decide +kernel
theorem dX5_meanFar_90 : decode cX5_meanFar 90 = .ok (.new 296, 3) := by decide +kernel
theorem dX5_meanFar_93 : decode cX5_meanFar 93 = .ok (.dup, 1) := by decide +kernel
theorem dX5_meanFar_94 : decode cX5_meanFar 94 = .ok (.ldc_w 298, 3) := by decide +kernel
theorem dX5_meanFar_97 : decode cX5_meanFar 97 = .ok (.invokespecial 300, 3) := by decide +kernel
theorem dX5_meanFar_100 : decode cX5_meanFar 100 = .ok (.athrow, 1) := by decide +kernel
theorem dX5_meanFar_101 : decode cX5_meanFar 101 = .ok (.iload_n 2, 1) := by decide +kernel
theorem dX5_meanFar_102 : decode cX5_meanFar 102 = .ok (.i2d, 1) := by decide +kernel
theorem dX5_meanFar_103 : decode cX5_meanFar 103 = .ok (.iload_n 1, 1) := by decide +kernel
theorem dX5_meanFar_104 : decode cX5_meanFar 104 = .ok (.i2d, 1) := by decide +kernel
theorem dX5_meanFar_105 : decode cX5_meanFar 105 = .ok (.ddiv, 1) := by decide +kernel
theorem dX5_meanFar_106 : decode cX5_meanFar 106 = .ok (.dreturn, 1) := by decide +kernel
theorem dX5_homeShare_0 : decode cX5_homeShare 0 = .ok (.aload_n 0, 1) := by decide +kernel
theorem dX5_homeShare_1 : decode cX5_homeShare 1 = .ok (.getfield 12, 3) := by decide +kernel
theorem dX5_homeShare_4 : decode cX5_homeShare 4 = .ok (.invokevirtual 79, 3) := by decide +kernel
theorem dX5_homeShare_7 : decode cX5_homeShare 7 = .ok (.istore_n 1, 1) := by decide +kernel
theorem dX5_homeShare_8 : decode cX5_homeShare 8 = .ok (.iload_n 1, 1) := by decide +kernel
theorem dX5_homeShare_9 : decode cX5_homeShare 9 = .ok (.ifCond .ne 7, 3) := by decide +kernel
theorem dX5_homeShare_12 : decode cX5_homeShare 12 = .ok (.fconst 0, 1) := by decide +kernel
theorem dX5_homeShare_13 : decode cX5_homeShare 13 = .ok (.goto 21, 3) := by decide +kernel
theorem dX5_homeShare_16 : decode cX5_homeShare 16 = .ok (.aload_n 0, 1) := by decide +kernel
theorem dX5_homeShare_17 : decode cX5_homeShare 17 = .ok (.getfield 12, 3) := by decide +kernel
theorem dX5_homeShare_20 : decode cX5_homeShare 20 = .ok (.aload_n 0, 1) := by decide +kernel
theorem dX5_homeShare_21 : decode cX5_homeShare 21 = .ok (.getfield 12, 3) := by decide +kernel
theorem dX5_homeShare_24 : decode cX5_homeShare 24 = .ok (.getfield 83, 3) := by decide +kernel
theorem dX5_homeShare_27 : decode cX5_homeShare 27 = .ok (.invokevirtual 102, 3) := by decide +kernel
theorem dX5_homeShare_30 : decode cX5_homeShare 30 = .ok (.i2f, 1) := by decide +kernel
theorem dX5_homeShare_31 : decode cX5_homeShare 31 = .ok (.iload_n 1, 1) := by decide +kernel
theorem dX5_homeShare_32 : decode cX5_homeShare 32 = .ok (.i2f, 1) := by decide +kernel
theorem dX5_homeShare_33 : decode cX5_homeShare 33 = .ok (.fdiv, 1) := by decide +kernel
theorem dX5_homeShare_34 : decode cX5_homeShare 34 = .ok (.freturn, 1) := by decide +kernel
theorem dX5_undo_0 : decode cX5_undo 0 = .ok (.aload_n 0, 1) := by decide +kernel
theorem dX5_undo_1 : decode cX5_undo 1 = .ok (.getfield 25, 3) := by decide +kernel
theorem dX5_undo_4 : decode cX5_undo 4 = .ok (.getfield 287, 3) := by decide +kernel
theorem dX5_undo_7 : decode cX5_undo 7 = .ok (.ifCond .gt 14, 3) := by decide +kernel
theorem dX5_undo_10 : decode cX5_undo 10 = .ok (.new 259, 3) := by decide +kernel
theorem dX5_undo_13 : decode cX5_undo 13 = .ok (.dup, 1) := by decide +kernel
theorem dX5_undo_14 : decode cX5_undo 14 = .ok (.ldc_w 301, 3) := by decide +kernel
theorem dX5_undo_17 : decode cX5_undo 17 = .ok (.invokespecial 263, 3) := by decide +kernel
theorem dX5_undo_20 : decode cX5_undo 20 = .ok (.athrow, 1) := by decide +kernel
theorem dX5_undo_21 : decode cX5_undo 21 = .ok (.aload_n 0, 1) := by decide +kernel
theorem dX5_undo_22 : decode cX5_undo 22 = .ok (.getfield 25, 3) := by decide +kernel
theorem dX5_undo_25 : decode cX5_undo 25 = .ok (.aload_n 0, 1) := by decide +kernel
theorem dX5_undo_26 : decode cX5_undo 26 = .ok (.getfield 12, 3) := by decide +kernel
theorem dX5_undo_29 : decode cX5_undo 29 = .ok (.invokevirtual 303, 3) := by decide +kernel
theorem dX5_undo_32 : decode cX5_undo 32 = .ok (.aload_n 0, 1) := by decide +kernel
theorem dX5_undo_33 : decode cX5_undo 33 = .ok (.getfield 25, 3) := by decide +kernel
theorem dX5_undo_36 : decode cX5_undo 36 = .ok (.getfield 287, 3) := by decide +kernel
theorem dX5_undo_39 : decode cX5_undo 39 = .ok (.ireturn, 1) := by decide +kernel
theorem dX5_save_0 : decode cX5_save 0 = .ok (.aload_n 0, 1) := by decide +kernel
theorem dX5_save_1 : decode cX5_save 1 = .ok (.getfield 19, 3) := by decide +kernel
theorem dX5_save_4 : decode cX5_save 4 = .ok (.aload_n 0, 1) := by decide +kernel
theorem dX5_save_5 : decode cX5_save 5 = .ok (.getfield 12, 3) := by decide +kernel
theorem dX5_save_8 : decode cX5_save 8 = .ok (.invokevirtual 306, 3) := by decide +kernel
theorem dX5_save_11 : decode cX5_save 11 = .ok (.aload_n 0, 1) := by decide +kernel
theorem dX5_save_12 : decode cX5_save 12 = .ok (.iconst 1, 1) := by decide +kernel
theorem dX5_save_13 : decode cX5_save 13 = .ok (.putfield 67, 3) := by decide +kernel
theorem dX5_save_16 : decode cX5_save 16 = .ok (.aload_n 0, 1) := by decide +kernel
theorem dX5_save_17 : decode cX5_save 17 = .ok (.getfield 12, 3) := by decide +kernel
theorem dX5_save_20 : decode cX5_save 20 = .ok (.aload_n 0, 1) := by decide +kernel
theorem dX5_save_21 : decode cX5_save 21 = .ok (.getfield 12, 3) := by decide +kernel
theorem dX5_save_24 : decode cX5_save 24 = .ok (.getfield 83, 3) := by decide +kernel
theorem dX5_save_27 : decode cX5_save 27 = .ok (.invokevirtual 102, 3) := by decide +kernel
theorem dX5_save_30 : decode cX5_save 30 = .ok (.ireturn, 1) := by decide +kernel
theorem dX5_restore_0 : decode cX5_restore 0 = .ok (.aload_n 0, 1) := by decide +kernel
theorem dX5_restore_1 : decode cX5_restore 1 = .ok (.getfield 67, 3) := by decide +kernel
theorem dX5_restore_4 : decode cX5_restore 4 = .ok (.ifCond .ne 14, 3) := by decide +kernel
theorem dX5_restore_7 : decode cX5_restore 7 = .ok (.new 259, 3) := by decide +kernel
theorem dX5_restore_10 : decode cX5_restore 10 = .ok (.dup, 1) := by decide +kernel
theorem dX5_restore_11 : decode cX5_restore 11 = .ok (.ldc_w 309, 3) := by decide +kernel
theorem dX5_restore_14 : decode cX5_restore 14 = .ok (.invokespecial 263, 3) := by decide +kernel
theorem dX5_restore_17 : decode cX5_restore 17 = .ok (.athrow, 1) := by decide +kernel
theorem dX5_restore_18 : decode cX5_restore 18 = .ok (.aload_n 0, 1) := by decide +kernel
theorem dX5_restore_19 : decode cX5_restore 19 = .ok (.getfield 12, 3) := by decide +kernel
theorem dX5_restore_22 : decode cX5_restore 22 = .ok (.aload_n 0, 1) := by decide +kernel
theorem dX5_restore_23 : decode cX5_restore 23 = .ok (.getfield 19, 3) := by decide +kernel
theorem dX5_restore_26 : decode cX5_restore 26 = .ok (.invokevirtual 306, 3) := by decide +kernel
theorem dX5_restore_29 : decode cX5_restore 29 = .ok (.aload_n 0, 1) := by decide +kernel
theorem dX5_restore_30 : decode cX5_restore 30 = .ok (.getfield 25, 3) := by decide +kernel
theorem dX5_restore_33 : decode cX5_restore 33 = .ok (.invokevirtual 311, 3) := by decide +kernel
theorem dX5_restore_36 : decode cX5_restore 36 = .ok (.aload_n 0, 1) := by decide +kernel
theorem dX5_restore_37 : decode cX5_restore 37 = .ok (.getfield 12, 3) := by decide +kernel
theorem dX5_restore_40 : decode cX5_restore 40 = .ok (.aload_n 0, 1) := by decide +kernel
theorem dX5_restore_41 : decode cX5_restore 41 = .ok (.getfield 12, 3) := by decide +kernel
theorem dX5_restore_44 : decode cX5_restore 44 = .ok (.getfield 83, 3) := by decide +kernel
theorem dX5_restore_47 : decode cX5_restore 47 = .ok (.invokevirtual 102, 3) := by decide +kernel
theorem dX5_restore_50 : decode cX5_restore 50 = .ok (.ireturn, 1) := by decide +kernel
theorem dX5_needIndex_0 : decode cX5_needIndex 0 = .ok (.iload_n 0, 1) := by decide +kernel
theorem dX5_needIndex_1 : decode cX5_needIndex 1 = .ok (.ifCond .ne 14, 3) := by decide +kernel
theorem dX5_needIndex_4 : decode cX5_needIndex 4 = .ok (.new 314, 3) := by decide +kernel
theorem dX5_needIndex_7 : decode cX5_needIndex 7 = .ok (.dup, 1) := by decide +kernel
theorem dX5_needIndex_8 : decode cX5_needIndex 8 = .ok (.ldc_w 316, 3) := by decide +kernel
theorem dX5_needIndex_11 : decode cX5_needIndex 11 = .ok (.invokespecial 318, 3) := by decide +kernel
theorem dX5_needIndex_14 : decode cX5_needIndex 14 = .ok (.athrow, 1) := by decide +kernel
theorem dX5_needIndex_15 : decode cX5_needIndex 15 = .ok (.return_, 1) := by decide +kernel
theorem dX5_raise_0 : decode cX5_raise 0 = .ok (.iload_n 0, 1) := by decide +kernel
theorem dX5_raise_1 : decode cX5_raise 1 = .ok (.iconst 1, 1) := by decide +kernel
theorem dX5_raise_2 : decode cX5_raise 2 = .ok (.if_icmp .ne 14, 3) := by decide +kernel
theorem dX5_raise_5 : decode cX5_raise 5 = .ok (.new 314, 3) := by decide +kernel
theorem dX5_raise_8 : decode cX5_raise 8 = .ok (.dup, 1) := by decide +kernel
theorem dX5_raise_9 : decode cX5_raise 9 = .ok (.ldc_w 319, 3) := by decide +kernel
theorem dX5_raise_12 : decode cX5_raise 12 = .ok (.invokespecial 318, 3) := by decide +kernel
theorem dX5_raise_15 : decode cX5_raise 15 = .ok (.athrow, 1) := by decide +kernel
theorem dX5_raise_16 : decode cX5_raise 16 = .ok (.iload_n 0, 1) := by decide +kernel
theorem dX5_raise_17 : decode cX5_raise 17 = .ok (.iconst 2, 1) := by decide +kernel
theorem dX5_raise_18 : decode cX5_raise 18 = .ok (.if_icmp .ne 14, 3) := by decide +kernel
theorem dX5_raise_21 : decode cX5_raise 21 = .ok (.new 174, 3) := by decide +kernel
theorem dX5_raise_24 : decode cX5_raise 24 = .ok (.dup, 1) := by decide +kernel
theorem dX5_raise_25 : decode cX5_raise 25 = .ok (.ldc_w 321, 3) := by decide +kernel
theorem dX5_raise_28 : decode cX5_raise 28 = .ok (.invokespecial 178, 3) := by decide +kernel
theorem dX5_raise_31 : decode cX5_raise 31 = .ok (.athrow, 1) := by decide +kernel
theorem dX5_raise_32 : decode cX5_raise 32 = .ok (.iload_n 0, 1) := by decide +kernel
theorem dX5_raise_33 : decode cX5_raise 33 = .ok (.iconst 3, 1) := by decide +kernel
theorem dX5_raise_34 : decode cX5_raise 34 = .ok (.if_icmp .ne 14, 3) := by decide +kernel
theorem dX5_raise_37 : decode cX5_raise 37 = .ok (.new 323, 3) := by decide +kernel
theorem dX5_raise_40 : decode cX5_raise 40 = .ok (.dup, 1) := by decide +kernel
theorem dX5_raise_41 : decode cX5_raise 41 = .ok (.ldc_w 325, 3) := by decide +kernel
theorem dX5_raise_44 : decode cX5_raise 44 = .ok (.invokespecial 327, 3) := by decide +kernel
theorem dX5_raise_47 : decode cX5_raise 47 = .ok (.athrow, 1) := by decide +kernel
theorem dX5_raise_48 : decode cX5_raise 48 = .ok (.return_, 1) := by decide +kernel
theorem dX5_change_0 : decode cX5_change 0 = .ok (.aload_n 0, 1) := by decide +kernel
theorem dX5_change_1 : decode cX5_change 1 = .ok (.iload_n 1, 1) := by decide +kernel
theorem dX5_change_2 : decode cX5_change 2 = .ok (.iload_n 2, 1) := by decide +kernel
theorem dX5_change_3 : decode cX5_change 3 = .ok (.iload_n 3, 1) := by decide +kernel
theorem dX5_change_4 : decode cX5_change 4 = .ok (.invokevirtual 328, 3) := by decide +kernel
theorem dX5_change_7 : decode cX5_change 7 = .ok (.invokestatic 116, 3) := by decide +kernel
theorem dX5_change_10 : decode cX5_change 10 = .ok (.aload_n 0, 1) := by decide +kernel
theorem dX5_change_11 : decode cX5_change 11 = .ok (.getfield 25, 3) := by decide +kernel
theorem dX5_change_14 : decode cX5_change 14 = .ok (.aload_n 0, 1) := by decide +kernel
theorem dX5_change_15 : decode cX5_change 15 = .ok (.getfield 12, 3) := by decide +kernel
theorem dX5_change_18 : decode cX5_change 18 = .ok (.invokevirtual 134, 3) := by decide +kernel
theorem dX5_change_21 : decode cX5_change 21 = .ok (.aload_n 0, 1) := by decide +kernel
theorem dX5_change_22 : decode cX5_change 22 = .ok (.iload_n 1, 1) := by decide +kernel
theorem dX5_change_23 : decode cX5_change 23 = .ok (.iload_n 2, 1) := by decide +kernel
theorem dX5_change_24 : decode cX5_change 24 = .ok (.iload_n 3, 1) := by decide +kernel
theorem dX5_change_25 : decode cX5_change 25 = .ok (.invokevirtual 331, 3) := by decide +kernel
theorem dX5_change_28 : decode cX5_change 28 = .ok (.return_, 1) := by decide +kernel
theorem dX5_judge_0 : decode cX5_judge 0 = .ok (.iload_n 1, 1) := by decide +kernel
theorem dX5_judge_1 : decode cX5_judge 1 = .ok (.tableswitch 196 98 120 #[107, 196, 196, 196, 196, 143, 196, 196, 196, 196, 196, 196, 196, 196, 127, 196, 189, 165, 159, 196, 196, 196, 172], 107) := by decide +kernel
theorem dX5_judge_108 : decode cX5_judge 108 = .ok (.iload_n 2, 1) := by decide +kernel
theorem dX5_judge_109 : decode cX5_judge 109 = .ok (.invokestatic 334, 3) := by decide +kernel
theorem dX5_judge_112 : decode cX5_judge 112 = .ok (.ifCond .eq 14, 3) := by decide +kernel
theorem dX5_judge_115 : decode cX5_judge 115 = .ok (.iload_n 3, 1) := by decide +kernel
theorem dX5_judge_116 : decode cX5_judge 116 = .ok (.invokestatic 334, 3) := by decide +kernel
theorem dX5_judge_119 : decode cX5_judge 119 = .ok (.ifCond .eq 7, 3) := by decide +kernel
theorem dX5_judge_122 : decode cX5_judge 122 = .ok (.iconst 0, 1) := by decide +kernel
theorem dX5_judge_123 : decode cX5_judge 123 = .ok (.goto 4, 3) := by decide +kernel
theorem dX5_judge_126 : decode cX5_judge 126 = .ok (.iconst 2, 1) := by decide +kernel
theorem dX5_judge_127 : decode cX5_judge 127 = .ok (.ireturn, 1) := by decide +kernel
theorem dX5_judge_128 : decode cX5_judge 128 = .ok (.aload_n 0, 1) := by decide +kernel
theorem dX5_judge_129 : decode cX5_judge 129 = .ok (.iload_n 2, 1) := by decide +kernel
theorem dX5_judge_130 : decode cX5_judge 130 = .ok (.iload_n 3, 1) := by decide +kernel
theorem dX5_judge_131 : decode cX5_judge 131 = .ok (.aload_n 0, 1) := by decide +kernel
theorem dX5_judge_132 : decode cX5_judge 132 = .ok (.getfield 12, 3) := by decide +kernel
theorem dX5_judge_135 : decode cX5_judge 135 = .ok (.getfield 83, 3) := by decide +kernel
theorem dX5_judge_138 : decode cX5_judge 138 = .ok (.bipush 11, 2) := by decide +kernel
theorem dX5_judge_140 : decode cX5_judge 140 = .ok (.invokevirtual 337, 3) := by decide +kernel
theorem dX5_judge_143 : decode cX5_judge 143 = .ok (.ireturn, 1) := by decide +kernel
theorem dX5_judge_144 : decode cX5_judge 144 = .ok (.aload_n 0, 1) := by decide +kernel
theorem dX5_judge_145 : decode cX5_judge 145 = .ok (.iload_n 2, 1) := by decide +kernel
theorem dX5_judge_146 : decode cX5_judge 146 = .ok (.iload_n 3, 1) := by decide +kernel
theorem dX5_judge_147 : decode cX5_judge 147 = .ok (.aload_n 0, 1) := by decide +kernel
theorem dX5_judge_148 : decode cX5_judge 148 = .ok (.getfield 12, 3) := by decide +kernel
theorem dX5_judge_151 : decode cX5_judge 151 = .ok (.getfield 99, 3) := by decide +kernel
theorem dX5_judge_154 : decode cX5_judge 154 = .ok (.bipush 12, 2) := by decide +kernel
theorem dX5_judge_156 : decode cX5_judge 156 = .ok (.invokevirtual 337, 3) := by decide +kernel
theorem dX5_judge_159 : decode cX5_judge 159 = .ok (.ireturn, 1) := by decide +kernel
theorem dX5_judge_160 : decode cX5_judge 160 = .ok (.aload_n 0, 1) := by decide +kernel
theorem dX5_judge_161 : decode cX5_judge 161 = .ok (.iload_n 2, 1) := by decide +kernel
theorem dX5_judge_162 : decode cX5_judge 162 = .ok (.invokevirtual 341, 3) := by decide +kernel
theorem dX5_judge_165 : decode cX5_judge 165 = .ok (.ireturn, 1) := by decide +kernel
theorem dX5_judge_166 : decode cX5_judge 166 = .ok (.aload_n 0, 1) := by decide +kernel
theorem dX5_judge_167 : decode cX5_judge 167 = .ok (.iload_n 2, 1) := by decide +kernel
theorem dX5_judge_168 : decode cX5_judge 168 = .ok (.iload_n 3, 1) := by decide +kernel
theorem dX5_judge_169 : decode cX5_judge 169 = .ok (.invokevirtual 344, 3) := by decide +kernel
theorem dX5_judge_172 : decode cX5_judge 172 = .ok (.ireturn, 1) := by decide +kernel
theorem dX5_judge_173 : decode cX5_judge 173 = .ok (.aload_n 0, 1) := by decide +kernel
theorem dX5_judge_174 : decode cX5_judge 174 = .ok (.getfield 12, 3) := by decide +kernel
theorem dX5_judge_177 : decode cX5_judge 177 = .ok (.iload_n 2, 1) := by decide +kernel
theorem dX5_judge_178 : decode cX5_judge 178 = .ok (.invokevirtual 150, 3) := by decide +kernel
theorem dX5_judge_181 : decode cX5_judge 181 = .ok (.ifCond .eq 7, 3) := by decide +kernel
theorem dX5_judge_184 : decode cX5_judge 184 = .ok (.iconst 0, 1) := by decide +kernel
theorem dX5_judge_185 : decode cX5_judge 185 = .ok (.goto 4, 3) := by decide +kernel
theorem dX5_judge_188 : decode cX5_judge 188 = .ok (.iconst 1, 1) := by decide +kernel
theorem dX5_judge_189 : decode cX5_judge 189 = .ok (.ireturn, 1) := by decide +kernel
theorem dX5_judge_190 : decode cX5_judge 190 = .ok (.aload_n 0, 1) := by decide +kernel
theorem dX5_judge_191 : decode cX5_judge 191 = .ok (.iload_n 2, 1) := by decide +kernel
theorem dX5_judge_192 : decode cX5_judge 192 = .ok (.iload_n 3, 1) := by decide +kernel
theorem dX5_judge_193 : decode cX5_judge 193 = .ok (.invokevirtual 347, 3) := by decide +kernel
theorem dX5_judge_196 : decode cX5_judge 196 = .ok (.ireturn, 1) := by decide +kernel
theorem dX5_judge_197 : decode cX5_judge 197 = .ok (.iconst 2, 1) := by decide +kernel
theorem dX5_judge_198 : decode cX5_judge 198 = .ok (.ireturn, 1) := by decide +kernel
theorem dX5_judgeSign_0 : decode cX5_judgeSign 0 = .ok (.aload_n 0, 1) := by decide +kernel
theorem dX5_judgeSign_1 : decode cX5_judgeSign 1 = .ok (.getfield 12, 3) := by decide +kernel
theorem dX5_judgeSign_4 : decode cX5_judgeSign 4 = .ok (.iload_n 1, 1) := by decide +kernel
theorem dX5_judgeSign_5 : decode cX5_judgeSign 5 = .ok (.invokevirtual 143, 3) := by decide +kernel
theorem dX5_judgeSign_8 : decode cX5_judgeSign 8 = .ok (.ifCond .ne 5, 3) := by decide +kernel
theorem dX5_judgeSign_11 : decode cX5_judgeSign 11 = .ok (.iconst 1, 1) := by decide +kernel
theorem dX5_judgeSign_12 : decode cX5_judgeSign 12 = .ok (.ireturn, 1) := by decide +kernel
theorem dX5_judgeSign_13 : decode cX5_judgeSign 13 = .ok (.iload_n 2, 1) := by decide +kernel
theorem dX5_judgeSign_14 : decode cX5_judgeSign 14 = .ok (.ifCond .lt 9, 3) := by decide +kernel
theorem dX5_judgeSign_17 : decode cX5_judgeSign 17 = .ok (.iload_n 2, 1) := by decide +kernel
theorem dX5_judgeSign_18 : decode cX5_judgeSign 18 = .ok (.iload 5, 2) := by decide +kernel
theorem dX5_judgeSign_20 : decode cX5_judgeSign 20 = .ok (.if_icmp .le 5, 3) := by decide +kernel
theorem dX5_judgeSign_23 : decode cX5_judgeSign 23 = .ok (.iconst 2, 1) := by decide +kernel
theorem dX5_judgeSign_24 : decode cX5_judgeSign 24 = .ok (.ireturn, 1) := by decide +kernel
theorem dX5_judgeSign_25 : decode cX5_judgeSign 25 = .ok (.lload_n 3, 1) := by decide +kernel
theorem dX5_judgeSign_26 : decode cX5_judgeSign 26 = .ok (.iload_n 1, 1) := by decide +kernel
theorem dX5_judgeSign_27 : decode cX5_judgeSign 27 = .ok (.invokestatic 91, 3) := by decide +kernel
theorem dX5_judgeSign_30 : decode cX5_judgeSign 30 = .ok (.iload_n 2, 1) := by decide +kernel
theorem dX5_judgeSign_31 : decode cX5_judgeSign 31 = .ok (.if_icmp .ne 12, 3) := by decide +kernel
theorem dX5_judgeSign_34 : decode cX5_judgeSign 34 = .ok (.aload_n 0, 1) := by decide +kernel
theorem dX5_judgeSign_35 : decode cX5_judgeSign 35 = .ok (.iconst 2, 1) := by decide +kernel
theorem dX5_judgeSign_36 : decode cX5_judgeSign 36 = .ok (.iload_n 1, 1) := by decide +kernel
theorem dX5_judgeSign_37 : decode cX5_judgeSign 37 = .ok (.invokevirtual 350, 3) := by decide +kernel
theorem dX5_judgeSign_40 : decode cX5_judgeSign 40 = .ok (.goto 4, 3) := by decide +kernel
theorem dX5_judgeSign_43 : decode cX5_judgeSign 43 = .ok (.iconst 0, 1) := by decide +kernel
theorem dX5_judgeSign_44 : decode cX5_judgeSign 44 = .ok (.ireturn, 1) := by decide +kernel
theorem dX5_judgeTurn_0 : decode cX5_judgeTurn 0 = .ok (.aload_n 0, 1) := by decide +kernel
theorem dX5_judgeTurn_1 : decode cX5_judgeTurn 1 = .ok (.getfield 12, 3) := by decide +kernel
theorem dX5_judgeTurn_4 : decode cX5_judgeTurn 4 = .ok (.iload_n 1, 1) := by decide +kernel
theorem dX5_judgeTurn_5 : decode cX5_judgeTurn 5 = .ok (.invokevirtual 203, 3) := by decide +kernel
theorem dX5_judgeTurn_8 : decode cX5_judgeTurn 8 = .ok (.ifCond .ne 5, 3) := by decide +kernel
theorem dX5_judgeTurn_11 : decode cX5_judgeTurn 11 = .ok (.iconst 1, 1) := by decide +kernel
theorem dX5_judgeTurn_12 : decode cX5_judgeTurn 12 = .ok (.ireturn, 1) := by decide +kernel
theorem dX5_judgeTurn_13 : decode cX5_judgeTurn 13 = .ok (.aload_n 0, 1) := by decide +kernel
theorem dX5_judgeTurn_14 : decode cX5_judgeTurn 14 = .ok (.getfield 12, 3) := by decide +kernel
theorem dX5_judgeTurn_17 : decode cX5_judgeTurn 17 = .ok (.iload_n 1, 1) := by decide +kernel
theorem dX5_judgeTurn_18 : decode cX5_judgeTurn 18 = .ok (.invokevirtual 353, 3) := by decide +kernel
theorem dX5_judgeTurn_21 : decode cX5_judgeTurn 21 = .ok (.ifCond .eq 7, 3) := by decide +kernel
theorem dX5_judgeTurn_24 : decode cX5_judgeTurn 24 = .ok (.iconst 0, 1) := by decide +kernel
theorem dX5_judgeTurn_25 : decode cX5_judgeTurn 25 = .ok (.goto 11, 3) := by decide +kernel
theorem dX5_judgeTurn_28 : decode cX5_judgeTurn 28 = .ok (.aload_n 0, 1) := by decide +kernel
theorem dX5_judgeTurn_29 : decode cX5_judgeTurn 29 = .ok (.iconst 1, 1) := by decide +kernel
theorem dX5_judgeTurn_30 : decode cX5_judgeTurn 30 = .ok (.iload_n 1, 1) := by decide +kernel
theorem dX5_judgeTurn_31 : decode cX5_judgeTurn 31 = .ok (.iconst 2, 1) := by decide +kernel
theorem dX5_judgeTurn_32 : decode cX5_judgeTurn 32 = .ok (.idiv, 1) := by decide +kernel
theorem dX5_judgeTurn_33 : decode cX5_judgeTurn 33 = .ok (.invokevirtual 350, 3) := by decide +kernel
theorem dX5_judgeTurn_36 : decode cX5_judgeTurn 36 = .ok (.ireturn, 1) := by decide +kernel
theorem dX5_judgeSwap_0 : decode cX5_judgeSwap 0 = .ok (.aload_n 0, 1) := by decide +kernel
theorem dX5_judgeSwap_1 : decode cX5_judgeSwap 1 = .ok (.getfield 12, 3) := by decide +kernel
theorem dX5_judgeSwap_4 : decode cX5_judgeSwap 4 = .ok (.iload_n 1, 1) := by decide +kernel
theorem dX5_judgeSwap_5 : decode cX5_judgeSwap 5 = .ok (.invokevirtual 143, 3) := by decide +kernel
theorem dX5_judgeSwap_8 : decode cX5_judgeSwap 8 = .ok (.ifCond .eq 14, 3) := by decide +kernel
theorem dX5_judgeSwap_11 : decode cX5_judgeSwap 11 = .ok (.aload_n 0, 1) := by decide +kernel
theorem dX5_judgeSwap_12 : decode cX5_judgeSwap 12 = .ok (.getfield 12, 3) := by decide +kernel
theorem dX5_judgeSwap_15 : decode cX5_judgeSwap 15 = .ok (.iload_n 2, 1) := by decide +kernel
theorem dX5_judgeSwap_16 : decode cX5_judgeSwap 16 = .ok (.invokevirtual 143, 3) := by decide +kernel
theorem dX5_judgeSwap_19 : decode cX5_judgeSwap 19 = .ok (.ifCond .ne 5, 3) := by decide +kernel
theorem dX5_judgeSwap_22 : decode cX5_judgeSwap 22 = .ok (.iconst 1, 1) := by decide +kernel
theorem dX5_judgeSwap_23 : decode cX5_judgeSwap 23 = .ok (.ireturn, 1) := by decide +kernel
theorem dX5_judgeSwap_24 : decode cX5_judgeSwap 24 = .ok (.iload_n 1, 1) := by decide +kernel
theorem dX5_judgeSwap_25 : decode cX5_judgeSwap 25 = .ok (.iload_n 2, 1) := by decide +kernel
theorem dX5_judgeSwap_26 : decode cX5_judgeSwap 26 = .ok (.if_icmp .ne 12, 3) := by decide +kernel
theorem dX5_judgeSwap_29 : decode cX5_judgeSwap 29 = .ok (.aload_n 0, 1) := by decide +kernel
theorem dX5_judgeSwap_30 : decode cX5_judgeSwap 30 = .ok (.iconst 3, 1) := by decide +kernel
theorem dX5_judgeSwap_31 : decode cX5_judgeSwap 31 = .ok (.iload_n 1, 1) := by decide +kernel
theorem dX5_judgeSwap_32 : decode cX5_judgeSwap 32 = .ok (.invokevirtual 350, 3) := by decide +kernel
theorem dX5_judgeSwap_35 : decode cX5_judgeSwap 35 = .ok (.goto 4, 3) := by decide +kernel
theorem dX5_judgeSwap_38 : decode cX5_judgeSwap 38 = .ok (.iconst 0, 1) := by decide +kernel
theorem dX5_judgeSwap_39 : decode cX5_judgeSwap 39 = .ok (.ireturn, 1) := by decide +kernel
theorem dX5_judgeScramble_0 : decode cX5_judgeScramble 0 = .ok (.iload_n 1, 1) := by decide +kernel
theorem dX5_judgeScramble_1 : decode cX5_judgeScramble 1 = .ok (.ifCond .lt 14, 3) := by decide +kernel
theorem dX5_judgeScramble_4 : decode cX5_judgeScramble 4 = .ok (.iload_n 1, 1) := by decide +kernel
theorem dX5_judgeScramble_5 : decode cX5_judgeScramble 5 = .ok (.sipush 999, 3) := by decide +kernel
theorem dX5_judgeScramble_8 : decode cX5_judgeScramble 8 = .ok (.if_icmp .gt 7, 3) := by decide +kernel
theorem dX5_judgeScramble_11 : decode cX5_judgeScramble 11 = .ok (.iconst 1, 1) := by decide +kernel
theorem dX5_judgeScramble_12 : decode cX5_judgeScramble 12 = .ok (.goto 4, 3) := by decide +kernel
theorem dX5_judgeScramble_15 : decode cX5_judgeScramble 15 = .ok (.iconst 0, 1) := by decide +kernel
theorem dX5_judgeScramble_16 : decode cX5_judgeScramble 16 = .ok (.istore_n 3, 1) := by decide +kernel
theorem dX5_judgeScramble_17 : decode cX5_judgeScramble 17 = .ok (.iload_n 3, 1) := by decide +kernel
theorem dX5_judgeScramble_18 : decode cX5_judgeScramble 18 = .ok (.ifCond .eq 18, 3) := by decide +kernel
theorem dX5_judgeScramble_21 : decode cX5_judgeScramble 21 = .ok (.iload_n 2, 1) := by decide +kernel
theorem dX5_judgeScramble_22 : decode cX5_judgeScramble 22 = .ok (.iconst 1, 1) := by decide +kernel
theorem dX5_judgeScramble_23 : decode cX5_judgeScramble 23 = .ok (.if_icmp .lt 13, 3) := by decide +kernel
theorem dX5_judgeScramble_26 : decode cX5_judgeScramble 26 = .ok (.iload_n 2, 1) := by decide +kernel
theorem dX5_judgeScramble_27 : decode cX5_judgeScramble 27 = .ok (.bipush 9, 2) := by decide +kernel
theorem dX5_judgeScramble_29 : decode cX5_judgeScramble 29 = .ok (.if_icmp .gt 7, 3) := by decide +kernel
theorem dX5_judgeScramble_32 : decode cX5_judgeScramble 32 = .ok (.iconst 0, 1) := by decide +kernel
theorem dX5_judgeScramble_33 : decode cX5_judgeScramble 33 = .ok (.goto 4, 3) := by decide +kernel
theorem dX5_judgeScramble_36 : decode cX5_judgeScramble 36 = .ok (.iconst 2, 1) := by decide +kernel
theorem dX5_judgeScramble_37 : decode cX5_judgeScramble 37 = .ok (.ireturn, 1) := by decide +kernel
theorem dX5_judgeStep_0 : decode cX5_judgeStep 0 = .ok (.aload_n 0, 1) := by decide +kernel
theorem dX5_judgeStep_1 : decode cX5_judgeStep 1 = .ok (.getfield 12, 3) := by decide +kernel
theorem dX5_judgeStep_4 : decode cX5_judgeStep 4 = .ok (.invokevirtual 356, 3) := by decide +kernel
theorem dX5_judgeStep_7 : decode cX5_judgeStep 7 = .ok (.ifCond .eq 16, 3) := by decide +kernel
theorem dX5_judgeStep_10 : decode cX5_judgeStep 10 = .ok (.aload_n 0, 1) := by decide +kernel
theorem dX5_judgeStep_11 : decode cX5_judgeStep 11 = .ok (.iconst 5, 1) := by decide +kernel
theorem dX5_judgeStep_12 : decode cX5_judgeStep 12 = .ok (.aload_n 0, 1) := by decide +kernel
theorem dX5_judgeStep_13 : decode cX5_judgeStep 13 = .ok (.getfield 12, 3) := by decide +kernel
theorem dX5_judgeStep_16 : decode cX5_judgeStep 16 = .ok (.invokevirtual 79, 3) := by decide +kernel
theorem dX5_judgeStep_19 : decode cX5_judgeStep 19 = .ok (.invokevirtual 350, 3) := by decide +kernel
theorem dX5_judgeStep_22 : decode cX5_judgeStep 22 = .ok (.ireturn, 1) := by decide +kernel
theorem dX5_judgeStep_23 : decode cX5_judgeStep 23 = .ok (.aload_n 0, 1) := by decide +kernel
theorem dX5_judgeStep_24 : decode cX5_judgeStep 24 = .ok (.getfield 12, 3) := by decide +kernel
theorem dX5_judgeStep_27 : decode cX5_judgeStep 27 = .ok (.invokevirtual 187, 3) := by decide +kernel
theorem dX5_judgeStep_30 : decode cX5_judgeStep 30 = .ok (.ifCond .eq 31, 3) := by decide +kernel
theorem dX5_judgeStep_33 : decode cX5_judgeStep 33 = .ok (.aload_n 0, 1) := by decide +kernel
theorem dX5_judgeStep_34 : decode cX5_judgeStep 34 = .ok (.iconst 4, 1) := by decide +kernel
theorem dX5_judgeStep_35 : decode cX5_judgeStep 35 = .ok (.aload_n 0, 1) := by decide +kernel
theorem dX5_judgeStep_36 : decode cX5_judgeStep 36 = .ok (.getfield 12, 3) := by decide +kernel
theorem dX5_judgeStep_39 : decode cX5_judgeStep 39 = .ok (.invokevirtual 79, 3) := by decide +kernel
theorem dX5_judgeStep_42 : decode cX5_judgeStep 42 = .ok (.aload_n 0, 1) := by decide +kernel
theorem dX5_judgeStep_43 : decode cX5_judgeStep 43 = .ok (.getfield 12, 3) := by decide +kernel
theorem dX5_judgeStep_46 : decode cX5_judgeStep 46 = .ok (.aload_n 0, 1) := by decide +kernel
theorem dX5_judgeStep_47 : decode cX5_judgeStep 47 = .ok (.getfield 12, 3) := by decide +kernel
theorem dX5_judgeStep_50 : decode cX5_judgeStep 50 = .ok (.getfield 83, 3) := by decide +kernel
theorem dX5_judgeStep_53 : decode cX5_judgeStep 53 = .ok (.invokevirtual 102, 3) := by decide +kernel
theorem dX5_judgeStep_56 : decode cX5_judgeStep 56 = .ok (.isub, 1) := by decide +kernel
theorem dX5_judgeStep_57 : decode cX5_judgeStep 57 = .ok (.invokevirtual 350, 3) := by decide +kernel
theorem dX5_judgeStep_60 : decode cX5_judgeStep 60 = .ok (.ireturn, 1) := by decide +kernel
theorem dX5_judgeStep_61 : decode cX5_judgeStep 61 = .ok (.iconst 0, 1) := by decide +kernel
theorem dX5_judgeStep_62 : decode cX5_judgeStep 62 = .ok (.ireturn, 1) := by decide +kernel
theorem dX5_refuse_0 : decode cX5_refuse 0 = .ok (.aload_n 0, 1) := by decide +kernel
theorem dX5_refuse_1 : decode cX5_refuse 1 = .ok (.iload_n 1, 1) := by decide +kernel
theorem dX5_refuse_2 : decode cX5_refuse 2 = .ok (.putfield 61, 3) := by decide +kernel
theorem dX5_refuse_5 : decode cX5_refuse 5 = .ok (.aload_n 0, 1) := by decide +kernel
theorem dX5_refuse_6 : decode cX5_refuse 6 = .ok (.iload_n 2, 1) := by decide +kernel
theorem dX5_refuse_7 : decode cX5_refuse 7 = .ok (.putfield 64, 3) := by decide +kernel
theorem dX5_refuse_10 : decode cX5_refuse 10 = .ok (.iconst 3, 1) := by decide +kernel
theorem dX5_refuse_11 : decode cX5_refuse 11 = .ok (.ireturn, 1) := by decide +kernel
theorem dX5_carryOut_0 : decode cX5_carryOut 0 = .ok (.iload_n 1, 1) := by decide +kernel
theorem dX5_carryOut_1 : decode cX5_carryOut 1 = .ok (.tableswitch 229 98 120 #[107, 229, 229, 229, 229, 154, 229, 229, 229, 229, 229, 229, 229, 229, 132, 229, 217, 187, 176, 229, 229, 229, 199], 107) := by decide +kernel
theorem dX5_carryOut_108 : decode cX5_carryOut 108 = .ok (.aload_n 0, 1) := by decide +kernel
theorem dX5_carryOut_109 : decode cX5_carryOut 109 = .ok (.getfield 12, 3) := by decide +kernel
theorem dX5_carryOut_112 : decode cX5_carryOut 112 = .ok (.iload_n 2, 1) := by decide +kernel
theorem dX5_carryOut_113 : decode cX5_carryOut 113 = .ok (.iload_n 3, 1) := by decide +kernel
theorem dX5_carryOut_114 : decode cX5_carryOut 114 = .ok (.invokevirtual 71, 3) := by decide +kernel
theorem dX5_carryOut_117 : decode cX5_carryOut 117 = .ok (.aload_n 0, 1) := by decide +kernel
theorem dX5_carryOut_118 : decode cX5_carryOut 118 = .ok (.getfield 12, 3) := by decide +kernel
theorem dX5_carryOut_121 : decode cX5_carryOut 121 = .ok (.dup, 1) := by decide +kernel
theorem dX5_carryOut_122 : decode cX5_carryOut 122 = .ok (.getfield 281, 3) := by decide +kernel
theorem dX5_carryOut_125 : decode cX5_carryOut 125 = .ok (.iconst 1, 1) := by decide +kernel
theorem dX5_carryOut_126 : decode cX5_carryOut 126 = .ok (.iadd, 1) := by decide +kernel
theorem dX5_carryOut_127 : decode cX5_carryOut 127 = .ok (.putfield 281, 3) := by decide +kernel
theorem dX5_carryOut_130 : decode cX5_carryOut 130 = .ok (.goto 100, 3) := by decide +kernel
theorem dX5_carryOut_133 : decode cX5_carryOut 133 = .ok (.aload_n 0, 1) := by decide +kernel
theorem dX5_carryOut_134 : decode cX5_carryOut 134 = .ok (.getfield 12, 3) := by decide +kernel
theorem dX5_carryOut_137 : decode cX5_carryOut 137 = .ok (.aload_n 0, 1) := by decide +kernel
theorem dX5_carryOut_138 : decode cX5_carryOut 138 = .ok (.getfield 12, 3) := by decide +kernel
theorem dX5_carryOut_141 : decode cX5_carryOut 141 = .ok (.getfield 83, 3) := by decide +kernel
theorem dX5_carryOut_144 : decode cX5_carryOut 144 = .ok (.iload_n 2, 1) := by decide +kernel
theorem dX5_carryOut_145 : decode cX5_carryOut 145 = .ok (.iload_n 3, 1) := by decide +kernel
theorem dX5_carryOut_146 : decode cX5_carryOut 146 = .ok (.invokestatic 359, 3) := by decide +kernel
theorem dX5_carryOut_149 : decode cX5_carryOut 149 = .ok (.putfield 83, 3) := by decide +kernel
theorem dX5_carryOut_152 : decode cX5_carryOut 152 = .ok (.goto 78, 3) := by decide +kernel
theorem dX5_carryOut_155 : decode cX5_carryOut 155 = .ok (.aload_n 0, 1) := by decide +kernel
theorem dX5_carryOut_156 : decode cX5_carryOut 156 = .ok (.getfield 12, 3) := by decide +kernel
theorem dX5_carryOut_159 : decode cX5_carryOut 159 = .ok (.aload_n 0, 1) := by decide +kernel
theorem dX5_carryOut_160 : decode cX5_carryOut 160 = .ok (.getfield 12, 3) := by decide +kernel
theorem dX5_carryOut_163 : decode cX5_carryOut 163 = .ok (.getfield 99, 3) := by decide +kernel
theorem dX5_carryOut_166 : decode cX5_carryOut 166 = .ok (.iload_n 2, 1) := by decide +kernel
theorem dX5_carryOut_167 : decode cX5_carryOut 167 = .ok (.iload_n 3, 1) := by decide +kernel
theorem dX5_carryOut_168 : decode cX5_carryOut 168 = .ok (.invokestatic 359, 3) := by decide +kernel
theorem dX5_carryOut_171 : decode cX5_carryOut 171 = .ok (.putfield 99, 3) := by decide +kernel
theorem dX5_carryOut_174 : decode cX5_carryOut 174 = .ok (.goto 56, 3) := by decide +kernel
theorem dX5_carryOut_177 : decode cX5_carryOut 177 = .ok (.aload_n 0, 1) := by decide +kernel
theorem dX5_carryOut_178 : decode cX5_carryOut 178 = .ok (.getfield 12, 3) := by decide +kernel
theorem dX5_carryOut_181 : decode cX5_carryOut 181 = .ok (.iload_n 2, 1) := by decide +kernel
theorem dX5_carryOut_182 : decode cX5_carryOut 182 = .ok (.invokevirtual 140, 3) := by decide +kernel
theorem dX5_carryOut_185 : decode cX5_carryOut 185 = .ok (.goto 45, 3) := by decide +kernel
theorem dX5_carryOut_188 : decode cX5_carryOut 188 = .ok (.aload_n 0, 1) := by decide +kernel
theorem dX5_carryOut_189 : decode cX5_carryOut 189 = .ok (.getfield 12, 3) := by decide +kernel
theorem dX5_carryOut_192 : decode cX5_carryOut 192 = .ok (.iload_n 2, 1) := by decide +kernel
theorem dX5_carryOut_193 : decode cX5_carryOut 193 = .ok (.iload_n 3, 1) := by decide +kernel
theorem dX5_carryOut_194 : decode cX5_carryOut 194 = .ok (.invokevirtual 363, 3) := by decide +kernel
theorem dX5_carryOut_197 : decode cX5_carryOut 197 = .ok (.goto 33, 3) := by decide +kernel
theorem dX5_carryOut_200 : decode cX5_carryOut 200 = .ok (.aload_n 0, 1) := by decide +kernel
theorem dX5_carryOut_201 : decode cX5_carryOut 201 = .ok (.getfield 12, 3) := by decide +kernel
theorem dX5_carryOut_204 : decode cX5_carryOut 204 = .ok (.dup, 1) := by decide +kernel
theorem dX5_carryOut_205 : decode cX5_carryOut 205 = .ok (.getfield 366, 3) := by decide +kernel
theorem dX5_carryOut_208 : decode cX5_carryOut 208 = .ok (.iconst 1, 1) := by decide +kernel
theorem dX5_carryOut_209 : decode cX5_carryOut 209 = .ok (.iload_n 2, 1) := by decide +kernel
theorem dX5_carryOut_210 : decode cX5_carryOut 210 = .ok (.ishl, 1) := by decide +kernel
theorem dX5_carryOut_211 : decode cX5_carryOut 211 = .ok (.ixor, 1) := by decide +kernel
theorem dX5_carryOut_212 : decode cX5_carryOut 212 = .ok (.putfield 366, 3) := by decide +kernel
theorem dX5_carryOut_215 : decode cX5_carryOut 215 = .ok (.goto 15, 3) := by decide +kernel
theorem dX5_carryOut_218 : decode cX5_carryOut 218 = .ok (.aload_n 0, 1) := by decide +kernel
theorem dX5_carryOut_219 : decode cX5_carryOut 219 = .ok (.getfield 12, 3) := by decide +kernel
theorem dX5_carryOut_222 : decode cX5_carryOut 222 = .ok (.iload_n 2, 1) := by decide +kernel
theorem dX5_carryOut_223 : decode cX5_carryOut 223 = .ok (.iload_n 3, 1) := by decide +kernel
theorem dX5_carryOut_224 : decode cX5_carryOut 224 = .ok (.invokevirtual 369, 3) := by decide +kernel
theorem dX5_carryOut_227 : decode cX5_carryOut 227 = .ok (.goto 3, 3) := by decide +kernel
theorem dX5_carryOut_230 : decode cX5_carryOut 230 = .ok (.return_, 1) := by decide +kernel
theorem dX5_carryOutAll_0 : decode cX5_carryOutAll 0 = .ok (.aload_n 0, 1) := by decide +kernel
theorem dX5_carryOutAll_1 : decode cX5_carryOutAll 1 = .ok (.getfield 16, 3) := by decide +kernel
theorem dX5_carryOutAll_4 : decode cX5_carryOutAll 4 = .ok (.aload_n 0, 1) := by decide +kernel
theorem dX5_carryOutAll_5 : decode cX5_carryOutAll 5 = .ok (.getfield 12, 3) := by decide +kernel
theorem dX5_carryOutAll_8 : decode cX5_carryOutAll 8 = .ok (.invokevirtual 306, 3) := by decide +kernel
theorem dX5_carryOutAll_11 : decode cX5_carryOutAll 11 = .ok (.iconst 0, 1) := by decide +kernel
theorem dX5_carryOutAll_12 : decode cX5_carryOutAll 12 = .ok (.istore_n 1, 1) := by decide +kernel
theorem dX5_carryOutAll_13 : decode cX5_carryOutAll 13 = .ok (.iload_n 1, 1) := by decide +kernel
theorem dX5_carryOutAll_14 : decode cX5_carryOutAll 14 = .ok (.aload_n 0, 1) := by decide +kernel
theorem dX5_carryOutAll_15 : decode cX5_carryOutAll 15 = .ok (.getfield 46, 3) := by decide +kernel
theorem dX5_carryOutAll_18 : decode cX5_carryOutAll 18 = .ok (.getfield 271, 3) := by decide +kernel
theorem dX5_carryOutAll_21 : decode cX5_carryOutAll 21 = .ok (.if_icmp .ge 83, 3) := by decide +kernel
theorem dX5_carryOutAll_24 : decode cX5_carryOutAll 24 = .ok (.aload_n 0, 1) := by decide +kernel
theorem dX5_carryOutAll_25 : decode cX5_carryOutAll 25 = .ok (.aload_n 0, 1) := by decide +kernel
theorem dX5_carryOutAll_26 : decode cX5_carryOutAll 26 = .ok (.getfield 46, 3) := by decide +kernel
theorem dX5_carryOutAll_29 : decode cX5_carryOutAll 29 = .ok (.iload_n 1, 1) := by decide +kernel
theorem dX5_carryOutAll_30 : decode cX5_carryOutAll 30 = .ok (.invokevirtual 372, 3) := by decide +kernel
theorem dX5_carryOutAll_33 : decode cX5_carryOutAll 33 = .ok (.aload_n 0, 1) := by decide +kernel
theorem dX5_carryOutAll_34 : decode cX5_carryOutAll 34 = .ok (.getfield 46, 3) := by decide +kernel
theorem dX5_carryOutAll_37 : decode cX5_carryOutAll 37 = .ok (.iload_n 1, 1) := by decide +kernel
theorem dX5_carryOutAll_38 : decode cX5_carryOutAll 38 = .ok (.invokevirtual 375, 3) := by decide +kernel
theorem dX5_carryOutAll_41 : decode cX5_carryOutAll 41 = .ok (.aload_n 0, 1) := by decide +kernel
theorem dX5_carryOutAll_42 : decode cX5_carryOutAll 42 = .ok (.getfield 46, 3) := by decide +kernel
theorem dX5_carryOutAll_45 : decode cX5_carryOutAll 45 = .ok (.iload_n 1, 1) := by decide +kernel
theorem dX5_carryOutAll_46 : decode cX5_carryOutAll 46 = .ok (.invokevirtual 378, 3) := by decide +kernel
theorem dX5_carryOutAll_49 : decode cX5_carryOutAll 49 = .ok (.invokevirtual 328, 3) := by decide +kernel
theorem dX5_carryOutAll_52 : decode cX5_carryOutAll 52 = .ok (.istore_n 2, 1) := by decide +kernel
theorem dX5_carryOutAll_53 : decode cX5_carryOutAll 53 = .ok (.iload_n 2, 1) := by decide +kernel
theorem dX5_carryOutAll_54 : decode cX5_carryOutAll 54 = .ok (.ifCond .eq 16, 3) := by decide +kernel
theorem dX5_carryOutAll_57 : decode cX5_carryOutAll 57 = .ok (.aload_n 0, 1) := by decide +kernel
theorem dX5_carryOutAll_58 : decode cX5_carryOutAll 58 = .ok (.getfield 12, 3) := by decide +kernel
theorem dX5_carryOutAll_61 : decode cX5_carryOutAll 61 = .ok (.aload_n 0, 1) := by decide +kernel
theorem dX5_carryOutAll_62 : decode cX5_carryOutAll 62 = .ok (.getfield 16, 3) := by decide +kernel
theorem dX5_carryOutAll_65 : decode cX5_carryOutAll 65 = .ok (.invokevirtual 306, 3) := by decide +kernel
theorem dX5_carryOutAll_68 : decode cX5_carryOutAll 68 = .ok (.iload_n 2, 1) := by decide +kernel
theorem dX5_carryOutAll_69 : decode cX5_carryOutAll 69 = .ok (.ireturn, 1) := by decide +kernel
theorem dX5_carryOutAll_70 : decode cX5_carryOutAll 70 = .ok (.aload_n 0, 1) := by decide +kernel
theorem dX5_carryOutAll_71 : decode cX5_carryOutAll 71 = .ok (.aload_n 0, 1) := by decide +kernel
theorem dX5_carryOutAll_72 : decode cX5_carryOutAll 72 = .ok (.getfield 46, 3) := by decide +kernel
theorem dX5_carryOutAll_75 : decode cX5_carryOutAll 75 = .ok (.iload_n 1, 1) := by decide +kernel
theorem dX5_carryOutAll_76 : decode cX5_carryOutAll 76 = .ok (.invokevirtual 372, 3) := by decide +kernel
theorem dX5_carryOutAll_79 : decode cX5_carryOutAll 79 = .ok (.aload_n 0, 1) := by decide +kernel
theorem dX5_carryOutAll_80 : decode cX5_carryOutAll 80 = .ok (.getfield 46, 3) := by decide +kernel
theorem dX5_carryOutAll_83 : decode cX5_carryOutAll 83 = .ok (.iload_n 1, 1) := by decide +kernel
theorem dX5_carryOutAll_84 : decode cX5_carryOutAll 84 = .ok (.invokevirtual 375, 3) := by decide +kernel
theorem dX5_carryOutAll_87 : decode cX5_carryOutAll 87 = .ok (.aload_n 0, 1) := by decide +kernel
theorem dX5_carryOutAll_88 : decode cX5_carryOutAll 88 = .ok (.getfield 46, 3) := by decide +kernel
theorem dX5_carryOutAll_91 : decode cX5_carryOutAll 91 = .ok (.iload_n 1, 1) := by decide +kernel
theorem dX5_carryOutAll_92 : decode cX5_carryOutAll 92 = .ok (.invokevirtual 378, 3) := by decide +kernel
theorem dX5_carryOutAll_95 : decode cX5_carryOutAll 95 = .ok (.invokevirtual 331, 3) := by decide +kernel
theorem dX5_carryOutAll_98 : decode cX5_carryOutAll 98 = .ok (.iinc 1 1, 3) := by decide +kernel
theorem dX5_carryOutAll_101 : decode cX5_carryOutAll 101 = .ok (.goto (-88), 3) := by decide +kernel
theorem dX5_carryOutAll_104 : decode cX5_carryOutAll 104 = .ok (.aload_n 0, 1) := by decide +kernel
theorem dX5_carryOutAll_105 : decode cX5_carryOutAll 105 = .ok (.getfield 25, 3) := by decide +kernel
theorem dX5_carryOutAll_108 : decode cX5_carryOutAll 108 = .ok (.aload_n 0, 1) := by decide +kernel
theorem dX5_carryOutAll_109 : decode cX5_carryOutAll 109 = .ok (.getfield 16, 3) := by decide +kernel
theorem dX5_carryOutAll_112 : decode cX5_carryOutAll 112 = .ok (.invokevirtual 134, 3) := by decide +kernel
theorem dX5_carryOutAll_115 : decode cX5_carryOutAll 115 = .ok (.iconst 0, 1) := by decide +kernel
theorem dX5_carryOutAll_116 : decode cX5_carryOutAll 116 = .ok (.ireturn, 1) := by decide +kernel
theorem dX5_fewestByHalves_0 : decode cX5_fewestByHalves 0 = .ok (.aload_n 0, 1) := by decide +kernel
theorem dX5_fewestByHalves_1 : decode cX5_fewestByHalves 1 = .ok (.getfield 32, 3) := by decide +kernel
theorem dX5_fewestByHalves_4 : decode cX5_fewestByHalves 4 = .ok (.aload_n 0, 1) := by decide +kernel
theorem dX5_fewestByHalves_5 : decode cX5_fewestByHalves 5 = .ok (.getfield 12, 3) := by decide +kernel
theorem dX5_fewestByHalves_8 : decode cX5_fewestByHalves 8 = .ok (.invokevirtual 120, 3) := by decide +kernel
theorem dX5_fewestByHalves_11 : decode cX5_fewestByHalves 11 = .ok (.aload_n 0, 1) := by decide +kernel
theorem dX5_fewestByHalves_12 : decode cX5_fewestByHalves 12 = .ok (.getfield 32, 3) := by decide +kernel
theorem dX5_fewestByHalves_15 : decode cX5_fewestByHalves 15 = .ok (.getfield 381, 3) := by decide +kernel
theorem dX5_fewestByHalves_18 : decode cX5_fewestByHalves 18 = .ok (.ireturn, 1) := by decide +kernel
theorem dX5_fewestByAll_0 : decode cX5_fewestByAll 0 = .ok (.aload_n 0, 1) := by decide +kernel
theorem dX5_fewestByAll_1 : decode cX5_fewestByAll 1 = .ok (.getfield 12, 3) := by decide +kernel
theorem dX5_fewestByAll_4 : decode cX5_fewestByAll 4 = .ok (.aload_n 0, 1) := by decide +kernel
theorem dX5_fewestByAll_5 : decode cX5_fewestByAll 5 = .ok (.getfield 12, 3) := by decide +kernel
theorem dX5_fewestByAll_8 : decode cX5_fewestByAll 8 = .ok (.getfield 83, 3) := by decide +kernel
theorem dX5_fewestByAll_11 : decode cX5_fewestByAll 11 = .ok (.iconst 0, 1) := by decide +kernel
theorem dX5_fewestByAll_12 : decode cX5_fewestByAll 12 = .ok (.invokestatic 384, 3) := by decide +kernel
theorem dX5_fewestByAll_15 : decode cX5_fewestByAll 15 = .ok (.ireturn, 1) := by decide +kernel
theorem dX5_fewestFrom_0 : decode cX5_fewestFrom 0 = .ok (.aload_n 0, 1) := by decide +kernel
theorem dX5_fewestFrom_1 : decode cX5_fewestFrom 1 = .ok (.lload_n 1, 1) := by decide +kernel
theorem dX5_fewestFrom_2 : decode cX5_fewestFrom 2 = .ok (.invokevirtual 388, 3) := by decide +kernel
theorem dX5_fewestFrom_5 : decode cX5_fewestFrom 5 = .ok (.ifCond .eq 5, 3) := by decide +kernel
theorem dX5_fewestFrom_8 : decode cX5_fewestFrom 8 = .ok (.iload_n 3, 1) := by decide +kernel
theorem dX5_fewestFrom_9 : decode cX5_fewestFrom 9 = .ok (.ireturn, 1) := by decide +kernel
theorem dX5_fewestFrom_10 : decode cX5_fewestFrom 10 = .ok (.iconst 4, 1) := by decide +kernel
theorem dX5_fewestFrom_11 : decode cX5_fewestFrom 11 = .ok (.istore 4, 2) := by decide +kernel
theorem dX5_fewestFrom_13 : decode cX5_fewestFrom 13 = .ok (.iload_n 3, 1) := by decide +kernel
theorem dX5_fewestFrom_14 : decode cX5_fewestFrom 14 = .ok (.iconst 3, 1) := by decide +kernel
theorem dX5_fewestFrom_15 : decode cX5_fewestFrom 15 = .ok (.if_icmp .lt 6, 3) := by decide +kernel
theorem dX5_fewestFrom_18 : decode cX5_fewestFrom 18 = .ok (.iload 4, 2) := by decide +kernel
theorem dX5_fewestFrom_20 : decode cX5_fewestFrom 20 = .ok (.ireturn, 1) := by decide +kernel
theorem dX5_fewestFrom_21 : decode cX5_fewestFrom 21 = .ok (.iconst 0, 1) := by decide +kernel
theorem dX5_fewestFrom_22 : decode cX5_fewestFrom 22 = .ok (.istore 5, 2) := by decide +kernel
theorem dX5_fewestFrom_24 : decode cX5_fewestFrom 24 = .ok (.iload 5, 2) := by decide +kernel
theorem dX5_fewestFrom_26 : decode cX5_fewestFrom 26 = .ok (.aload_n 0, 1) := by decide +kernel
theorem dX5_fewestFrom_27 : decode cX5_fewestFrom 27 = .ok (.invokevirtual 159, 3) := by decide +kernel
theorem dX5_fewestFrom_30 : decode cX5_fewestFrom 30 = .ok (.if_icmp .ge 39, 3) := by decide +kernel
theorem dX5_fewestFrom_33 : decode cX5_fewestFrom 33 = .ok (.aload_n 0, 1) := by decide +kernel
theorem dX5_fewestFrom_34 : decode cX5_fewestFrom 34 = .ok (.iload 5, 2) := by decide +kernel
theorem dX5_fewestFrom_36 : decode cX5_fewestFrom 36 = .ok (.invokevirtual 353, 3) := by decide +kernel
theorem dX5_fewestFrom_39 : decode cX5_fewestFrom 39 = .ok (.ifCond .eq 24, 3) := by decide +kernel
theorem dX5_fewestFrom_42 : decode cX5_fewestFrom 42 = .ok (.iload 4, 2) := by decide +kernel
theorem dX5_fewestFrom_44 : decode cX5_fewestFrom 44 = .ok (.aload_n 0, 1) := by decide +kernel
theorem dX5_fewestFrom_45 : decode cX5_fewestFrom 45 = .ok (.aload_n 0, 1) := by decide +kernel
theorem dX5_fewestFrom_46 : decode cX5_fewestFrom 46 = .ok (.lload_n 1, 1) := by decide +kernel
theorem dX5_fewestFrom_47 : decode cX5_fewestFrom 47 = .ok (.iload 5, 2) := by decide +kernel
theorem dX5_fewestFrom_49 : decode cX5_fewestFrom 49 = .ok (.invokevirtual 206, 3) := by decide +kernel
theorem dX5_fewestFrom_52 : decode cX5_fewestFrom 52 = .ok (.iload_n 3, 1) := by decide +kernel
theorem dX5_fewestFrom_53 : decode cX5_fewestFrom 53 = .ok (.iconst 1, 1) := by decide +kernel
theorem dX5_fewestFrom_54 : decode cX5_fewestFrom 54 = .ok (.iadd, 1) := by decide +kernel
theorem dX5_fewestFrom_55 : decode cX5_fewestFrom 55 = .ok (.invokestatic 384, 3) := by decide +kernel
theorem dX5_fewestFrom_58 : decode cX5_fewestFrom 58 = .ok (.invokestatic 391, 3) := by decide +kernel
theorem dX5_fewestFrom_61 : decode cX5_fewestFrom 61 = .ok (.istore 4, 2) := by decide +kernel
theorem dX5_fewestFrom_63 : decode cX5_fewestFrom 63 = .ok (.iinc 5 1, 3) := by decide +kernel
theorem dX5_fewestFrom_66 : decode cX5_fewestFrom 66 = .ok (.goto (-42), 3) := by decide +kernel
theorem dX5_fewestFrom_69 : decode cX5_fewestFrom 69 = .ok (.iload 4, 2) := by decide +kernel
theorem dX5_fewestFrom_71 : decode cX5_fewestFrom 71 = .ok (.ireturn, 1) := by decide +kernel
theorem dX5_writeAll_0 : decode cX5_writeAll 0 = .ok (.aload_n 0, 1) := by decide +kernel
theorem dX5_writeAll_1 : decode cX5_writeAll 1 = .ok (.getfield 39, 3) := by decide +kernel
theorem dX5_writeAll_4 : decode cX5_writeAll 4 = .ok (.invokevirtual 240, 3) := by decide +kernel
theorem dX5_writeAll_7 : decode cX5_writeAll 7 = .ok (.iconst 0, 1) := by decide +kernel
theorem dX5_writeAll_8 : decode cX5_writeAll 8 = .ok (.istore_n 3, 1) := by decide +kernel
theorem dX5_writeAll_9 : decode cX5_writeAll 9 = .ok (.iload_n 3, 1) := by decide +kernel
theorem dX5_writeAll_10 : decode cX5_writeAll 10 = .ok (.aload_n 0, 1) := by decide +kernel
theorem dX5_writeAll_11 : decode cX5_writeAll 11 = .ok (.getfield 12, 3) := by decide +kernel
theorem dX5_writeAll_14 : decode cX5_writeAll 14 = .ok (.invokevirtual 79, 3) := by decide +kernel
theorem dX5_writeAll_17 : decode cX5_writeAll 17 = .ok (.if_icmp .ge 48, 3) := by decide +kernel
theorem dX5_writeAll_20 : decode cX5_writeAll 20 = .ok (.iload_n 3, 1) := by decide +kernel
theorem dX5_writeAll_21 : decode cX5_writeAll 21 = .ok (.ifCond .le 23, 3) := by decide +kernel
theorem dX5_writeAll_24 : decode cX5_writeAll 24 = .ok (.aload_n 0, 1) := by decide +kernel
theorem dX5_writeAll_25 : decode cX5_writeAll 25 = .ok (.getfield 12, 3) := by decide +kernel
theorem dX5_writeAll_28 : decode cX5_writeAll 28 = .ok (.iload_n 3, 1) := by decide +kernel
theorem dX5_writeAll_29 : decode cX5_writeAll 29 = .ok (.invokevirtual 396, 3) := by decide +kernel
theorem dX5_writeAll_32 : decode cX5_writeAll 32 = .ok (.ifCond .ne 12, 3) := by decide +kernel
theorem dX5_writeAll_35 : decode cX5_writeAll 35 = .ok (.aload_n 0, 1) := by decide +kernel
theorem dX5_writeAll_36 : decode cX5_writeAll 36 = .ok (.getfield 39, 3) := by decide +kernel
theorem dX5_writeAll_39 : decode cX5_writeAll 39 = .ok (.bipush 47, 2) := by decide +kernel
theorem dX5_writeAll_41 : decode cX5_writeAll 41 = .ok (.invokevirtual 243, 3) := by decide +kernel
theorem dX5_writeAll_44 : decode cX5_writeAll 44 = .ok (.aload_n 0, 1) := by decide +kernel
theorem dX5_writeAll_45 : decode cX5_writeAll 45 = .ok (.getfield 39, 3) := by decide +kernel
theorem dX5_writeAll_48 : decode cX5_writeAll 48 = .ok (.lload_n 1, 1) := by decide +kernel
theorem dX5_writeAll_49 : decode cX5_writeAll 49 = .ok (.iload_n 3, 1) := by decide +kernel
theorem dX5_writeAll_50 : decode cX5_writeAll 50 = .ok (.invokestatic 91, 3) := by decide +kernel
theorem dX5_writeAll_53 : decode cX5_writeAll 53 = .ok (.invokestatic 95, 3) := by decide +kernel
theorem dX5_writeAll_56 : decode cX5_writeAll 56 = .ok (.invokevirtual 243, 3) := by decide +kernel
theorem dX5_writeAll_59 : decode cX5_writeAll 59 = .ok (.iinc 3 1, 3) := by decide +kernel
theorem dX5_writeAll_62 : decode cX5_writeAll 62 = .ok (.goto (-53), 3) := by decide +kernel
theorem dX5_writeAll_65 : decode cX5_writeAll 65 = .ok (.aload_n 0, 1) := by decide +kernel
theorem dX5_writeAll_66 : decode cX5_writeAll 66 = .ok (.getfield 39, 3) := by decide +kernel
theorem dX5_writeAll_69 : decode cX5_writeAll 69 = .ok (.getfield 253, 3) := by decide +kernel
theorem dX5_writeAll_72 : decode cX5_writeAll 72 = .ok (.ireturn, 1) := by decide +kernel
theorem dX5_isSide_0 : decode cX5_isSide 0 = .ok (.iload_n 0, 1) := by decide +kernel
theorem dX5_isSide_1 : decode cX5_isSide 1 = .ok (.iconst 2, 1) := by decide +kernel
theorem dX5_isSide_2 : decode cX5_isSide 2 = .ok (.if_icmp .lt 12, 3) := by decide +kernel
theorem dX5_isSide_5 : decode cX5_isSide 5 = .ok (.iload_n 0, 1) := by decide +kernel
theorem dX5_isSide_6 : decode cX5_isSide 6 = .ok (.iconst 3, 1) := by decide +kernel
theorem dX5_isSide_7 : decode cX5_isSide 7 = .ok (.if_icmp .gt 7, 3) := by decide +kernel
theorem dX5_isSide_10 : decode cX5_isSide 10 = .ok (.iconst 1, 1) := by decide +kernel
theorem dX5_isSide_11 : decode cX5_isSide 11 = .ok (.goto 4, 3) := by decide +kernel
theorem dX5_isSide_14 : decode cX5_isSide 14 = .ok (.iconst 0, 1) := by decide +kernel
theorem dX5_isSide_15 : decode cX5_isSide 15 = .ok (.ireturn, 1) := by decide +kernel
theorem dX5_codeOf_0 : decode cX5_codeOf 0 = .ok (.iload_n 0, 1) := by decide +kernel
theorem dX5_codeOf_1 : decode cX5_codeOf 1 = .ok (.bipush 46, 2) := by decide +kernel
theorem dX5_codeOf_3 : decode cX5_codeOf 3 = .ok (.if_icmp .ne 6, 3) := by decide +kernel
theorem dX5_codeOf_6 : decode cX5_codeOf 6 = .ok (.bipush 12, 2) := by decide +kernel
theorem dX5_codeOf_8 : decode cX5_codeOf 8 = .ok (.ireturn, 1) := by decide +kernel
theorem dX5_codeOf_9 : decode cX5_codeOf 9 = .ok (.iload_n 0, 1) := by decide +kernel
theorem dX5_codeOf_10 : decode cX5_codeOf 10 = .ok (.bipush 97, 2) := by decide +kernel
theorem dX5_codeOf_12 : decode cX5_codeOf 12 = .ok (.if_icmp .lt 16, 3) := by decide +kernel
theorem dX5_codeOf_15 : decode cX5_codeOf 15 = .ok (.iload_n 0, 1) := by decide +kernel
theorem dX5_codeOf_16 : decode cX5_codeOf 16 = .ok (.bipush 108, 2) := by decide +kernel
theorem dX5_codeOf_18 : decode cX5_codeOf 18 = .ok (.if_icmp .gt 10, 3) := by decide +kernel
theorem dX5_codeOf_21 : decode cX5_codeOf 21 = .ok (.iload_n 0, 1) := by decide +kernel
theorem dX5_codeOf_22 : decode cX5_codeOf 22 = .ok (.bipush 97, 2) := by decide +kernel
theorem dX5_codeOf_24 : decode cX5_codeOf 24 = .ok (.isub, 1) := by decide +kernel
theorem dX5_codeOf_25 : decode cX5_codeOf 25 = .ok (.goto 4, 3) := by decide +kernel
theorem dX5_codeOf_28 : decode cX5_codeOf 28 = .ok (.iconst (-1), 1) := by decide +kernel
theorem dX5_codeOf_29 : decode cX5_codeOf 29 = .ok (.ireturn, 1) := by decide +kernel
theorem dX5_signOf_0 : decode cX5_signOf 0 = .ok (.iload_n 0, 1) := by decide +kernel
theorem dX5_signOf_1 : decode cX5_signOf 1 = .ok (.bipush 12, 2) := by decide +kernel
theorem dX5_signOf_3 : decode cX5_signOf 3 = .ok (.if_icmp .ne 8, 3) := by decide +kernel
theorem dX5_signOf_6 : decode cX5_signOf 6 = .ok (.bipush 46, 2) := by decide +kernel
theorem dX5_signOf_8 : decode cX5_signOf 8 = .ok (.goto 8, 3) := by decide +kernel
theorem dX5_signOf_11 : decode cX5_signOf 11 = .ok (.bipush 97, 2) := by decide +kernel
theorem dX5_signOf_13 : decode cX5_signOf 13 = .ok (.iload_n 0, 1) := by decide +kernel
theorem dX5_signOf_14 : decode cX5_signOf 14 = .ok (.iadd, 1) := by decide +kernel
theorem dX5_signOf_15 : decode cX5_signOf 15 = .ok (.i2c, 1) := by decide +kernel
theorem dX5_signOf_16 : decode cX5_signOf 16 = .ok (.ireturn, 1) := by decide +kernel
theorem dX5_isVowel_0 : decode cX5_isVowel 0 = .ok (.iload_n 0, 1) := by decide +kernel
theorem dX5_isVowel_1 : decode cX5_isVowel 1 = .ok (.bipush 97, 2) := by decide +kernel
theorem dX5_isVowel_3 : decode cX5_isVowel 3 = .ok (.if_icmp .eq 27, 3) := by decide +kernel
theorem dX5_isVowel_6 : decode cX5_isVowel 6 = .ok (.iload_n 0, 1) := by decide +kernel
theorem dX5_isVowel_7 : decode cX5_isVowel 7 = .ok (.bipush 101, 2) := by decide +kernel
theorem dX5_isVowel_9 : decode cX5_isVowel 9 = .ok (.if_icmp .eq 21, 3) := by decide +kernel
theorem dX5_isVowel_12 : decode cX5_isVowel 12 = .ok (.iload_n 0, 1) := by decide +kernel
theorem dX5_isVowel_13 : decode cX5_isVowel 13 = .ok (.bipush 105, 2) := by decide +kernel
theorem dX5_isVowel_15 : decode cX5_isVowel 15 = .ok (.if_icmp .eq 15, 3) := by decide +kernel
theorem dX5_isVowel_18 : decode cX5_isVowel 18 = .ok (.iload_n 0, 1) := by decide +kernel
theorem dX5_isVowel_19 : decode cX5_isVowel 19 = .ok (.bipush 111, 2) := by decide +kernel
theorem dX5_isVowel_21 : decode cX5_isVowel 21 = .ok (.if_icmp .eq 9, 3) := by decide +kernel
theorem dX5_isVowel_24 : decode cX5_isVowel 24 = .ok (.iload_n 0, 1) := by decide +kernel
theorem dX5_isVowel_25 : decode cX5_isVowel 25 = .ok (.bipush 117, 2) := by decide +kernel
theorem dX5_isVowel_27 : decode cX5_isVowel 27 = .ok (.if_icmp .ne 7, 3) := by decide +kernel
theorem dX5_isVowel_30 : decode cX5_isVowel 30 = .ok (.iconst 1, 1) := by decide +kernel
theorem dX5_isVowel_31 : decode cX5_isVowel 31 = .ok (.goto 4, 3) := by decide +kernel
theorem dX5_isVowel_34 : decode cX5_isVowel 34 = .ok (.iconst 0, 1) := by decide +kernel
theorem dX5_isVowel_35 : decode cX5_isVowel 35 = .ok (.ireturn, 1) := by decide +kernel
theorem dX5_codeAt_0 : decode cX5_codeAt 0 = .ok (.lload_n 0, 1) := by decide +kernel
theorem dX5_codeAt_1 : decode cX5_codeAt 1 = .ok (.iconst 4, 1) := by decide +kernel
theorem dX5_codeAt_2 : decode cX5_codeAt 2 = .ok (.iload_n 2, 1) := by decide +kernel
theorem dX5_codeAt_3 : decode cX5_codeAt 3 = .ok (.imul, 1) := by decide +kernel
theorem dX5_codeAt_4 : decode cX5_codeAt 4 = .ok (.lushr, 1) := by decide +kernel
theorem dX5_codeAt_5 : decode cX5_codeAt 5 = .ok (.ldc2_w 399, 3) := by decide +kernel
theorem dX5_codeAt_8 : decode cX5_codeAt 8 = .ok (.land, 1) := by decide +kernel
theorem dX5_codeAt_9 : decode cX5_codeAt 9 = .ok (.l2i, 1) := by decide +kernel
theorem dX5_codeAt_10 : decode cX5_codeAt 10 = .ok (.ireturn, 1) := by decide +kernel
theorem dX5_withCode_0 : decode cX5_withCode 0 = .ok (.lload_n 0, 1) := by decide +kernel
theorem dX5_withCode_1 : decode cX5_withCode 1 = .ok (.ldc2_w 399, 3) := by decide +kernel
theorem dX5_withCode_4 : decode cX5_withCode 4 = .ok (.iconst 4, 1) := by decide +kernel
theorem dX5_withCode_5 : decode cX5_withCode 5 = .ok (.iload_n 2, 1) := by decide +kernel
theorem dX5_withCode_6 : decode cX5_withCode 6 = .ok (.imul, 1) := by decide +kernel
theorem dX5_withCode_7 : decode cX5_withCode 7 = .ok (.lshl, 1) := by decide +kernel
theorem dX5_withCode_8 : decode cX5_withCode 8 = .ok (.ldc2_w 401, 3) := by decide +kernel
theorem dX5_withCode_11 : decode cX5_withCode 11 = .ok (.lxor, 1) := by decide +kernel
theorem dX5_withCode_12 : decode cX5_withCode 12 = .ok (.land, 1) := by decide +kernel
theorem dX5_withCode_13 : decode cX5_withCode 13 = .ok (.lstore 4, 2) := by decide +kernel
theorem dX5_withCode_15 : decode cX5_withCode 15 = .ok (.lload 4, 2) := by decide +kernel
theorem dX5_withCode_17 : decode cX5_withCode 17 = .ok (.iload_n 3, 1) := by decide +kernel
theorem dX5_withCode_18 : decode cX5_withCode 18 = .ok (.i2l, 1) := by decide +kernel
theorem dX5_withCode_19 : decode cX5_withCode 19 = .ok (.iconst 4, 1) := by decide +kernel
theorem dX5_withCode_20 : decode cX5_withCode 20 = .ok (.iload_n 2, 1) := by decide +kernel
theorem dX5_withCode_21 : decode cX5_withCode 21 = .ok (.imul, 1) := by decide +kernel
theorem dX5_withCode_22 : decode cX5_withCode 22 = .ok (.lshl, 1) := by decide +kernel
theorem dX5_withCode_23 : decode cX5_withCode 23 = .ok (.lor, 1) := by decide +kernel
theorem dX5_withCode_24 : decode cX5_withCode 24 = .ok (.lreturn, 1) := by decide +kernel
end
section
theorem dX6_init_0 : decode cX6_init 0 = .ok (.aload_n 0, 1) := by decide +kernel
theorem dX6_init_1 : decode cX6_init 1 = .ok (.invokespecial 1, 3) := by decide +kernel
theorem dX6_init_4 : decode cX6_init 4 = .ok (.aload_n 0, 1) := by decide +kernel
theorem dX6_init_5 : decode cX6_init 5 = .ok (.bipush 32, 2) := by decide +kernel
theorem dX6_init_7 : decode cX6_init 7 = .ok (.newarray .int, 2) := by decide +kernel
theorem dX6_init_9 : decode cX6_init 9 = .ok (.putfield 7, 3) := by decide +kernel
theorem dX6_init_12 : decode cX6_init 12 = .ok (.aload_n 0, 1) := by decide +kernel
theorem dX6_init_13 : decode cX6_init 13 = .ok (.bipush 32, 2) := by decide +kernel
theorem dX6_init_15 : decode cX6_init 15 = .ok (.newarray .int, 2) := by decide +kernel
theorem dX6_init_17 : decode cX6_init 17 = .ok (.putfield 13, 3) := by decide +kernel
theorem dX6_init_20 : decode cX6_init 20 = .ok (.aload_n 0, 1) := by decide +kernel
theorem dX6_init_21 : decode cX6_init 21 = .ok (.sipush 256, 3) := by decide +kernel
theorem dX6_init_24 : decode cX6_init 24 = .ok (.newarray .int, 2) := by decide +kernel
theorem dX6_init_26 : decode cX6_init 26 = .ok (.putfield 16, 3) := by decide +kernel
theorem dX6_init_29 : decode cX6_init 29 = .ok (.aload_n 0, 1) := by decide +kernel
theorem dX6_init_30 : decode cX6_init 30 = .ok (.bipush 32, 2) := by decide +kernel
theorem dX6_init_32 : decode cX6_init 32 = .ok (.newarray .int, 2) := by decide +kernel
theorem dX6_init_34 : decode cX6_init 34 = .ok (.putfield 19, 3) := by decide +kernel
theorem dX6_init_37 : decode cX6_init 37 = .ok (.aload_n 0, 1) := by decide +kernel
theorem dX6_init_38 : decode cX6_init 38 = .ok (.bipush 60, 2) := by decide +kernel
theorem dX6_init_40 : decode cX6_init 40 = .ok (.newarray .char, 2) := by decide +kernel
theorem dX6_init_42 : decode cX6_init 42 = .ok (.putfield 22, 3) := by decide +kernel
theorem dX6_init_45 : decode cX6_init 45 = .ok (.aload_n 0, 1) := by decide +kernel
theorem dX6_init_46 : decode cX6_init 46 = .ok (.iconst (-1), 1) := by decide +kernel
theorem dX6_init_47 : decode cX6_init 47 = .ok (.putfield 26, 3) := by decide +kernel
theorem dX6_init_50 : decode cX6_init 50 = .ok (.aload_n 0, 1) := by decide +kernel
theorem dX6_init_51 : decode cX6_init 51 = .ok (.bipush 20, 2) := by decide +kernel
theorem dX6_init_53 : decode cX6_init 53 = .ok (.newarray .char, 2) := by decide +kernel
theorem dX6_init_55 : decode cX6_init 55 = .ok (.putfield 30, 3) := by decide +kernel
theorem dX6_init_58 : decode cX6_init 58 = .ok (.aload_n 0, 1) := by decide +kernel
theorem dX6_init_59 : decode cX6_init 59 = .ok (.bipush 9, 2) := by decide +kernel
theorem dX6_init_61 : decode cX6_init 61 = .ok (.newarray .int, 2) := by decide +kernel
theorem dX6_init_63 : decode cX6_init 63 = .ok (.putfield 33, 3) := by decide +kernel
theorem dX6_init_66 : decode cX6_init 66 = .ok (.aload_n 0, 1) := by decide +kernel
theorem dX6_init_67 : decode cX6_init 67 = .ok (.bipush 9, 2) := by decide +kernel
theorem dX6_init_69 : decode cX6_init 69 = .ok (.newarray .int, 2) := by decide +kernel
theorem dX6_init_71 : decode cX6_init 71 = .ok (.putfield 36, 3) := by decide +kernel
theorem dX6_init_74 : decode cX6_init 74 = .ok (.aload_n 0, 1) := by decide +kernel
theorem dX6_init_75 : decode cX6_init 75 = .ok (.sipush 180, 3) := by decide +kernel
theorem dX6_init_78 : decode cX6_init 78 = .ok (.newarray .int, 2) := by decide +kernel
theorem dX6_init_80 : decode cX6_init 80 = .ok (.putfield 39, 3) := by decide +kernel
theorem dX6_init_83 : decode cX6_init 83 = .ok (.aload_n 0, 1) := by decide +kernel
theorem dX6_init_84 : decode cX6_init 84 = .ok (.iconst 3, 1) := by decide +kernel
theorem dX6_init_85 : decode cX6_init 85 = .ok (.iconst 3, 1) := by decide +kernel
theorem dX6_init_86 : decode cX6_init 86 = .ok (.invokevirtual 42, 3) := by decide +kernel
theorem dX6_init_89 : decode cX6_init 89 = .ok (.return_, 1) := by decide +kernel
theorem dX6_thrown_0 : decode cX6_thrown 0 = .ok (.aload_n 0, 1) := by decide +kernel
theorem dX6_thrown_1 : decode cX6_thrown 1 = .ok (.getfield 46, 3) := by decide +kernel
theorem dX6_thrown_4 : decode cX6_thrown 4 = .ok (.ireturn, 1) := by decide +kernel
theorem dX6_in_0 : decode cX6_in 0 = .ok (.iload_n 0, 1) := by decide +kernel
theorem dX6_in_1 : decode cX6_in 1 = .ok (.iload_n 1, 1) := by decide +kernel
theorem dX6_in_2 : decode cX6_in 2 = .ok (.if_icmp .lt 12, 3) := by decide +kernel
theorem dX6_in_5 : decode cX6_in 5 = .ok (.iload_n 0, 1) := by decide +kernel
theorem dX6_in_6 : decode cX6_in 6 = .ok (.iload_n 2, 1) := by decide +kernel
theorem dX6_in_7 : decode cX6_in 7 = .ok (.if_icmp .gt 7, 3) := by decide +kernel
theorem dX6_in_10 : decode cX6_in 10 = .ok (.iconst 1, 1) := by decide +kernel
theorem dX6_in_11 : decode cX6_in 11 = .ok (.goto 4, 3) := by decide +kernel
theorem dX6_in_14 : decode cX6_in 14 = .ok (.iconst 0, 1) := by decide +kernel
theorem dX6_in_15 : decode cX6_in 15 = .ok (.ireturn, 1) := by decide +kernel
theorem dX6_done_0 : decode cX6_done 0 = .ok (.aload_n 0, 1) := by decide +kernel
theorem dX6_done_1 : decode cX6_done 1 = .ok (.iconst 0, 1) := by decide +kernel
theorem dX6_done_2 : decode cX6_done 2 = .ok (.putfield 46, 3) := by decide +kernel
theorem dX6_done_5 : decode cX6_done 5 = .ok (.iload_n 1, 1) := by decide +kernel
theorem dX6_done_6 : decode cX6_done 6 = .ok (.ireturn, 1) := by decide +kernel
theorem dX6_fails_0 : decode cX6_fails 0 = .ok (.aload_n 0, 1) := by decide +kernel
theorem dX6_fails_1 : decode cX6_fails 1 = .ok (.iload_n 1, 1) := by decide +kernel
theorem dX6_fails_2 : decode cX6_fails 2 = .ok (.putfield 46, 3) := by decide +kernel
theorem dX6_fails_5 : decode cX6_fails 5 = .ok (.aload_n 0, 1) := by decide +kernel
theorem dX6_fails_6 : decode cX6_fails 6 = .ok (.iconst 0, 1) := by decide +kernel
theorem dX6_fails_7 : decode cX6_fails 7 = .ok (.putfield 49, 3) := by decide +kernel
theorem dX6_fails_10 : decode cX6_fails 10 = .ok (.iconst 0, 1) := by decide +kernel
theorem dX6_fails_11 : decode cX6_fails 11 = .ok (.ireturn, 1) := by decide +kernel
theorem dX6_refused_0 : decode cX6_refused 0 = .ok (.aload_n 0, 1) := by decide +kernel
theorem dX6_refused_1 : decode cX6_refused 1 = .ok (.iload_n 1, 1) := by decide +kernel
theorem dX6_refused_2 : decode cX6_refused 2 = .ok (.putfield 53, 3) := by decide +kernel
theorem dX6_refused_5 : decode cX6_refused 5 = .ok (.aload_n 0, 1) := by decide +kernel
theorem dX6_refused_6 : decode cX6_refused 6 = .ok (.iload_n 2, 1) := by decide +kernel
theorem dX6_refused_7 : decode cX6_refused 7 = .ok (.putfield 56, 3) := by decide +kernel
theorem dX6_refused_10 : decode cX6_refused 10 = .ok (.aload_n 0, 1) := by decide +kernel
theorem dX6_refused_11 : decode cX6_refused 11 = .ok (.iload_n 3, 1) := by decide +kernel
theorem dX6_refused_12 : decode cX6_refused 12 = .ok (.putfield 46, 3) := by decide +kernel
theorem dX6_refused_15 : decode cX6_refused 15 = .ok (.aload_n 0, 1) := by decide +kernel
theorem dX6_refused_16 : decode cX6_refused 16 = .ok (.iconst 1, 1) := by decide +kernel
theorem dX6_refused_17 : decode cX6_refused 17 = .ok (.putfield 49, 3) := by decide +kernel
theorem dX6_refused_20 : decode cX6_refused 20 = .ok (.iconst 0, 1) := by decide +kernel
theorem dX6_refused_21 : decode cX6_refused 21 = .ok (.ireturn, 1) := by decide +kernel
theorem dX6_copy_0 : decode cX6_copy 0 = .ok (.iconst 0, 1) := by decide +kernel
theorem dX6_copy_1 : decode cX6_copy 1 = .ok (.istore 4, 2) := by decide +kernel
theorem dX6_copy_3 : decode cX6_copy 3 = .ok (.iload 4, 2) := by decide +kernel
theorem dX6_copy_5 : decode cX6_copy 5 = .ok (.bipush 32, 2) := by decide +kernel
theorem dX6_copy_7 : decode cX6_copy 7 = .ok (.if_icmp .ge 21, 3) := by decide +kernel
theorem dX6_copy_10 : decode cX6_copy 10 = .ok (.aload_n 2, 1) := by decide +kernel
theorem dX6_copy_11 : decode cX6_copy 11 = .ok (.iload_n 3, 1) := by decide +kernel
theorem dX6_copy_12 : decode cX6_copy 12 = .ok (.iload 4, 2) := by decide +kernel
theorem dX6_copy_14 : decode cX6_copy 14 = .ok (.iadd, 1) := by decide +kernel
theorem dX6_copy_15 : decode cX6_copy 15 = .ok (.aload_n 0, 1) := by decide +kernel
theorem dX6_copy_16 : decode cX6_copy 16 = .ok (.iload_n 1, 1) := by decide +kernel
theorem dX6_copy_17 : decode cX6_copy 17 = .ok (.iload 4, 2) := by decide +kernel
theorem dX6_copy_19 : decode cX6_copy 19 = .ok (.iadd, 1) := by decide +kernel
theorem dX6_copy_20 : decode cX6_copy 20 = .ok (.iaload, 1) := by decide +kernel
theorem dX6_copy_21 : decode cX6_copy 21 = .ok (.iastore, 1) := by decide +kernel
theorem dX6_copy_22 : decode cX6_copy 22 = .ok (.iinc 4 1, 3) := by decide +kernel
theorem dX6_copy_25 : decode cX6_copy 25 = .ok (.goto (-22), 3) := by decide +kernel
theorem dX6_copy_28 : decode cX6_copy 28 = .ok (.return_, 1) := by decide +kernel
theorem dX6_looksBack_0 : decode cX6_looksBack 0 = .ok (.aload_n 0, 1) := by decide +kernel
theorem dX6_looksBack_1 : decode cX6_looksBack 1 = .ok (.getfield 7, 3) := by decide +kernel
theorem dX6_looksBack_4 : decode cX6_looksBack 4 = .ok (.iconst 0, 1) := by decide +kernel
theorem dX6_looksBack_5 : decode cX6_looksBack 5 = .ok (.aload_n 0, 1) := by decide +kernel
theorem dX6_looksBack_6 : decode cX6_looksBack 6 = .ok (.getfield 13, 3) := by decide +kernel
theorem dX6_looksBack_9 : decode cX6_looksBack 9 = .ok (.iconst 0, 1) := by decide +kernel
theorem dX6_looksBack_10 : decode cX6_looksBack 10 = .ok (.invokestatic 59, 3) := by decide +kernel
theorem dX6_looksBack_13 : decode cX6_looksBack 13 = .ok (.return_, 1) := by decide +kernel
theorem dX6_kept_0 : decode cX6_kept 0 = .ok (.aload_n 0, 1) := by decide +kernel
theorem dX6_kept_1 : decode cX6_kept 1 = .ok (.getfield 46, 3) := by decide +kernel
theorem dX6_kept_4 : decode cX6_kept 4 = .ok (.ifCond .eq 18, 3) := by decide +kernel
theorem dX6_kept_7 : decode cX6_kept 7 = .ok (.aload_n 0, 1) := by decide +kernel
theorem dX6_kept_8 : decode cX6_kept 8 = .ok (.getfield 13, 3) := by decide +kernel
theorem dX6_kept_11 : decode cX6_kept 11 = .ok (.iconst 0, 1) := by decide +kernel
theorem dX6_kept_12 : decode cX6_kept 12 = .ok (.aload_n 0, 1) := by decide +kernel
theorem dX6_kept_13 : decode cX6_kept 13 = .ok (.getfield 7, 3) := by decide +kernel
theorem dX6_kept_16 : decode cX6_kept 16 = .ok (.iconst 0, 1) := by decide +kernel
theorem dX6_kept_17 : decode cX6_kept 17 = .ok (.invokestatic 59, 3) := by decide +kernel
theorem dX6_kept_20 : decode cX6_kept 20 = .ok (.iconst 0, 1) := by decide +kernel
theorem dX6_kept_21 : decode cX6_kept 21 = .ok (.ireturn, 1) := by decide +kernel
theorem dX6_kept_22 : decode cX6_kept 22 = .ok (.aload_n 0, 1) := by decide +kernel
theorem dX6_kept_23 : decode cX6_kept 23 = .ok (.getfield 63, 3) := by decide +kernel
theorem dX6_kept_26 : decode cX6_kept 26 = .ok (.bipush 8, 2) := by decide +kernel
theorem dX6_kept_28 : decode cX6_kept 28 = .ok (.if_icmp .ne 43, 3) := by decide +kernel
theorem dX6_kept_31 : decode cX6_kept 31 = .ok (.iconst 0, 1) := by decide +kernel
theorem dX6_kept_32 : decode cX6_kept 32 = .ok (.istore_n 2, 1) := by decide +kernel
theorem dX6_kept_33 : decode cX6_kept 33 = .ok (.iload_n 2, 1) := by decide +kernel
theorem dX6_kept_34 : decode cX6_kept 34 = .ok (.sipush 224, 3) := by decide +kernel
theorem dX6_kept_37 : decode cX6_kept 37 = .ok (.if_icmp .ge 24, 3) := by decide +kernel
theorem dX6_kept_40 : decode cX6_kept 40 = .ok (.aload_n 0, 1) := by decide +kernel
theorem dX6_kept_41 : decode cX6_kept 41 = .ok (.getfield 16, 3) := by decide +kernel
theorem dX6_kept_44 : decode cX6_kept 44 = .ok (.iload_n 2, 1) := by decide +kernel
theorem dX6_kept_45 : decode cX6_kept 45 = .ok (.aload_n 0, 1) := by decide +kernel
theorem dX6_kept_46 : decode cX6_kept 46 = .ok (.getfield 16, 3) := by decide +kernel
theorem dX6_kept_49 : decode cX6_kept 49 = .ok (.iload_n 2, 1) := by decide +kernel
theorem dX6_kept_50 : decode cX6_kept 50 = .ok (.bipush 32, 2) := by decide +kernel
theorem dX6_kept_52 : decode cX6_kept 52 = .ok (.iadd, 1) := by decide +kernel
theorem dX6_kept_53 : decode cX6_kept 53 = .ok (.iaload, 1) := by decide +kernel
theorem dX6_kept_54 : decode cX6_kept 54 = .ok (.iastore, 1) := by decide +kernel
theorem dX6_kept_55 : decode cX6_kept 55 = .ok (.iinc 2 1, 3) := by decide +kernel
theorem dX6_kept_58 : decode cX6_kept 58 = .ok (.goto (-25), 3) := by decide +kernel
theorem dX6_kept_61 : decode cX6_kept 61 = .ok (.aload_n 0, 1) := by decide +kernel
theorem dX6_kept_62 : decode cX6_kept 62 = .ok (.dup, 1) := by decide +kernel
theorem dX6_kept_63 : decode cX6_kept 63 = .ok (.getfield 63, 3) := by decide +kernel
theorem dX6_kept_66 : decode cX6_kept 66 = .ok (.iconst 1, 1) := by decide +kernel
theorem dX6_kept_67 : decode cX6_kept 67 = .ok (.isub, 1) := by decide +kernel
theorem dX6_kept_68 : decode cX6_kept 68 = .ok (.putfield 63, 3) := by decide +kernel
theorem dX6_kept_71 : decode cX6_kept 71 = .ok (.aload_n 0, 1) := by decide +kernel
theorem dX6_kept_72 : decode cX6_kept 72 = .ok (.getfield 13, 3) := by decide +kernel
theorem dX6_kept_75 : decode cX6_kept 75 = .ok (.iconst 0, 1) := by decide +kernel
theorem dX6_kept_76 : decode cX6_kept 76 = .ok (.aload_n 0, 1) := by decide +kernel
theorem dX6_kept_77 : decode cX6_kept 77 = .ok (.getfield 16, 3) := by decide +kernel
theorem dX6_kept_80 : decode cX6_kept 80 = .ok (.aload_n 0, 1) := by decide +kernel
theorem dX6_kept_81 : decode cX6_kept 81 = .ok (.getfield 63, 3) := by decide +kernel
theorem dX6_kept_84 : decode cX6_kept 84 = .ok (.bipush 32, 2) := by decide +kernel
theorem dX6_kept_86 : decode cX6_kept 86 = .ok (.imul, 1) := by decide +kernel
theorem dX6_kept_87 : decode cX6_kept 87 = .ok (.invokestatic 59, 3) := by decide +kernel
theorem dX6_kept_90 : decode cX6_kept 90 = .ok (.aload_n 0, 1) := by decide +kernel
theorem dX6_kept_91 : decode cX6_kept 91 = .ok (.dup, 1) := by decide +kernel
theorem dX6_kept_92 : decode cX6_kept 92 = .ok (.getfield 63, 3) := by decide +kernel
theorem dX6_kept_95 : decode cX6_kept 95 = .ok (.iconst 1, 1) := by decide +kernel
theorem dX6_kept_96 : decode cX6_kept 96 = .ok (.iadd, 1) := by decide +kernel
theorem dX6_kept_97 : decode cX6_kept 97 = .ok (.putfield 63, 3) := by decide +kernel
theorem dX6_kept_100 : decode cX6_kept 100 = .ok (.iload_n 1, 1) := by decide +kernel
theorem dX6_kept_101 : decode cX6_kept 101 = .ok (.ireturn, 1) := by decide +kernel
theorem dX6_places_0 : decode cX6_places 0 = .ok (.aload_n 0, 1) := by decide +kernel
theorem dX6_places_1 : decode cX6_places 1 = .ok (.getfield 7, 3) := by decide +kernel
theorem dX6_places_4 : decode cX6_places 4 = .ok (.iconst 0, 1) := by decide +kernel
theorem dX6_places_5 : decode cX6_places 5 = .ok (.iaload, 1) := by decide +kernel
theorem dX6_places_6 : decode cX6_places 6 = .ok (.aload_n 0, 1) := by decide +kernel
theorem dX6_places_7 : decode cX6_places 7 = .ok (.getfield 7, 3) := by decide +kernel
theorem dX6_places_10 : decode cX6_places 10 = .ok (.iconst 1, 1) := by decide +kernel
theorem dX6_places_11 : decode cX6_places 11 = .ok (.iaload, 1) := by decide +kernel
theorem dX6_places_12 : decode cX6_places 12 = .ok (.imul, 1) := by decide +kernel
theorem dX6_places_13 : decode cX6_places 13 = .ok (.ireturn, 1) := by decide +kernel
theorem dX6_lines_0 : decode cX6_lines 0 = .ok (.aload_n 0, 1) := by decide +kernel
theorem dX6_lines_1 : decode cX6_lines 1 = .ok (.getfield 7, 3) := by decide +kernel
theorem dX6_lines_4 : decode cX6_lines 4 = .ok (.iconst 0, 1) := by decide +kernel
theorem dX6_lines_5 : decode cX6_lines 5 = .ok (.iaload, 1) := by decide +kernel
theorem dX6_lines_6 : decode cX6_lines 6 = .ok (.aload_n 0, 1) := by decide +kernel
theorem dX6_lines_7 : decode cX6_lines 7 = .ok (.getfield 7, 3) := by decide +kernel
theorem dX6_lines_10 : decode cX6_lines 10 = .ok (.iconst 1, 1) := by decide +kernel
theorem dX6_lines_11 : decode cX6_lines 11 = .ok (.iaload, 1) := by decide +kernel
theorem dX6_lines_12 : decode cX6_lines 12 = .ok (.iadd, 1) := by decide +kernel
theorem dX6_lines_13 : decode cX6_lines 13 = .ok (.ireturn, 1) := by decide +kernel
theorem dX6_isPlace_0 : decode cX6_isPlace 0 = .ok (.iload_n 1, 1) := by decide +kernel
theorem dX6_isPlace_1 : decode cX6_isPlace 1 = .ok (.iconst 0, 1) := by decide +kernel
theorem dX6_isPlace_2 : decode cX6_isPlace 2 = .ok (.aload_n 0, 1) := by decide +kernel
theorem dX6_isPlace_3 : decode cX6_isPlace 3 = .ok (.invokevirtual 66, 3) := by decide +kernel
theorem dX6_isPlace_6 : decode cX6_isPlace 6 = .ok (.iconst 1, 1) := by decide +kernel
theorem dX6_isPlace_7 : decode cX6_isPlace 7 = .ok (.isub, 1) := by decide +kernel
theorem dX6_isPlace_8 : decode cX6_isPlace 8 = .ok (.invokestatic 70, 3) := by decide +kernel
theorem dX6_isPlace_11 : decode cX6_isPlace 11 = .ok (.ireturn, 1) := by decide +kernel
theorem dX6_isLine_0 : decode cX6_isLine 0 = .ok (.iload_n 1, 1) := by decide +kernel
theorem dX6_isLine_1 : decode cX6_isLine 1 = .ok (.iconst 0, 1) := by decide +kernel
theorem dX6_isLine_2 : decode cX6_isLine 2 = .ok (.aload_n 0, 1) := by decide +kernel
theorem dX6_isLine_3 : decode cX6_isLine 3 = .ok (.invokevirtual 74, 3) := by decide +kernel
theorem dX6_isLine_6 : decode cX6_isLine 6 = .ok (.iconst 1, 1) := by decide +kernel
theorem dX6_isLine_7 : decode cX6_isLine 7 = .ok (.isub, 1) := by decide +kernel
theorem dX6_isLine_8 : decode cX6_isLine 8 = .ok (.invokestatic 70, 3) := by decide +kernel
theorem dX6_isLine_11 : decode cX6_isLine 11 = .ok (.ireturn, 1) := by decide +kernel
theorem dX6_isTurn_0 : decode cX6_isTurn 0 = .ok (.iload_n 1, 1) := by decide +kernel
theorem dX6_isTurn_1 : decode cX6_isTurn 1 = .ok (.iconst 0, 1) := by decide +kernel
theorem dX6_isTurn_2 : decode cX6_isTurn 2 = .ok (.iconst 2, 1) := by decide +kernel
theorem dX6_isTurn_3 : decode cX6_isTurn 3 = .ok (.aload_n 0, 1) := by decide +kernel
theorem dX6_isTurn_4 : decode cX6_isTurn 4 = .ok (.invokevirtual 74, 3) := by decide +kernel
theorem dX6_isTurn_7 : decode cX6_isTurn 7 = .ok (.imul, 1) := by decide +kernel
theorem dX6_isTurn_8 : decode cX6_isTurn 8 = .ok (.iconst 1, 1) := by decide +kernel
theorem dX6_isTurn_9 : decode cX6_isTurn 9 = .ok (.isub, 1) := by decide +kernel
theorem dX6_isTurn_10 : decode cX6_isTurn 10 = .ok (.invokestatic 70, 3) := by decide +kernel
theorem dX6_isTurn_13 : decode cX6_isTurn 13 = .ok (.ireturn, 1) := by decide +kernel
theorem dX6_lays_0 : decode cX6_lays 0 = .ok (.aload_n 0, 1) := by decide +kernel
theorem dX6_lays_1 : decode cX6_lays 1 = .ok (.getfield 7, 3) := by decide +kernel
theorem dX6_lays_4 : decode cX6_lays 4 = .ok (.iconst 0, 1) := by decide +kernel
theorem dX6_lays_5 : decode cX6_lays 5 = .ok (.iload_n 1, 1) := by decide +kernel
theorem dX6_lays_6 : decode cX6_lays 6 = .ok (.iastore, 1) := by decide +kernel
theorem dX6_lays_7 : decode cX6_lays 7 = .ok (.aload_n 0, 1) := by decide +kernel
theorem dX6_lays_8 : decode cX6_lays 8 = .ok (.getfield 7, 3) := by decide +kernel
theorem dX6_lays_11 : decode cX6_lays 11 = .ok (.iconst 1, 1) := by decide +kernel
theorem dX6_lays_12 : decode cX6_lays 12 = .ok (.iload_n 2, 1) := by decide +kernel
theorem dX6_lays_13 : decode cX6_lays 13 = .ok (.iastore, 1) := by decide +kernel
theorem dX6_lays_14 : decode cX6_lays 14 = .ok (.iconst 0, 1) := by decide +kernel
theorem dX6_lays_15 : decode cX6_lays 15 = .ok (.istore_n 3, 1) := by decide +kernel
theorem dX6_lays_16 : decode cX6_lays 16 = .ok (.iload_n 3, 1) := by decide +kernel
theorem dX6_lays_17 : decode cX6_lays 17 = .ok (.bipush 9, 2) := by decide +kernel
theorem dX6_lays_19 : decode cX6_lays 19 = .ok (.if_icmp .ge 51, 3) := by decide +kernel
theorem dX6_lays_22 : decode cX6_lays 22 = .ok (.aload_n 0, 1) := by decide +kernel
theorem dX6_lays_23 : decode cX6_lays 23 = .ok (.getfield 7, 3) := by decide +kernel
theorem dX6_lays_26 : decode cX6_lays 26 = .ok (.bipush 14, 2) := by decide +kernel
theorem dX6_lays_28 : decode cX6_lays 28 = .ok (.iload_n 3, 1) := by decide +kernel
theorem dX6_lays_29 : decode cX6_lays 29 = .ok (.iadd, 1) := by decide +kernel
theorem dX6_lays_30 : decode cX6_lays 30 = .ok (.iload_n 3, 1) := by decide +kernel
theorem dX6_lays_31 : decode cX6_lays 31 = .ok (.iload_n 1, 1) := by decide +kernel
theorem dX6_lays_32 : decode cX6_lays 32 = .ok (.iload_n 2, 1) := by decide +kernel
theorem dX6_lays_33 : decode cX6_lays 33 = .ok (.imul, 1) := by decide +kernel
theorem dX6_lays_34 : decode cX6_lays 34 = .ok (.if_icmp .ge 7, 3) := by decide +kernel
theorem dX6_lays_37 : decode cX6_lays 37 = .ok (.iload_n 3, 1) := by decide +kernel
theorem dX6_lays_38 : decode cX6_lays 38 = .ok (.goto 4, 3) := by decide +kernel
theorem dX6_lays_41 : decode cX6_lays 41 = .ok (.iconst 0, 1) := by decide +kernel
theorem dX6_lays_42 : decode cX6_lays 42 = .ok (.iastore, 1) := by decide +kernel
theorem dX6_lays_43 : decode cX6_lays 43 = .ok (.aload_n 0, 1) := by decide +kernel
theorem dX6_lays_44 : decode cX6_lays 44 = .ok (.getfield 7, 3) := by decide +kernel
theorem dX6_lays_47 : decode cX6_lays 47 = .ok (.bipush 23, 2) := by decide +kernel
theorem dX6_lays_49 : decode cX6_lays 49 = .ok (.iload_n 3, 1) := by decide +kernel
theorem dX6_lays_50 : decode cX6_lays 50 = .ok (.iadd, 1) := by decide +kernel
theorem dX6_lays_51 : decode cX6_lays 51 = .ok (.iload_n 3, 1) := by decide +kernel
theorem dX6_lays_52 : decode cX6_lays 52 = .ok (.iload_n 1, 1) := by decide +kernel
theorem dX6_lays_53 : decode cX6_lays 53 = .ok (.iload_n 2, 1) := by decide +kernel
theorem dX6_lays_54 : decode cX6_lays 54 = .ok (.imul, 1) := by decide +kernel
theorem dX6_lays_55 : decode cX6_lays 55 = .ok (.if_icmp .ge 7, 3) := by decide +kernel
theorem dX6_lays_58 : decode cX6_lays 58 = .ok (.iload_n 3, 1) := by decide +kernel
theorem dX6_lays_59 : decode cX6_lays 59 = .ok (.goto 4, 3) := by decide +kernel
theorem dX6_lays_62 : decode cX6_lays 62 = .ok (.iconst 0, 1) := by decide +kernel
theorem dX6_lays_63 : decode cX6_lays 63 = .ok (.iastore, 1) := by decide +kernel
theorem dX6_lays_64 : decode cX6_lays 64 = .ok (.iinc 3 1, 3) := by decide +kernel
theorem dX6_lays_67 : decode cX6_lays 67 = .ok (.goto (-51), 3) := by decide +kernel
theorem dX6_lays_70 : decode cX6_lays 70 = .ok (.iconst 0, 1) := by decide +kernel
theorem dX6_lays_71 : decode cX6_lays 71 = .ok (.istore_n 3, 1) := by decide +kernel
theorem dX6_lays_72 : decode cX6_lays 72 = .ok (.iload_n 3, 1) := by decide +kernel
theorem dX6_lays_73 : decode cX6_lays 73 = .ok (.bipush 6, 2) := by decide +kernel
theorem dX6_lays_75 : decode cX6_lays 75 = .ok (.if_icmp .ge 19, 3) := by decide +kernel
theorem dX6_lays_78 : decode cX6_lays 78 = .ok (.aload_n 0, 1) := by decide +kernel
theorem dX6_lays_79 : decode cX6_lays 79 = .ok (.getfield 7, 3) := by decide +kernel
theorem dX6_lays_82 : decode cX6_lays 82 = .ok (.bipush 8, 2) := by decide +kernel
theorem dX6_lays_84 : decode cX6_lays 84 = .ok (.iload_n 3, 1) := by decide +kernel
theorem dX6_lays_85 : decode cX6_lays 85 = .ok (.iadd, 1) := by decide +kernel
theorem dX6_lays_86 : decode cX6_lays 86 = .ok (.iconst 0, 1) := by decide +kernel
theorem dX6_lays_87 : decode cX6_lays 87 = .ok (.iastore, 1) := by decide +kernel
theorem dX6_lays_88 : decode cX6_lays 88 = .ok (.iinc 3 1, 3) := by decide +kernel
theorem dX6_lays_91 : decode cX6_lays 91 = .ok (.goto (-19), 3) := by decide +kernel
theorem dX6_lays_94 : decode cX6_lays 94 = .ok (.return_, 1) := by decide +kernel
theorem dX6_boards_0 : decode cX6_boards 0 = .ok (.iload_n 1, 1) := by decide +kernel
theorem dX6_boards_1 : decode cX6_boards 1 = .ok (.iconst 2, 1) := by decide +kernel
theorem dX6_boards_2 : decode cX6_boards 2 = .ok (.iconst 3, 1) := by decide +kernel
theorem dX6_boards_3 : decode cX6_boards 3 = .ok (.invokestatic 70, 3) := by decide +kernel
theorem dX6_boards_6 : decode cX6_boards 6 = .ok (.ifCond .eq 12, 3) := by decide +kernel
theorem dX6_boards_9 : decode cX6_boards 9 = .ok (.iload_n 2, 1) := by decide +kernel
theorem dX6_boards_10 : decode cX6_boards 10 = .ok (.iconst 2, 1) := by decide +kernel
theorem dX6_boards_11 : decode cX6_boards 11 = .ok (.iconst 3, 1) := by decide +kernel
theorem dX6_boards_12 : decode cX6_boards 12 = .ok (.invokestatic 70, 3) := by decide +kernel
theorem dX6_boards_15 : decode cX6_boards 15 = .ok (.ifCond .ne 9, 3) := by decide +kernel
theorem dX6_boards_18 : decode cX6_boards 18 = .ok (.aload_n 0, 1) := by decide +kernel
theorem dX6_boards_19 : decode cX6_boards 19 = .ok (.iconst 1, 1) := by decide +kernel
theorem dX6_boards_20 : decode cX6_boards 20 = .ok (.invokevirtual 77, 3) := by decide +kernel
theorem dX6_boards_23 : decode cX6_boards 23 = .ok (.ireturn, 1) := by decide +kernel
theorem dX6_boards_24 : decode cX6_boards 24 = .ok (.aload_n 0, 1) := by decide +kernel
theorem dX6_boards_25 : decode cX6_boards 25 = .ok (.iload_n 1, 1) := by decide +kernel
theorem dX6_boards_26 : decode cX6_boards 26 = .ok (.iload_n 2, 1) := by decide +kernel
theorem dX6_boards_27 : decode cX6_boards 27 = .ok (.invokevirtual 42, 3) := by decide +kernel
theorem dX6_boards_30 : decode cX6_boards 30 = .ok (.aload_n 0, 1) := by decide +kernel
theorem dX6_boards_31 : decode cX6_boards 31 = .ok (.getfield 7, 3) := by decide +kernel
theorem dX6_boards_34 : decode cX6_boards 34 = .ok (.bipush 6, 2) := by decide +kernel
theorem dX6_boards_36 : decode cX6_boards 36 = .ok (.dup2, 1) := by decide +kernel
theorem dX6_boards_37 : decode cX6_boards 37 = .ok (.iaload, 1) := by decide +kernel
theorem dX6_boards_38 : decode cX6_boards 38 = .ok (.iconst 1, 1) := by decide +kernel
theorem dX6_boards_39 : decode cX6_boards 39 = .ok (.iadd, 1) := by decide +kernel
theorem dX6_boards_40 : decode cX6_boards 40 = .ok (.iastore, 1) := by decide +kernel
theorem dX6_boards_41 : decode cX6_boards 41 = .ok (.aload_n 0, 1) := by decide +kernel
theorem dX6_boards_42 : decode cX6_boards 42 = .ok (.aload_n 0, 1) := by decide +kernel
theorem dX6_boards_43 : decode cX6_boards 43 = .ok (.invokevirtual 66, 3) := by decide +kernel
theorem dX6_boards_46 : decode cX6_boards 46 = .ok (.invokevirtual 81, 3) := by decide +kernel
theorem dX6_boards_49 : decode cX6_boards 49 = .ok (.ireturn, 1) := by decide +kernel
theorem dX6_board_0 : decode cX6_board 0 = .ok (.aload_n 0, 1) := by decide +kernel
theorem dX6_board_1 : decode cX6_board 1 = .ok (.invokevirtual 84, 3) := by decide +kernel
theorem dX6_board_4 : decode cX6_board 4 = .ok (.aload_n 0, 1) := by decide +kernel
theorem dX6_board_5 : decode cX6_board 5 = .ok (.aload_n 0, 1) := by decide +kernel
theorem dX6_board_6 : decode cX6_board 6 = .ok (.iload_n 1, 1) := by decide +kernel
theorem dX6_board_7 : decode cX6_board 7 = .ok (.iload_n 2, 1) := by decide +kernel
theorem dX6_board_8 : decode cX6_board 8 = .ok (.invokevirtual 87, 3) := by decide +kernel
theorem dX6_board_11 : decode cX6_board 11 = .ok (.invokevirtual 91, 3) := by decide +kernel
theorem dX6_board_14 : decode cX6_board 14 = .ok (.ireturn, 1) := by decide +kernel
theorem dX6_isLetter_0 : decode cX6_isLetter 0 = .ok (.iload_n 0, 1) := by decide +kernel
theorem dX6_isLetter_1 : decode cX6_isLetter 1 = .ok (.bipush 97, 2) := by decide +kernel
theorem dX6_isLetter_3 : decode cX6_isLetter 3 = .ok (.bipush 108, 2) := by decide +kernel
theorem dX6_isLetter_5 : decode cX6_isLetter 5 = .ok (.invokestatic 70, 3) := by decide +kernel
theorem dX6_isLetter_8 : decode cX6_isLetter 8 = .ok (.ireturn, 1) := by decide +kernel
theorem dX6_signOf_0 : decode cX6_signOf 0 = .ok (.iload_n 0, 1) := by decide +kernel
theorem dX6_signOf_1 : decode cX6_signOf 1 = .ok (.iconst (-1), 1) := by decide +kernel
theorem dX6_signOf_2 : decode cX6_signOf 2 = .ok (.if_icmp .ne 8, 3) := by decide +kernel
theorem dX6_signOf_5 : decode cX6_signOf 5 = .ok (.bipush 46, 2) := by decide +kernel
theorem dX6_signOf_7 : decode cX6_signOf 7 = .ok (.goto 8, 3) := by decide +kernel
theorem dX6_signOf_10 : decode cX6_signOf 10 = .ok (.bipush 97, 2) := by decide +kernel
theorem dX6_signOf_12 : decode cX6_signOf 12 = .ok (.iload_n 0, 1) := by decide +kernel
theorem dX6_signOf_13 : decode cX6_signOf 13 = .ok (.iadd, 1) := by decide +kernel
theorem dX6_signOf_14 : decode cX6_signOf 14 = .ok (.i2c, 1) := by decide +kernel
theorem dX6_signOf_15 : decode cX6_signOf 15 = .ok (.ireturn, 1) := by decide +kernel
theorem dX6_tells_0 : decode cX6_tells 0 = .ok (.aload_n 0, 1) := by decide +kernel
theorem dX6_tells_1 : decode cX6_tells 1 = .ok (.getfield 7, 3) := by decide +kernel
theorem dX6_tells_4 : decode cX6_tells 4 = .ok (.iload_n 1, 1) := by decide +kernel
theorem dX6_tells_5 : decode cX6_tells 5 = .ok (.iload_n 2, 1) := by decide +kernel
theorem dX6_tells_6 : decode cX6_tells 6 = .ok (.iadd, 1) := by decide +kernel
theorem dX6_tells_7 : decode cX6_tells 7 = .ok (.iaload, 1) := by decide +kernel
theorem dX6_tells_8 : decode cX6_tells 8 = .ok (.istore 4, 2) := by decide +kernel
theorem dX6_tells_10 : decode cX6_tells 10 = .ok (.iload 4, 2) := by decide +kernel
theorem dX6_tells_12 : decode cX6_tells 12 = .ok (.iload_n 3, 1) := by decide +kernel
theorem dX6_tells_13 : decode cX6_tells 13 = .ok (.if_icmp .ne 11, 3) := by decide +kernel
theorem dX6_tells_16 : decode cX6_tells 16 = .ok (.aload_n 0, 1) := by decide +kernel
theorem dX6_tells_17 : decode cX6_tells 17 = .ok (.iconst 2, 1) := by decide +kernel
theorem dX6_tells_18 : decode cX6_tells 18 = .ok (.iload_n 2, 1) := by decide +kernel
theorem dX6_tells_19 : decode cX6_tells 19 = .ok (.iconst 3, 1) := by decide +kernel
theorem dX6_tells_20 : decode cX6_tells 20 = .ok (.invokevirtual 94, 3) := by decide +kernel
theorem dX6_tells_23 : decode cX6_tells 23 = .ok (.ireturn, 1) := by decide +kernel
theorem dX6_tells_24 : decode cX6_tells 24 = .ok (.aload_n 0, 1) := by decide +kernel
theorem dX6_tells_25 : decode cX6_tells 25 = .ok (.getfield 7, 3) := by decide +kernel
theorem dX6_tells_28 : decode cX6_tells 28 = .ok (.iload_n 1, 1) := by decide +kernel
theorem dX6_tells_29 : decode cX6_tells 29 = .ok (.iload_n 2, 1) := by decide +kernel
theorem dX6_tells_30 : decode cX6_tells 30 = .ok (.iadd, 1) := by decide +kernel
theorem dX6_tells_31 : decode cX6_tells 31 = .ok (.iload_n 3, 1) := by decide +kernel
theorem dX6_tells_32 : decode cX6_tells 32 = .ok (.iastore, 1) := by decide +kernel
theorem dX6_tells_33 : decode cX6_tells 33 = .ok (.aload_n 0, 1) := by decide +kernel
theorem dX6_tells_34 : decode cX6_tells 34 = .ok (.iload 4, 2) := by decide +kernel
theorem dX6_tells_36 : decode cX6_tells 36 = .ok (.invokestatic 98, 3) := by decide +kernel
theorem dX6_tells_39 : decode cX6_tells 39 = .ok (.invokevirtual 81, 3) := by decide +kernel
theorem dX6_tells_42 : decode cX6_tells 42 = .ok (.ireturn, 1) := by decide +kernel
theorem dX6_puts_0 : decode cX6_puts 0 = .ok (.aload_n 0, 1) := by decide +kernel
theorem dX6_puts_1 : decode cX6_puts 1 = .ok (.iload_n 1, 1) := by decide +kernel
theorem dX6_puts_2 : decode cX6_puts 2 = .ok (.invokevirtual 102, 3) := by decide +kernel
theorem dX6_puts_5 : decode cX6_puts 5 = .ok (.ifCond .ne 9, 3) := by decide +kernel
theorem dX6_puts_8 : decode cX6_puts 8 = .ok (.aload_n 0, 1) := by decide +kernel
theorem dX6_puts_9 : decode cX6_puts 9 = .ok (.iconst 1, 1) := by decide +kernel
theorem dX6_puts_10 : decode cX6_puts 10 = .ok (.invokevirtual 77, 3) := by decide +kernel
theorem dX6_puts_13 : decode cX6_puts 13 = .ok (.ireturn, 1) := by decide +kernel
theorem dX6_puts_14 : decode cX6_puts 14 = .ok (.iload_n 2, 1) := by decide +kernel
theorem dX6_puts_15 : decode cX6_puts 15 = .ok (.invokestatic 106, 3) := by decide +kernel
theorem dX6_puts_18 : decode cX6_puts 18 = .ok (.ifCond .eq 17, 3) := by decide +kernel
theorem dX6_puts_21 : decode cX6_puts 21 = .ok (.aload_n 0, 1) := by decide +kernel
theorem dX6_puts_22 : decode cX6_puts 22 = .ok (.bipush 14, 2) := by decide +kernel
theorem dX6_puts_24 : decode cX6_puts 24 = .ok (.iload_n 1, 1) := by decide +kernel
theorem dX6_puts_25 : decode cX6_puts 25 = .ok (.iload_n 2, 1) := by decide +kernel
theorem dX6_puts_26 : decode cX6_puts 26 = .ok (.bipush 97, 2) := by decide +kernel
theorem dX6_puts_28 : decode cX6_puts 28 = .ok (.isub, 1) := by decide +kernel
theorem dX6_puts_29 : decode cX6_puts 29 = .ok (.invokevirtual 109, 3) := by decide +kernel
theorem dX6_puts_32 : decode cX6_puts 32 = .ok (.goto 8, 3) := by decide +kernel
theorem dX6_puts_35 : decode cX6_puts 35 = .ok (.aload_n 0, 1) := by decide +kernel
theorem dX6_puts_36 : decode cX6_puts 36 = .ok (.iconst 2, 1) := by decide +kernel
theorem dX6_puts_37 : decode cX6_puts 37 = .ok (.invokevirtual 77, 3) := by decide +kernel
theorem dX6_puts_40 : decode cX6_puts 40 = .ok (.ireturn, 1) := by decide +kernel
theorem dX6_put_0 : decode cX6_put 0 = .ok (.aload_n 0, 1) := by decide +kernel
theorem dX6_put_1 : decode cX6_put 1 = .ok (.invokevirtual 84, 3) := by decide +kernel
theorem dX6_put_4 : decode cX6_put 4 = .ok (.aload_n 0, 1) := by decide +kernel
theorem dX6_put_5 : decode cX6_put 5 = .ok (.aload_n 0, 1) := by decide +kernel
theorem dX6_put_6 : decode cX6_put 6 = .ok (.iload_n 1, 1) := by decide +kernel
theorem dX6_put_7 : decode cX6_put 7 = .ok (.iload_n 2, 1) := by decide +kernel
theorem dX6_put_8 : decode cX6_put 8 = .ok (.invokevirtual 112, 3) := by decide +kernel
theorem dX6_put_11 : decode cX6_put 11 = .ok (.invokevirtual 91, 3) := by decide +kernel
theorem dX6_put_14 : decode cX6_put 14 = .ok (.i2c, 1) := by decide +kernel
theorem dX6_put_15 : decode cX6_put 15 = .ok (.ireturn, 1) := by decide +kernel
theorem dX6_goals_0 : decode cX6_goals 0 = .ok (.aload_n 0, 1) := by decide +kernel
theorem dX6_goals_1 : decode cX6_goals 1 = .ok (.iload_n 1, 1) := by decide +kernel
theorem dX6_goals_2 : decode cX6_goals 2 = .ok (.invokevirtual 102, 3) := by decide +kernel
theorem dX6_goals_5 : decode cX6_goals 5 = .ok (.ifCond .ne 9, 3) := by decide +kernel
theorem dX6_goals_8 : decode cX6_goals 8 = .ok (.aload_n 0, 1) := by decide +kernel
theorem dX6_goals_9 : decode cX6_goals 9 = .ok (.iconst 1, 1) := by decide +kernel
theorem dX6_goals_10 : decode cX6_goals 10 = .ok (.invokevirtual 77, 3) := by decide +kernel
theorem dX6_goals_13 : decode cX6_goals 13 = .ok (.ireturn, 1) := by decide +kernel
theorem dX6_goals_14 : decode cX6_goals 14 = .ok (.iload_n 2, 1) := by decide +kernel
theorem dX6_goals_15 : decode cX6_goals 15 = .ok (.invokestatic 106, 3) := by decide +kernel
theorem dX6_goals_18 : decode cX6_goals 18 = .ok (.ifCond .ne 9, 3) := by decide +kernel
theorem dX6_goals_21 : decode cX6_goals 21 = .ok (.iload_n 2, 1) := by decide +kernel
theorem dX6_goals_22 : decode cX6_goals 22 = .ok (.bipush 46, 2) := by decide +kernel
theorem dX6_goals_24 : decode cX6_goals 24 = .ok (.if_icmp .ne 27, 3) := by decide +kernel
theorem dX6_goals_27 : decode cX6_goals 27 = .ok (.aload_n 0, 1) := by decide +kernel
theorem dX6_goals_28 : decode cX6_goals 28 = .ok (.bipush 23, 2) := by decide +kernel
theorem dX6_goals_30 : decode cX6_goals 30 = .ok (.iload_n 1, 1) := by decide +kernel
theorem dX6_goals_31 : decode cX6_goals 31 = .ok (.iload_n 2, 1) := by decide +kernel
theorem dX6_goals_32 : decode cX6_goals 32 = .ok (.bipush 46, 2) := by decide +kernel
theorem dX6_goals_34 : decode cX6_goals 34 = .ok (.if_icmp .ne 7, 3) := by decide +kernel
theorem dX6_goals_37 : decode cX6_goals 37 = .ok (.iconst (-1), 1) := by decide +kernel
theorem dX6_goals_38 : decode cX6_goals 38 = .ok (.goto 7, 3) := by decide +kernel
theorem dX6_goals_41 : decode cX6_goals 41 = .ok (.iload_n 2, 1) := by decide +kernel
theorem dX6_goals_42 : decode cX6_goals 42 = .ok (.bipush 97, 2) := by decide +kernel
theorem dX6_goals_44 : decode cX6_goals 44 = .ok (.isub, 1) := by decide +kernel
theorem dX6_goals_45 : decode cX6_goals 45 = .ok (.invokevirtual 109, 3) := by decide +kernel
theorem dX6_goals_48 : decode cX6_goals 48 = .ok (.goto 8, 3) := by decide +kernel
theorem dX6_goals_51 : decode cX6_goals 51 = .ok (.aload_n 0, 1) := by decide +kernel
theorem dX6_goals_52 : decode cX6_goals 52 = .ok (.iconst 2, 1) := by decide +kernel
theorem dX6_goals_53 : decode cX6_goals 53 = .ok (.invokevirtual 77, 3) := by decide +kernel
theorem dX6_goals_56 : decode cX6_goals 56 = .ok (.ireturn, 1) := by decide +kernel
theorem dX6_goal_0 : decode cX6_goal 0 = .ok (.aload_n 0, 1) := by decide +kernel
theorem dX6_goal_1 : decode cX6_goal 1 = .ok (.invokevirtual 84, 3) := by decide +kernel
theorem dX6_goal_4 : decode cX6_goal 4 = .ok (.aload_n 0, 1) := by decide +kernel
theorem dX6_goal_5 : decode cX6_goal 5 = .ok (.aload_n 0, 1) := by decide +kernel
theorem dX6_goal_6 : decode cX6_goal 6 = .ok (.iload_n 1, 1) := by decide +kernel
theorem dX6_goal_7 : decode cX6_goal 7 = .ok (.iload_n 2, 1) := by decide +kernel
theorem dX6_goal_8 : decode cX6_goal 8 = .ok (.invokevirtual 115, 3) := by decide +kernel
theorem dX6_goal_11 : decode cX6_goal 11 = .ok (.invokevirtual 91, 3) := by decide +kernel
theorem dX6_goal_14 : decode cX6_goal 14 = .ok (.i2c, 1) := by decide +kernel
theorem dX6_goal_15 : decode cX6_goal 15 = .ok (.ireturn, 1) := by decide +kernel
theorem dX6_goes_0 : decode cX6_goes 0 = .ok (.iload_n 1, 1) := by decide +kernel
theorem dX6_goes_1 : decode cX6_goes 1 = .ok (.aload_n 0, 1) := by decide +kernel
theorem dX6_goes_2 : decode cX6_goes 2 = .ok (.getfield 7, 3) := by decide +kernel
theorem dX6_goes_5 : decode cX6_goes 5 = .ok (.iconst 1, 1) := by decide +kernel
theorem dX6_goes_6 : decode cX6_goes 6 = .ok (.iaload, 1) := by decide +kernel
theorem dX6_goes_7 : decode cX6_goes 7 = .ok (.idiv, 1) := by decide +kernel
theorem dX6_goes_8 : decode cX6_goes 8 = .ok (.istore_n 3, 1) := by decide +kernel
theorem dX6_goes_9 : decode cX6_goes 9 = .ok (.iload_n 1, 1) := by decide +kernel
theorem dX6_goes_10 : decode cX6_goes 10 = .ok (.aload_n 0, 1) := by decide +kernel
theorem dX6_goes_11 : decode cX6_goes 11 = .ok (.getfield 7, 3) := by decide +kernel
theorem dX6_goes_14 : decode cX6_goes 14 = .ok (.iconst 1, 1) := by decide +kernel
theorem dX6_goes_15 : decode cX6_goes 15 = .ok (.iaload, 1) := by decide +kernel
theorem dX6_goes_16 : decode cX6_goes 16 = .ok (.irem, 1) := by decide +kernel
theorem dX6_goes_17 : decode cX6_goes 17 = .ok (.istore 4, 2) := by decide +kernel
theorem dX6_goes_19 : decode cX6_goes 19 = .ok (.iload_n 2, 1) := by decide +kernel
theorem dX6_goes_20 : decode cX6_goes 20 = .ok (.iconst 2, 1) := by decide +kernel
theorem dX6_goes_21 : decode cX6_goes 21 = .ok (.idiv, 1) := by decide +kernel
theorem dX6_goes_22 : decode cX6_goes 22 = .ok (.istore 5, 2) := by decide +kernel
theorem dX6_goes_24 : decode cX6_goes 24 = .ok (.iload_n 2, 1) := by decide +kernel
theorem dX6_goes_25 : decode cX6_goes 25 = .ok (.iconst 2, 1) := by decide +kernel
theorem dX6_goes_26 : decode cX6_goes 26 = .ok (.irem, 1) := by decide +kernel
theorem dX6_goes_27 : decode cX6_goes 27 = .ok (.ifCond .ne 7, 3) := by decide +kernel
theorem dX6_goes_30 : decode cX6_goes 30 = .ok (.iconst 1, 1) := by decide +kernel
theorem dX6_goes_31 : decode cX6_goes 31 = .ok (.goto 4, 3) := by decide +kernel
theorem dX6_goes_34 : decode cX6_goes 34 = .ok (.iconst (-1), 1) := by decide +kernel
theorem dX6_goes_35 : decode cX6_goes 35 = .ok (.istore 6, 2) := by decide +kernel
theorem dX6_goes_37 : decode cX6_goes 37 = .ok (.iload 5, 2) := by decide +kernel
theorem dX6_goes_39 : decode cX6_goes 39 = .ok (.aload_n 0, 1) := by decide +kernel
theorem dX6_goes_40 : decode cX6_goes 40 = .ok (.getfield 7, 3) := by decide +kernel
theorem dX6_goes_43 : decode cX6_goes 43 = .ok (.iconst 0, 1) := by decide +kernel
theorem dX6_goes_44 : decode cX6_goes 44 = .ok (.iaload, 1) := by decide +kernel
theorem dX6_goes_45 : decode cX6_goes 45 = .ok (.if_icmp .ge 38, 3) := by decide +kernel
theorem dX6_goes_48 : decode cX6_goes 48 = .ok (.iload_n 3, 1) := by decide +kernel
theorem dX6_goes_49 : decode cX6_goes 49 = .ok (.iload 5, 2) := by decide +kernel
theorem dX6_goes_51 : decode cX6_goes 51 = .ok (.if_icmp .ne 25, 3) := by decide +kernel
theorem dX6_goes_54 : decode cX6_goes 54 = .ok (.iload 4, 2) := by decide +kernel
theorem dX6_goes_56 : decode cX6_goes 56 = .ok (.iload 6, 2) := by decide +kernel
theorem dX6_goes_58 : decode cX6_goes 58 = .ok (.iadd, 1) := by decide +kernel
theorem dX6_goes_59 : decode cX6_goes 59 = .ok (.aload_n 0, 1) := by decide +kernel
theorem dX6_goes_60 : decode cX6_goes 60 = .ok (.getfield 7, 3) := by decide +kernel
theorem dX6_goes_63 : decode cX6_goes 63 = .ok (.iconst 1, 1) := by decide +kernel
theorem dX6_goes_64 : decode cX6_goes 64 = .ok (.iaload, 1) := by decide +kernel
theorem dX6_goes_65 : decode cX6_goes 65 = .ok (.iadd, 1) := by decide +kernel
theorem dX6_goes_66 : decode cX6_goes 66 = .ok (.aload_n 0, 1) := by decide +kernel
theorem dX6_goes_67 : decode cX6_goes 67 = .ok (.getfield 7, 3) := by decide +kernel
theorem dX6_goes_70 : decode cX6_goes 70 = .ok (.iconst 1, 1) := by decide +kernel
theorem dX6_goes_71 : decode cX6_goes 71 = .ok (.iaload, 1) := by decide +kernel
theorem dX6_goes_72 : decode cX6_goes 72 = .ok (.irem, 1) := by decide +kernel
theorem dX6_goes_73 : decode cX6_goes 73 = .ok (.goto 5, 3) := by decide +kernel
theorem dX6_goes_76 : decode cX6_goes 76 = .ok (.iload 4, 2) := by decide +kernel
theorem dX6_goes_78 : decode cX6_goes 78 = .ok (.istore 4, 2) := by decide +kernel
theorem dX6_goes_80 : decode cX6_goes 80 = .ok (.goto 40, 3) := by decide +kernel
theorem dX6_goes_83 : decode cX6_goes 83 = .ok (.iload 4, 2) := by decide +kernel
theorem dX6_goes_85 : decode cX6_goes 85 = .ok (.iload 5, 2) := by decide +kernel
theorem dX6_goes_87 : decode cX6_goes 87 = .ok (.aload_n 0, 1) := by decide +kernel
theorem dX6_goes_88 : decode cX6_goes 88 = .ok (.getfield 7, 3) := by decide +kernel
theorem dX6_goes_91 : decode cX6_goes 91 = .ok (.iconst 0, 1) := by decide +kernel
theorem dX6_goes_92 : decode cX6_goes 92 = .ok (.iaload, 1) := by decide +kernel
theorem dX6_goes_93 : decode cX6_goes 93 = .ok (.isub, 1) := by decide +kernel
theorem dX6_goes_94 : decode cX6_goes 94 = .ok (.if_icmp .ne 24, 3) := by decide +kernel
theorem dX6_goes_97 : decode cX6_goes 97 = .ok (.iload_n 3, 1) := by decide +kernel
theorem dX6_goes_98 : decode cX6_goes 98 = .ok (.iload 6, 2) := by decide +kernel
theorem dX6_goes_100 : decode cX6_goes 100 = .ok (.iadd, 1) := by decide +kernel
theorem dX6_goes_101 : decode cX6_goes 101 = .ok (.aload_n 0, 1) := by decide +kernel
theorem dX6_goes_102 : decode cX6_goes 102 = .ok (.getfield 7, 3) := by decide +kernel
theorem dX6_goes_105 : decode cX6_goes 105 = .ok (.iconst 0, 1) := by decide +kernel
theorem dX6_goes_106 : decode cX6_goes 106 = .ok (.iaload, 1) := by decide +kernel
theorem dX6_goes_107 : decode cX6_goes 107 = .ok (.iadd, 1) := by decide +kernel
theorem dX6_goes_108 : decode cX6_goes 108 = .ok (.aload_n 0, 1) := by decide +kernel
theorem dX6_goes_109 : decode cX6_goes 109 = .ok (.getfield 7, 3) := by decide +kernel
theorem dX6_goes_112 : decode cX6_goes 112 = .ok (.iconst 0, 1) := by decide +kernel
theorem dX6_goes_113 : decode cX6_goes 113 = .ok (.iaload, 1) := by decide +kernel
theorem dX6_goes_114 : decode cX6_goes 114 = .ok (.irem, 1) := by decide +kernel
theorem dX6_goes_115 : decode cX6_goes 115 = .ok (.goto 4, 3) := by decide +kernel
theorem dX6_goes_118 : decode cX6_goes 118 = .ok (.iload_n 3, 1) := by decide +kernel
theorem dX6_goes_119 : decode cX6_goes 119 = .ok (.istore_n 3, 1) := by decide +kernel
theorem dX6_goes_120 : decode cX6_goes 120 = .ok (.iload_n 3, 1) := by decide +kernel
theorem dX6_goes_121 : decode cX6_goes 121 = .ok (.aload_n 0, 1) := by decide +kernel
theorem dX6_goes_122 : decode cX6_goes 122 = .ok (.getfield 7, 3) := by decide +kernel
theorem dX6_goes_125 : decode cX6_goes 125 = .ok (.iconst 1, 1) := by decide +kernel
theorem dX6_goes_126 : decode cX6_goes 126 = .ok (.iaload, 1) := by decide +kernel
theorem dX6_goes_127 : decode cX6_goes 127 = .ok (.imul, 1) := by decide +kernel
theorem dX6_goes_128 : decode cX6_goes 128 = .ok (.iload 4, 2) := by decide +kernel
theorem dX6_goes_130 : decode cX6_goes 130 = .ok (.iadd, 1) := by decide +kernel
theorem dX6_goes_131 : decode cX6_goes 131 = .ok (.ireturn, 1) := by decide +kernel
theorem dX6_tries_0 : decode cX6_tries 0 = .ok (.iconst 0, 1) := by decide +kernel
theorem dX6_tries_1 : decode cX6_tries 1 = .ok (.istore_n 1, 1) := by decide +kernel
theorem dX6_tries_2 : decode cX6_tries 2 = .ok (.iload_n 1, 1) := by decide +kernel
theorem dX6_tries_3 : decode cX6_tries 3 = .ok (.aload_n 0, 1) := by decide +kernel
theorem dX6_tries_4 : decode cX6_tries 4 = .ok (.invokevirtual 66, 3) := by decide +kernel
theorem dX6_tries_7 : decode cX6_tries 7 = .ok (.if_icmp .ge 24, 3) := by decide +kernel
theorem dX6_tries_10 : decode cX6_tries 10 = .ok (.aload_n 0, 1) := by decide +kernel
theorem dX6_tries_11 : decode cX6_tries 11 = .ok (.getfield 33, 3) := by decide +kernel
theorem dX6_tries_14 : decode cX6_tries 14 = .ok (.iload_n 1, 1) := by decide +kernel
theorem dX6_tries_15 : decode cX6_tries 15 = .ok (.aload_n 0, 1) := by decide +kernel
theorem dX6_tries_16 : decode cX6_tries 16 = .ok (.getfield 7, 3) := by decide +kernel
theorem dX6_tries_19 : decode cX6_tries 19 = .ok (.bipush 14, 2) := by decide +kernel
theorem dX6_tries_21 : decode cX6_tries 21 = .ok (.iload_n 1, 1) := by decide +kernel
theorem dX6_tries_22 : decode cX6_tries 22 = .ok (.iadd, 1) := by decide +kernel
theorem dX6_tries_23 : decode cX6_tries 23 = .ok (.iaload, 1) := by decide +kernel
theorem dX6_tries_24 : decode cX6_tries 24 = .ok (.iastore, 1) := by decide +kernel
theorem dX6_tries_25 : decode cX6_tries 25 = .ok (.iinc 1 1, 3) := by decide +kernel
theorem dX6_tries_28 : decode cX6_tries 28 = .ok (.goto (-26), 3) := by decide +kernel
theorem dX6_tries_31 : decode cX6_tries 31 = .ok (.return_, 1) := by decide +kernel
theorem dX6_turnsTried_0 : decode cX6_turnsTried 0 = .ok (.iconst 0, 1) := by decide +kernel
theorem dX6_turnsTried_1 : decode cX6_turnsTried 1 = .ok (.istore_n 2, 1) := by decide +kernel
theorem dX6_turnsTried_2 : decode cX6_turnsTried 2 = .ok (.iload_n 2, 1) := by decide +kernel
theorem dX6_turnsTried_3 : decode cX6_turnsTried 3 = .ok (.aload_n 0, 1) := by decide +kernel
theorem dX6_turnsTried_4 : decode cX6_turnsTried 4 = .ok (.invokevirtual 66, 3) := by decide +kernel
theorem dX6_turnsTried_7 : decode cX6_turnsTried 7 = .ok (.if_icmp .ge 26, 3) := by decide +kernel
theorem dX6_turnsTried_10 : decode cX6_turnsTried 10 = .ok (.aload_n 0, 1) := by decide +kernel
theorem dX6_turnsTried_11 : decode cX6_turnsTried 11 = .ok (.getfield 36, 3) := by decide +kernel
theorem dX6_turnsTried_14 : decode cX6_turnsTried 14 = .ok (.aload_n 0, 1) := by decide +kernel
theorem dX6_turnsTried_15 : decode cX6_turnsTried 15 = .ok (.iload_n 2, 1) := by decide +kernel
theorem dX6_turnsTried_16 : decode cX6_turnsTried 16 = .ok (.iload_n 1, 1) := by decide +kernel
theorem dX6_turnsTried_17 : decode cX6_turnsTried 17 = .ok (.invokevirtual 118, 3) := by decide +kernel
theorem dX6_turnsTried_20 : decode cX6_turnsTried 20 = .ok (.aload_n 0, 1) := by decide +kernel
theorem dX6_turnsTried_21 : decode cX6_turnsTried 21 = .ok (.getfield 33, 3) := by decide +kernel
theorem dX6_turnsTried_24 : decode cX6_turnsTried 24 = .ok (.iload_n 2, 1) := by decide +kernel
theorem dX6_turnsTried_25 : decode cX6_turnsTried 25 = .ok (.iaload, 1) := by decide +kernel
theorem dX6_turnsTried_26 : decode cX6_turnsTried 26 = .ok (.iastore, 1) := by decide +kernel
theorem dX6_turnsTried_27 : decode cX6_turnsTried 27 = .ok (.iinc 2 1, 3) := by decide +kernel
theorem dX6_turnsTried_30 : decode cX6_turnsTried 30 = .ok (.goto (-28), 3) := by decide +kernel
theorem dX6_turnsTried_33 : decode cX6_turnsTried 33 = .ok (.iconst 0, 1) := by decide +kernel
theorem dX6_turnsTried_34 : decode cX6_turnsTried 34 = .ok (.istore_n 2, 1) := by decide +kernel
theorem dX6_turnsTried_35 : decode cX6_turnsTried 35 = .ok (.iload_n 2, 1) := by decide +kernel
theorem dX6_turnsTried_36 : decode cX6_turnsTried 36 = .ok (.aload_n 0, 1) := by decide +kernel
theorem dX6_turnsTried_37 : decode cX6_turnsTried 37 = .ok (.invokevirtual 66, 3) := by decide +kernel
theorem dX6_turnsTried_40 : decode cX6_turnsTried 40 = .ok (.if_icmp .ge 21, 3) := by decide +kernel
theorem dX6_turnsTried_43 : decode cX6_turnsTried 43 = .ok (.aload_n 0, 1) := by decide +kernel
theorem dX6_turnsTried_44 : decode cX6_turnsTried 44 = .ok (.getfield 33, 3) := by decide +kernel
theorem dX6_turnsTried_47 : decode cX6_turnsTried 47 = .ok (.iload_n 2, 1) := by decide +kernel
theorem dX6_turnsTried_48 : decode cX6_turnsTried 48 = .ok (.aload_n 0, 1) := by decide +kernel
theorem dX6_turnsTried_49 : decode cX6_turnsTried 49 = .ok (.getfield 36, 3) := by decide +kernel
theorem dX6_turnsTried_52 : decode cX6_turnsTried 52 = .ok (.iload_n 2, 1) := by decide +kernel
theorem dX6_turnsTried_53 : decode cX6_turnsTried 53 = .ok (.iaload, 1) := by decide +kernel
theorem dX6_turnsTried_54 : decode cX6_turnsTried 54 = .ok (.iastore, 1) := by decide +kernel
theorem dX6_turnsTried_55 : decode cX6_turnsTried 55 = .ok (.iinc 2 1, 3) := by decide +kernel
theorem dX6_turnsTried_58 : decode cX6_turnsTried 58 = .ok (.goto (-23), 3) := by decide +kernel
theorem dX6_turnsTried_61 : decode cX6_turnsTried 61 = .ok (.return_, 1) := by decide +kernel
theorem dX6_takesTried_0 : decode cX6_takesTried 0 = .ok (.iconst 0, 1) := by decide +kernel
theorem dX6_takesTried_1 : decode cX6_takesTried 1 = .ok (.istore_n 1, 1) := by decide +kernel
theorem dX6_takesTried_2 : decode cX6_takesTried 2 = .ok (.iload_n 1, 1) := by decide +kernel
theorem dX6_takesTried_3 : decode cX6_takesTried 3 = .ok (.aload_n 0, 1) := by decide +kernel
theorem dX6_takesTried_4 : decode cX6_takesTried 4 = .ok (.invokevirtual 66, 3) := by decide +kernel
theorem dX6_takesTried_7 : decode cX6_takesTried 7 = .ok (.if_icmp .ge 24, 3) := by decide +kernel
theorem dX6_takesTried_10 : decode cX6_takesTried 10 = .ok (.aload_n 0, 1) := by decide +kernel
theorem dX6_takesTried_11 : decode cX6_takesTried 11 = .ok (.getfield 7, 3) := by decide +kernel
theorem dX6_takesTried_14 : decode cX6_takesTried 14 = .ok (.bipush 14, 2) := by decide +kernel
theorem dX6_takesTried_16 : decode cX6_takesTried 16 = .ok (.iload_n 1, 1) := by decide +kernel
theorem dX6_takesTried_17 : decode cX6_takesTried 17 = .ok (.iadd, 1) := by decide +kernel
theorem dX6_takesTried_18 : decode cX6_takesTried 18 = .ok (.aload_n 0, 1) := by decide +kernel
theorem dX6_takesTried_19 : decode cX6_takesTried 19 = .ok (.getfield 33, 3) := by decide +kernel
theorem dX6_takesTried_22 : decode cX6_takesTried 22 = .ok (.iload_n 1, 1) := by decide +kernel
theorem dX6_takesTried_23 : decode cX6_takesTried 23 = .ok (.iaload, 1) := by decide +kernel
theorem dX6_takesTried_24 : decode cX6_takesTried 24 = .ok (.iastore, 1) := by decide +kernel
theorem dX6_takesTried_25 : decode cX6_takesTried 25 = .ok (.iinc 1 1, 3) := by decide +kernel
theorem dX6_takesTried_28 : decode cX6_takesTried 28 = .ok (.goto (-26), 3) := by decide +kernel
theorem dX6_takesTried_31 : decode cX6_takesTried 31 = .ok (.return_, 1) := by decide +kernel
theorem dX6_homeTried_0 : decode cX6_homeTried 0 = .ok (.iconst 0, 1) := by decide +kernel
theorem dX6_homeTried_1 : decode cX6_homeTried 1 = .ok (.istore_n 1, 1) := by decide +kernel
theorem dX6_homeTried_2 : decode cX6_homeTried 2 = .ok (.iconst 0, 1) := by decide +kernel
theorem dX6_homeTried_3 : decode cX6_homeTried 3 = .ok (.istore_n 2, 1) := by decide +kernel
theorem dX6_homeTried_4 : decode cX6_homeTried 4 = .ok (.iload_n 2, 1) := by decide +kernel
theorem dX6_homeTried_5 : decode cX6_homeTried 5 = .ok (.aload_n 0, 1) := by decide +kernel
theorem dX6_homeTried_6 : decode cX6_homeTried 6 = .ok (.invokevirtual 66, 3) := by decide +kernel
theorem dX6_homeTried_9 : decode cX6_homeTried 9 = .ok (.if_icmp .ge 48, 3) := by decide +kernel
theorem dX6_homeTried_12 : decode cX6_homeTried 12 = .ok (.iload_n 1, 1) := by decide +kernel
theorem dX6_homeTried_13 : decode cX6_homeTried 13 = .ok (.aload_n 0, 1) := by decide +kernel
theorem dX6_homeTried_14 : decode cX6_homeTried 14 = .ok (.getfield 7, 3) := by decide +kernel
theorem dX6_homeTried_17 : decode cX6_homeTried 17 = .ok (.bipush 23, 2) := by decide +kernel
theorem dX6_homeTried_19 : decode cX6_homeTried 19 = .ok (.iload_n 2, 1) := by decide +kernel
theorem dX6_homeTried_20 : decode cX6_homeTried 20 = .ok (.iadd, 1) := by decide +kernel
theorem dX6_homeTried_21 : decode cX6_homeTried 21 = .ok (.iaload, 1) := by decide +kernel
theorem dX6_homeTried_22 : decode cX6_homeTried 22 = .ok (.iconst (-1), 1) := by decide +kernel
theorem dX6_homeTried_23 : decode cX6_homeTried 23 = .ok (.if_icmp .eq 21, 3) := by decide +kernel
theorem dX6_homeTried_26 : decode cX6_homeTried 26 = .ok (.aload_n 0, 1) := by decide +kernel
theorem dX6_homeTried_27 : decode cX6_homeTried 27 = .ok (.getfield 7, 3) := by decide +kernel
theorem dX6_homeTried_30 : decode cX6_homeTried 30 = .ok (.bipush 23, 2) := by decide +kernel
theorem dX6_homeTried_32 : decode cX6_homeTried 32 = .ok (.iload_n 2, 1) := by decide +kernel
theorem dX6_homeTried_33 : decode cX6_homeTried 33 = .ok (.iadd, 1) := by decide +kernel
theorem dX6_homeTried_34 : decode cX6_homeTried 34 = .ok (.iaload, 1) := by decide +kernel
theorem dX6_homeTried_35 : decode cX6_homeTried 35 = .ok (.aload_n 0, 1) := by decide +kernel
theorem dX6_homeTried_36 : decode cX6_homeTried 36 = .ok (.getfield 33, 3) := by decide +kernel
theorem dX6_homeTried_39 : decode cX6_homeTried 39 = .ok (.iload_n 2, 1) := by decide +kernel
theorem dX6_homeTried_40 : decode cX6_homeTried 40 = .ok (.iaload, 1) := by decide +kernel
theorem dX6_homeTried_41 : decode cX6_homeTried 41 = .ok (.if_icmp .ne 7, 3) := by decide +kernel
theorem dX6_homeTried_44 : decode cX6_homeTried 44 = .ok (.iconst 1, 1) := by decide +kernel
theorem dX6_homeTried_45 : decode cX6_homeTried 45 = .ok (.goto 4, 3) := by decide +kernel
theorem dX6_homeTried_48 : decode cX6_homeTried 48 = .ok (.iconst 0, 1) := by decide +kernel
theorem dX6_homeTried_49 : decode cX6_homeTried 49 = .ok (.iadd, 1) := by decide +kernel
theorem dX6_homeTried_50 : decode cX6_homeTried 50 = .ok (.istore_n 1, 1) := by decide +kernel
theorem dX6_homeTried_51 : decode cX6_homeTried 51 = .ok (.iinc 2 1, 3) := by decide +kernel
theorem dX6_homeTried_54 : decode cX6_homeTried 54 = .ok (.goto (-50), 3) := by decide +kernel
theorem dX6_homeTried_57 : decode cX6_homeTried 57 = .ok (.iload_n 1, 1) := by decide +kernel
theorem dX6_homeTried_58 : decode cX6_homeTried 58 = .ok (.ireturn, 1) := by decide +kernel
theorem dX6_homes_0 : decode cX6_homes 0 = .ok (.aload_n 0, 1) := by decide +kernel
theorem dX6_homes_1 : decode cX6_homes 1 = .ok (.invokevirtual 121, 3) := by decide +kernel
theorem dX6_homes_4 : decode cX6_homes 4 = .ok (.aload_n 0, 1) := by decide +kernel
theorem dX6_homes_5 : decode cX6_homes 5 = .ok (.invokevirtual 124, 3) := by decide +kernel
theorem dX6_homes_8 : decode cX6_homes 8 = .ok (.ireturn, 1) := by decide +kernel
theorem dX6_isOpen_0 : decode cX6_isOpen 0 = .ok (.aload_n 0, 1) := by decide +kernel
theorem dX6_isOpen_1 : decode cX6_isOpen 1 = .ok (.getfield 7, 3) := by decide +kernel
theorem dX6_isOpen_4 : decode cX6_isOpen 4 = .ok (.bipush 8, 2) := by decide +kernel
theorem dX6_isOpen_6 : decode cX6_isOpen 6 = .ok (.iload_n 1, 1) := by decide +kernel
theorem dX6_isOpen_7 : decode cX6_isOpen 7 = .ok (.iconst 2, 1) := by decide +kernel
theorem dX6_isOpen_8 : decode cX6_isOpen 8 = .ok (.idiv, 1) := by decide +kernel
theorem dX6_isOpen_9 : decode cX6_isOpen 9 = .ok (.iadd, 1) := by decide +kernel
theorem dX6_isOpen_10 : decode cX6_isOpen 10 = .ok (.iaload, 1) := by decide +kernel
theorem dX6_isOpen_11 : decode cX6_isOpen 11 = .ok (.ifCond .ne 7, 3) := by decide +kernel
theorem dX6_isOpen_14 : decode cX6_isOpen 14 = .ok (.iconst 1, 1) := by decide +kernel
theorem dX6_isOpen_15 : decode cX6_isOpen 15 = .ok (.goto 4, 3) := by decide +kernel
theorem dX6_isOpen_18 : decode cX6_isOpen 18 = .ok (.iconst 0, 1) := by decide +kernel
theorem dX6_isOpen_19 : decode cX6_isOpen 19 = .ok (.ireturn, 1) := by decide +kernel
theorem dX6_makes_0 : decode cX6_makes 0 = .ok (.aload_n 0, 1) := by decide +kernel
theorem dX6_makes_1 : decode cX6_makes 1 = .ok (.invokevirtual 121, 3) := by decide +kernel
theorem dX6_makes_4 : decode cX6_makes 4 = .ok (.aload_n 0, 1) := by decide +kernel
theorem dX6_makes_5 : decode cX6_makes 5 = .ok (.iload_n 1, 1) := by decide +kernel
theorem dX6_makes_6 : decode cX6_makes 6 = .ok (.invokevirtual 127, 3) := by decide +kernel
theorem dX6_makes_9 : decode cX6_makes 9 = .ok (.aload_n 0, 1) := by decide +kernel
theorem dX6_makes_10 : decode cX6_makes 10 = .ok (.invokevirtual 131, 3) := by decide +kernel
theorem dX6_makes_13 : decode cX6_makes 13 = .ok (.aload_n 0, 1) := by decide +kernel
theorem dX6_makes_14 : decode cX6_makes 14 = .ok (.getfield 7, 3) := by decide +kernel
theorem dX6_makes_17 : decode cX6_makes 17 = .ok (.iconst 2, 1) := by decide +kernel
theorem dX6_makes_18 : decode cX6_makes 18 = .ok (.dup2, 1) := by decide +kernel
theorem dX6_makes_19 : decode cX6_makes 19 = .ok (.iaload, 1) := by decide +kernel
theorem dX6_makes_20 : decode cX6_makes 20 = .ok (.iconst 1, 1) := by decide +kernel
theorem dX6_makes_21 : decode cX6_makes 21 = .ok (.iadd, 1) := by decide +kernel
theorem dX6_makes_22 : decode cX6_makes 22 = .ok (.iastore, 1) := by decide +kernel
theorem dX6_makes_23 : decode cX6_makes 23 = .ok (.aload_n 0, 1) := by decide +kernel
theorem dX6_makes_24 : decode cX6_makes 24 = .ok (.invokevirtual 124, 3) := by decide +kernel
theorem dX6_makes_27 : decode cX6_makes 27 = .ok (.ireturn, 1) := by decide +kernel
theorem dX6_makesByHand_0 : decode cX6_makesByHand 0 = .ok (.aload_n 0, 1) := by decide +kernel
theorem dX6_makesByHand_1 : decode cX6_makesByHand 1 = .ok (.invokevirtual 134, 3) := by decide +kernel
theorem dX6_makesByHand_4 : decode cX6_makesByHand 4 = .ok (.istore_n 2, 1) := by decide +kernel
theorem dX6_makesByHand_5 : decode cX6_makesByHand 5 = .ok (.aload_n 0, 1) := by decide +kernel
theorem dX6_makesByHand_6 : decode cX6_makesByHand 6 = .ok (.iload_n 1, 1) := by decide +kernel
theorem dX6_makesByHand_7 : decode cX6_makesByHand 7 = .ok (.invokevirtual 137, 3) := by decide +kernel
theorem dX6_makesByHand_10 : decode cX6_makesByHand 10 = .ok (.istore_n 3, 1) := by decide +kernel
theorem dX6_makesByHand_11 : decode cX6_makesByHand 11 = .ok (.aload_n 0, 1) := by decide +kernel
theorem dX6_makesByHand_12 : decode cX6_makesByHand 12 = .ok (.getfield 7, 3) := by decide +kernel
theorem dX6_makesByHand_15 : decode cX6_makesByHand 15 = .ok (.bipush 7, 2) := by decide +kernel
theorem dX6_makesByHand_17 : decode cX6_makesByHand 17 = .ok (.dup2, 1) := by decide +kernel
theorem dX6_makesByHand_18 : decode cX6_makesByHand 18 = .ok (.iaload, 1) := by decide +kernel
theorem dX6_makesByHand_19 : decode cX6_makesByHand 19 = .ok (.iload_n 3, 1) := by decide +kernel
theorem dX6_makesByHand_20 : decode cX6_makesByHand 20 = .ok (.aload_n 0, 1) := by decide +kernel
theorem dX6_makesByHand_21 : decode cX6_makesByHand 21 = .ok (.invokevirtual 66, 3) := by decide +kernel
theorem dX6_makesByHand_24 : decode cX6_makesByHand 24 = .ok (.if_icmp .ne 12, 3) := by decide +kernel
theorem dX6_makesByHand_27 : decode cX6_makesByHand 27 = .ok (.iload_n 2, 1) := by decide +kernel
theorem dX6_makesByHand_28 : decode cX6_makesByHand 28 = .ok (.iload_n 3, 1) := by decide +kernel
theorem dX6_makesByHand_29 : decode cX6_makesByHand 29 = .ok (.if_icmp .ge 7, 3) := by decide +kernel
theorem dX6_makesByHand_32 : decode cX6_makesByHand 32 = .ok (.iconst 1, 1) := by decide +kernel
theorem dX6_makesByHand_33 : decode cX6_makesByHand 33 = .ok (.goto 4, 3) := by decide +kernel
theorem dX6_makesByHand_36 : decode cX6_makesByHand 36 = .ok (.iconst 0, 1) := by decide +kernel
theorem dX6_makesByHand_37 : decode cX6_makesByHand 37 = .ok (.iadd, 1) := by decide +kernel
theorem dX6_makesByHand_38 : decode cX6_makesByHand 38 = .ok (.iastore, 1) := by decide +kernel
theorem dX6_makesByHand_39 : decode cX6_makesByHand 39 = .ok (.iload_n 3, 1) := by decide +kernel
theorem dX6_makesByHand_40 : decode cX6_makesByHand 40 = .ok (.ireturn, 1) := by decide +kernel
theorem dX6_turnsOne_0 : decode cX6_turnsOne 0 = .ok (.aload_n 0, 1) := by decide +kernel
theorem dX6_turnsOne_1 : decode cX6_turnsOne 1 = .ok (.iload_n 1, 1) := by decide +kernel
theorem dX6_turnsOne_2 : decode cX6_turnsOne 2 = .ok (.invokevirtual 140, 3) := by decide +kernel
theorem dX6_turnsOne_5 : decode cX6_turnsOne 5 = .ok (.ifCond .ne 9, 3) := by decide +kernel
theorem dX6_turnsOne_8 : decode cX6_turnsOne 8 = .ok (.aload_n 0, 1) := by decide +kernel
theorem dX6_turnsOne_9 : decode cX6_turnsOne 9 = .ok (.iconst 1, 1) := by decide +kernel
theorem dX6_turnsOne_10 : decode cX6_turnsOne 10 = .ok (.invokevirtual 77, 3) := by decide +kernel
theorem dX6_turnsOne_13 : decode cX6_turnsOne 13 = .ok (.ireturn, 1) := by decide +kernel
theorem dX6_turnsOne_14 : decode cX6_turnsOne 14 = .ok (.aload_n 0, 1) := by decide +kernel
theorem dX6_turnsOne_15 : decode cX6_turnsOne 15 = .ok (.iload_n 1, 1) := by decide +kernel
theorem dX6_turnsOne_16 : decode cX6_turnsOne 16 = .ok (.invokevirtual 143, 3) := by decide +kernel
theorem dX6_turnsOne_19 : decode cX6_turnsOne 19 = .ok (.ifCond .eq 15, 3) := by decide +kernel
theorem dX6_turnsOne_22 : decode cX6_turnsOne 22 = .ok (.aload_n 0, 1) := by decide +kernel
theorem dX6_turnsOne_23 : decode cX6_turnsOne 23 = .ok (.aload_n 0, 1) := by decide +kernel
theorem dX6_turnsOne_24 : decode cX6_turnsOne 24 = .ok (.iload_n 1, 1) := by decide +kernel
theorem dX6_turnsOne_25 : decode cX6_turnsOne 25 = .ok (.invokevirtual 146, 3) := by decide +kernel
theorem dX6_turnsOne_28 : decode cX6_turnsOne 28 = .ok (.invokevirtual 81, 3) := by decide +kernel
theorem dX6_turnsOne_31 : decode cX6_turnsOne 31 = .ok (.goto 12, 3) := by decide +kernel
theorem dX6_turnsOne_34 : decode cX6_turnsOne 34 = .ok (.aload_n 0, 1) := by decide +kernel
theorem dX6_turnsOne_35 : decode cX6_turnsOne 35 = .ok (.iconst 1, 1) := by decide +kernel
theorem dX6_turnsOne_36 : decode cX6_turnsOne 36 = .ok (.iload_n 1, 1) := by decide +kernel
theorem dX6_turnsOne_37 : decode cX6_turnsOne 37 = .ok (.iconst 2, 1) := by decide +kernel
theorem dX6_turnsOne_38 : decode cX6_turnsOne 38 = .ok (.idiv, 1) := by decide +kernel
theorem dX6_turnsOne_39 : decode cX6_turnsOne 39 = .ok (.iconst 2, 1) := by decide +kernel
theorem dX6_turnsOne_40 : decode cX6_turnsOne 40 = .ok (.invokevirtual 94, 3) := by decide +kernel
theorem dX6_turnsOne_43 : decode cX6_turnsOne 43 = .ok (.ireturn, 1) := by decide +kernel
theorem dX6_turn_0 : decode cX6_turn 0 = .ok (.aload_n 0, 1) := by decide +kernel
theorem dX6_turn_1 : decode cX6_turn 1 = .ok (.invokevirtual 84, 3) := by decide +kernel
theorem dX6_turn_4 : decode cX6_turn 4 = .ok (.aload_n 0, 1) := by decide +kernel
theorem dX6_turn_5 : decode cX6_turn 5 = .ok (.aload_n 0, 1) := by decide +kernel
theorem dX6_turn_6 : decode cX6_turn 6 = .ok (.iload_n 1, 1) := by decide +kernel
theorem dX6_turn_7 : decode cX6_turn 7 = .ok (.invokevirtual 149, 3) := by decide +kernel
theorem dX6_turn_10 : decode cX6_turn 10 = .ok (.invokevirtual 91, 3) := by decide +kernel
theorem dX6_turn_13 : decode cX6_turn 13 = .ok (.ireturn, 1) := by decide +kernel
theorem dX6_swaps_0 : decode cX6_swaps 0 = .ok (.aload_n 0, 1) := by decide +kernel
theorem dX6_swaps_1 : decode cX6_swaps 1 = .ok (.iload_n 1, 1) := by decide +kernel
theorem dX6_swaps_2 : decode cX6_swaps 2 = .ok (.invokevirtual 102, 3) := by decide +kernel
theorem dX6_swaps_5 : decode cX6_swaps 5 = .ok (.ifCond .eq 11, 3) := by decide +kernel
theorem dX6_swaps_8 : decode cX6_swaps 8 = .ok (.aload_n 0, 1) := by decide +kernel
theorem dX6_swaps_9 : decode cX6_swaps 9 = .ok (.iload_n 2, 1) := by decide +kernel
theorem dX6_swaps_10 : decode cX6_swaps 10 = .ok (.invokevirtual 102, 3) := by decide +kernel
theorem dX6_swaps_13 : decode cX6_swaps 13 = .ok (.ifCond .ne 9, 3) := by decide +kernel
theorem dX6_swaps_16 : decode cX6_swaps 16 = .ok (.aload_n 0, 1) := by decide +kernel
theorem dX6_swaps_17 : decode cX6_swaps 17 = .ok (.iconst 1, 1) := by decide +kernel
theorem dX6_swaps_18 : decode cX6_swaps 18 = .ok (.invokevirtual 77, 3) := by decide +kernel
theorem dX6_swaps_21 : decode cX6_swaps 21 = .ok (.ireturn, 1) := by decide +kernel
theorem dX6_swaps_22 : decode cX6_swaps 22 = .ok (.iload_n 1, 1) := by decide +kernel
theorem dX6_swaps_23 : decode cX6_swaps 23 = .ok (.iload_n 2, 1) := by decide +kernel
theorem dX6_swaps_24 : decode cX6_swaps 24 = .ok (.if_icmp .ne 11, 3) := by decide +kernel
theorem dX6_swaps_27 : decode cX6_swaps 27 = .ok (.aload_n 0, 1) := by decide +kernel
theorem dX6_swaps_28 : decode cX6_swaps 28 = .ok (.iconst 3, 1) := by decide +kernel
theorem dX6_swaps_29 : decode cX6_swaps 29 = .ok (.iload_n 1, 1) := by decide +kernel
theorem dX6_swaps_30 : decode cX6_swaps 30 = .ok (.iconst 2, 1) := by decide +kernel
theorem dX6_swaps_31 : decode cX6_swaps 31 = .ok (.invokevirtual 94, 3) := by decide +kernel
theorem dX6_swaps_34 : decode cX6_swaps 34 = .ok (.ireturn, 1) := by decide +kernel
theorem dX6_swaps_35 : decode cX6_swaps 35 = .ok (.aload_n 0, 1) := by decide +kernel
theorem dX6_swaps_36 : decode cX6_swaps 36 = .ok (.getfield 7, 3) := by decide +kernel
theorem dX6_swaps_39 : decode cX6_swaps 39 = .ok (.bipush 14, 2) := by decide +kernel
theorem dX6_swaps_41 : decode cX6_swaps 41 = .ok (.iload_n 1, 1) := by decide +kernel
theorem dX6_swaps_42 : decode cX6_swaps 42 = .ok (.iadd, 1) := by decide +kernel
theorem dX6_swaps_43 : decode cX6_swaps 43 = .ok (.iaload, 1) := by decide +kernel
theorem dX6_swaps_44 : decode cX6_swaps 44 = .ok (.istore_n 3, 1) := by decide +kernel
theorem dX6_swaps_45 : decode cX6_swaps 45 = .ok (.aload_n 0, 1) := by decide +kernel
theorem dX6_swaps_46 : decode cX6_swaps 46 = .ok (.getfield 7, 3) := by decide +kernel
theorem dX6_swaps_49 : decode cX6_swaps 49 = .ok (.bipush 14, 2) := by decide +kernel
theorem dX6_swaps_51 : decode cX6_swaps 51 = .ok (.iload_n 1, 1) := by decide +kernel
theorem dX6_swaps_52 : decode cX6_swaps 52 = .ok (.iadd, 1) := by decide +kernel
theorem dX6_swaps_53 : decode cX6_swaps 53 = .ok (.aload_n 0, 1) := by decide +kernel
theorem dX6_swaps_54 : decode cX6_swaps 54 = .ok (.getfield 7, 3) := by decide +kernel
theorem dX6_swaps_57 : decode cX6_swaps 57 = .ok (.bipush 14, 2) := by decide +kernel
theorem dX6_swaps_59 : decode cX6_swaps 59 = .ok (.iload_n 2, 1) := by decide +kernel
theorem dX6_swaps_60 : decode cX6_swaps 60 = .ok (.iadd, 1) := by decide +kernel
theorem dX6_swaps_61 : decode cX6_swaps 61 = .ok (.iaload, 1) := by decide +kernel
theorem dX6_swaps_62 : decode cX6_swaps 62 = .ok (.iastore, 1) := by decide +kernel
theorem dX6_swaps_63 : decode cX6_swaps 63 = .ok (.aload_n 0, 1) := by decide +kernel
theorem dX6_swaps_64 : decode cX6_swaps 64 = .ok (.getfield 7, 3) := by decide +kernel
theorem dX6_swaps_67 : decode cX6_swaps 67 = .ok (.bipush 14, 2) := by decide +kernel
theorem dX6_swaps_69 : decode cX6_swaps 69 = .ok (.iload_n 2, 1) := by decide +kernel
theorem dX6_swaps_70 : decode cX6_swaps 70 = .ok (.iadd, 1) := by decide +kernel
theorem dX6_swaps_71 : decode cX6_swaps 71 = .ok (.iload_n 3, 1) := by decide +kernel
theorem dX6_swaps_72 : decode cX6_swaps 72 = .ok (.iastore, 1) := by decide +kernel
theorem dX6_swaps_73 : decode cX6_swaps 73 = .ok (.aload_n 0, 1) := by decide +kernel
theorem dX6_swaps_74 : decode cX6_swaps 74 = .ok (.getfield 7, 3) := by decide +kernel
theorem dX6_swaps_77 : decode cX6_swaps 77 = .ok (.iconst 3, 1) := by decide +kernel
theorem dX6_swaps_78 : decode cX6_swaps 78 = .ok (.dup2, 1) := by decide +kernel
theorem dX6_swaps_79 : decode cX6_swaps 79 = .ok (.iaload, 1) := by decide +kernel
theorem dX6_swaps_80 : decode cX6_swaps 80 = .ok (.iconst 1, 1) := by decide +kernel
theorem dX6_swaps_81 : decode cX6_swaps 81 = .ok (.iadd, 1) := by decide +kernel
theorem dX6_swaps_82 : decode cX6_swaps 82 = .ok (.iastore, 1) := by decide +kernel
theorem dX6_swaps_83 : decode cX6_swaps 83 = .ok (.aload_n 0, 1) := by decide +kernel
theorem dX6_swaps_84 : decode cX6_swaps 84 = .ok (.aload_n 0, 1) := by decide +kernel
theorem dX6_swaps_85 : decode cX6_swaps 85 = .ok (.invokevirtual 134, 3) := by decide +kernel
theorem dX6_swaps_88 : decode cX6_swaps 88 = .ok (.invokevirtual 81, 3) := by decide +kernel
theorem dX6_swaps_91 : decode cX6_swaps 91 = .ok (.ireturn, 1) := by decide +kernel
theorem dX6_swap_0 : decode cX6_swap 0 = .ok (.aload_n 0, 1) := by decide +kernel
theorem dX6_swap_1 : decode cX6_swap 1 = .ok (.invokevirtual 84, 3) := by decide +kernel
theorem dX6_swap_4 : decode cX6_swap 4 = .ok (.aload_n 0, 1) := by decide +kernel
theorem dX6_swap_5 : decode cX6_swap 5 = .ok (.aload_n 0, 1) := by decide +kernel
theorem dX6_swap_6 : decode cX6_swap 6 = .ok (.iload_n 1, 1) := by decide +kernel
theorem dX6_swap_7 : decode cX6_swap 7 = .ok (.iload_n 2, 1) := by decide +kernel
theorem dX6_swap_8 : decode cX6_swap 8 = .ok (.invokevirtual 152, 3) := by decide +kernel
theorem dX6_swap_11 : decode cX6_swap 11 = .ok (.invokevirtual 91, 3) := by decide +kernel
theorem dX6_swap_14 : decode cX6_swap 14 = .ok (.ireturn, 1) := by decide +kernel
theorem dX6_bars_0 : decode cX6_bars 0 = .ok (.aload_n 0, 1) := by decide +kernel
theorem dX6_bars_1 : decode cX6_bars 1 = .ok (.iload_n 1, 1) := by decide +kernel
theorem dX6_bars_2 : decode cX6_bars 2 = .ok (.invokevirtual 155, 3) := by decide +kernel
theorem dX6_bars_5 : decode cX6_bars 5 = .ok (.ifCond .ne 9, 3) := by decide +kernel
theorem dX6_bars_8 : decode cX6_bars 8 = .ok (.aload_n 0, 1) := by decide +kernel
theorem dX6_bars_9 : decode cX6_bars 9 = .ok (.iconst 1, 1) := by decide +kernel
theorem dX6_bars_10 : decode cX6_bars 10 = .ok (.invokevirtual 77, 3) := by decide +kernel
theorem dX6_bars_13 : decode cX6_bars 13 = .ok (.ireturn, 1) := by decide +kernel
theorem dX6_bars_14 : decode cX6_bars 14 = .ok (.aload_n 0, 1) := by decide +kernel
theorem dX6_bars_15 : decode cX6_bars 15 = .ok (.getfield 7, 3) := by decide +kernel
theorem dX6_bars_18 : decode cX6_bars 18 = .ok (.bipush 8, 2) := by decide +kernel
theorem dX6_bars_20 : decode cX6_bars 20 = .ok (.iload_n 1, 1) := by decide +kernel
theorem dX6_bars_21 : decode cX6_bars 21 = .ok (.iadd, 1) := by decide +kernel
theorem dX6_bars_22 : decode cX6_bars 22 = .ok (.iconst 1, 1) := by decide +kernel
theorem dX6_bars_23 : decode cX6_bars 23 = .ok (.aload_n 0, 1) := by decide +kernel
theorem dX6_bars_24 : decode cX6_bars 24 = .ok (.getfield 7, 3) := by decide +kernel
theorem dX6_bars_27 : decode cX6_bars 27 = .ok (.bipush 8, 2) := by decide +kernel
theorem dX6_bars_29 : decode cX6_bars 29 = .ok (.iload_n 1, 1) := by decide +kernel
theorem dX6_bars_30 : decode cX6_bars 30 = .ok (.iadd, 1) := by decide +kernel
theorem dX6_bars_31 : decode cX6_bars 31 = .ok (.iaload, 1) := by decide +kernel
theorem dX6_bars_32 : decode cX6_bars 32 = .ok (.isub, 1) := by decide +kernel
theorem dX6_bars_33 : decode cX6_bars 33 = .ok (.iastore, 1) := by decide +kernel
theorem dX6_bars_34 : decode cX6_bars 34 = .ok (.aload_n 0, 1) := by decide +kernel
theorem dX6_bars_35 : decode cX6_bars 35 = .ok (.aload_n 0, 1) := by decide +kernel
theorem dX6_bars_36 : decode cX6_bars 36 = .ok (.getfield 7, 3) := by decide +kernel
theorem dX6_bars_39 : decode cX6_bars 39 = .ok (.bipush 8, 2) := by decide +kernel
theorem dX6_bars_41 : decode cX6_bars 41 = .ok (.iload_n 1, 1) := by decide +kernel
theorem dX6_bars_42 : decode cX6_bars 42 = .ok (.iadd, 1) := by decide +kernel
theorem dX6_bars_43 : decode cX6_bars 43 = .ok (.iaload, 1) := by decide +kernel
theorem dX6_bars_44 : decode cX6_bars 44 = .ok (.invokevirtual 81, 3) := by decide +kernel
theorem dX6_bars_47 : decode cX6_bars 47 = .ok (.ireturn, 1) := by decide +kernel
theorem dX6_bar_0 : decode cX6_bar 0 = .ok (.aload_n 0, 1) := by decide +kernel
theorem dX6_bar_1 : decode cX6_bar 1 = .ok (.invokevirtual 84, 3) := by decide +kernel
theorem dX6_bar_4 : decode cX6_bar 4 = .ok (.aload_n 0, 1) := by decide +kernel
theorem dX6_bar_5 : decode cX6_bar 5 = .ok (.aload_n 0, 1) := by decide +kernel
theorem dX6_bar_6 : decode cX6_bar 6 = .ok (.iload_n 1, 1) := by decide +kernel
theorem dX6_bar_7 : decode cX6_bar 7 = .ok (.invokevirtual 158, 3) := by decide +kernel
theorem dX6_bar_10 : decode cX6_bar 10 = .ok (.invokevirtual 91, 3) := by decide +kernel
theorem dX6_bar_13 : decode cX6_bar 13 = .ok (.iconst 1, 1) := by decide +kernel
theorem dX6_bar_14 : decode cX6_bar 14 = .ok (.if_icmp .ne 7, 3) := by decide +kernel
theorem dX6_bar_17 : decode cX6_bar 17 = .ok (.iconst 1, 1) := by decide +kernel
theorem dX6_bar_18 : decode cX6_bar 18 = .ok (.goto 4, 3) := by decide +kernel
theorem dX6_bar_21 : decode cX6_bar 21 = .ok (.iconst 0, 1) := by decide +kernel
theorem dX6_bar_22 : decode cX6_bar 22 = .ok (.ireturn, 1) := by decide +kernel
theorem dX6_scrambles_0 : decode cX6_scrambles 0 = .ok (.iload_n 1, 1) := by decide +kernel
theorem dX6_scrambles_1 : decode cX6_scrambles 1 = .ok (.iconst 0, 1) := by decide +kernel
theorem dX6_scrambles_2 : decode cX6_scrambles 2 = .ok (.sipush 999, 3) := by decide +kernel
theorem dX6_scrambles_5 : decode cX6_scrambles 5 = .ok (.invokestatic 70, 3) := by decide +kernel
theorem dX6_scrambles_8 : decode cX6_scrambles 8 = .ok (.ifCond .eq 13, 3) := by decide +kernel
theorem dX6_scrambles_11 : decode cX6_scrambles 11 = .ok (.iload_n 2, 1) := by decide +kernel
theorem dX6_scrambles_12 : decode cX6_scrambles 12 = .ok (.iconst 1, 1) := by decide +kernel
theorem dX6_scrambles_13 : decode cX6_scrambles 13 = .ok (.bipush 9, 2) := by decide +kernel
theorem dX6_scrambles_15 : decode cX6_scrambles 15 = .ok (.invokestatic 70, 3) := by decide +kernel
theorem dX6_scrambles_18 : decode cX6_scrambles 18 = .ok (.ifCond .ne 9, 3) := by decide +kernel
theorem dX6_scrambles_21 : decode cX6_scrambles 21 = .ok (.aload_n 0, 1) := by decide +kernel
theorem dX6_scrambles_22 : decode cX6_scrambles 22 = .ok (.iconst 1, 1) := by decide +kernel
theorem dX6_scrambles_23 : decode cX6_scrambles 23 = .ok (.invokevirtual 77, 3) := by decide +kernel
theorem dX6_scrambles_26 : decode cX6_scrambles 26 = .ok (.ireturn, 1) := by decide +kernel
theorem dX6_scrambles_27 : decode cX6_scrambles 27 = .ok (.iload_n 1, 1) := by decide +kernel
theorem dX6_scrambles_28 : decode cX6_scrambles 28 = .ok (.istore_n 3, 1) := by decide +kernel
theorem dX6_scrambles_29 : decode cX6_scrambles 29 = .ok (.iconst 0, 1) := by decide +kernel
theorem dX6_scrambles_30 : decode cX6_scrambles 30 = .ok (.istore 4, 2) := by decide +kernel
theorem dX6_scrambles_32 : decode cX6_scrambles 32 = .ok (.iconst 0, 1) := by decide +kernel
theorem dX6_scrambles_33 : decode cX6_scrambles 33 = .ok (.istore 5, 2) := by decide +kernel
theorem dX6_scrambles_35 : decode cX6_scrambles 35 = .ok (.iload 5, 2) := by decide +kernel
theorem dX6_scrambles_37 : decode cX6_scrambles 37 = .ok (.iload_n 2, 1) := by decide +kernel
theorem dX6_scrambles_38 : decode cX6_scrambles 38 = .ok (.if_icmp .ge 51, 3) := by decide +kernel
theorem dX6_scrambles_41 : decode cX6_scrambles 41 = .ok (.bipush 73, 2) := by decide +kernel
theorem dX6_scrambles_43 : decode cX6_scrambles 43 = .ok (.iload_n 3, 1) := by decide +kernel
theorem dX6_scrambles_44 : decode cX6_scrambles 44 = .ok (.imul, 1) := by decide +kernel
theorem dX6_scrambles_45 : decode cX6_scrambles 45 = .ok (.bipush 41, 2) := by decide +kernel
theorem dX6_scrambles_47 : decode cX6_scrambles 47 = .ok (.iadd, 1) := by decide +kernel
theorem dX6_scrambles_48 : decode cX6_scrambles 48 = .ok (.sipush 1000, 3) := by decide +kernel
theorem dX6_scrambles_51 : decode cX6_scrambles 51 = .ok (.irem, 1) := by decide +kernel
theorem dX6_scrambles_52 : decode cX6_scrambles 52 = .ok (.istore_n 3, 1) := by decide +kernel
theorem dX6_scrambles_53 : decode cX6_scrambles 53 = .ok (.iload_n 3, 1) := by decide +kernel
theorem dX6_scrambles_54 : decode cX6_scrambles 54 = .ok (.iconst 2, 1) := by decide +kernel
theorem dX6_scrambles_55 : decode cX6_scrambles 55 = .ok (.aload_n 0, 1) := by decide +kernel
theorem dX6_scrambles_56 : decode cX6_scrambles 56 = .ok (.invokevirtual 74, 3) := by decide +kernel
theorem dX6_scrambles_59 : decode cX6_scrambles 59 = .ok (.imul, 1) := by decide +kernel
theorem dX6_scrambles_60 : decode cX6_scrambles 60 = .ok (.irem, 1) := by decide +kernel
theorem dX6_scrambles_61 : decode cX6_scrambles 61 = .ok (.istore 6, 2) := by decide +kernel
theorem dX6_scrambles_63 : decode cX6_scrambles 63 = .ok (.aload_n 0, 1) := by decide +kernel
theorem dX6_scrambles_64 : decode cX6_scrambles 64 = .ok (.iload 6, 2) := by decide +kernel
theorem dX6_scrambles_66 : decode cX6_scrambles 66 = .ok (.invokevirtual 143, 3) := by decide +kernel
theorem dX6_scrambles_69 : decode cX6_scrambles 69 = .ok (.ifCond .eq 14, 3) := by decide +kernel
theorem dX6_scrambles_72 : decode cX6_scrambles 72 = .ok (.aload_n 0, 1) := by decide +kernel
theorem dX6_scrambles_73 : decode cX6_scrambles 73 = .ok (.iload 6, 2) := by decide +kernel
theorem dX6_scrambles_75 : decode cX6_scrambles 75 = .ok (.invokevirtual 137, 3) := by decide +kernel
theorem dX6_scrambles_78 : decode cX6_scrambles 78 = .ok (.istore 7, 2) := by decide +kernel
theorem dX6_scrambles_80 : decode cX6_scrambles 80 = .ok (.iinc 4 1, 3) := by decide +kernel
theorem dX6_scrambles_83 : decode cX6_scrambles 83 = .ok (.iinc 5 1, 3) := by decide +kernel
theorem dX6_scrambles_86 : decode cX6_scrambles 86 = .ok (.goto (-51), 3) := by decide +kernel
theorem dX6_scrambles_89 : decode cX6_scrambles 89 = .ok (.aload_n 0, 1) := by decide +kernel
theorem dX6_scrambles_90 : decode cX6_scrambles 90 = .ok (.getfield 7, 3) := by decide +kernel
theorem dX6_scrambles_93 : decode cX6_scrambles 93 = .ok (.iconst 4, 1) := by decide +kernel
theorem dX6_scrambles_94 : decode cX6_scrambles 94 = .ok (.dup2, 1) := by decide +kernel
theorem dX6_scrambles_95 : decode cX6_scrambles 95 = .ok (.iaload, 1) := by decide +kernel
theorem dX6_scrambles_96 : decode cX6_scrambles 96 = .ok (.iconst 1, 1) := by decide +kernel
theorem dX6_scrambles_97 : decode cX6_scrambles 97 = .ok (.iadd, 1) := by decide +kernel
theorem dX6_scrambles_98 : decode cX6_scrambles 98 = .ok (.iastore, 1) := by decide +kernel
theorem dX6_scrambles_99 : decode cX6_scrambles 99 = .ok (.aload_n 0, 1) := by decide +kernel
theorem dX6_scrambles_100 : decode cX6_scrambles 100 = .ok (.iload 4, 2) := by decide +kernel
theorem dX6_scrambles_102 : decode cX6_scrambles 102 = .ok (.invokevirtual 81, 3) := by decide +kernel
theorem dX6_scrambles_105 : decode cX6_scrambles 105 = .ok (.ireturn, 1) := by decide +kernel
theorem dX6_scramble_0 : decode cX6_scramble 0 = .ok (.aload_n 0, 1) := by decide +kernel
theorem dX6_scramble_1 : decode cX6_scramble 1 = .ok (.invokevirtual 84, 3) := by decide +kernel
theorem dX6_scramble_4 : decode cX6_scramble 4 = .ok (.aload_n 0, 1) := by decide +kernel
theorem dX6_scramble_5 : decode cX6_scramble 5 = .ok (.aload_n 0, 1) := by decide +kernel
theorem dX6_scramble_6 : decode cX6_scramble 6 = .ok (.iload_n 1, 1) := by decide +kernel
theorem dX6_scramble_7 : decode cX6_scramble 7 = .ok (.iload_n 2, 1) := by decide +kernel
theorem dX6_scramble_8 : decode cX6_scramble 8 = .ok (.invokevirtual 161, 3) := by decide +kernel
theorem dX6_scramble_11 : decode cX6_scramble 11 = .ok (.invokevirtual 91, 3) := by decide +kernel
theorem dX6_scramble_14 : decode cX6_scramble 14 = .ok (.ireturn, 1) := by decide +kernel
theorem dX6_leads_0 : decode cX6_leads 0 = .ok (.iconst 2, 1) := by decide +kernel
theorem dX6_leads_1 : decode cX6_leads 1 = .ok (.aload_n 0, 1) := by decide +kernel
theorem dX6_leads_2 : decode cX6_leads 2 = .ok (.invokevirtual 74, 3) := by decide +kernel
theorem dX6_leads_5 : decode cX6_leads 5 = .ok (.imul, 1) := by decide +kernel
theorem dX6_leads_6 : decode cX6_leads 6 = .ok (.istore_n 3, 1) := by decide +kernel
theorem dX6_leads_7 : decode cX6_leads 7 = .ok (.iconst 1, 1) := by decide +kernel
theorem dX6_leads_8 : decode cX6_leads 8 = .ok (.istore 4, 2) := by decide +kernel
theorem dX6_leads_10 : decode cX6_leads 10 = .ok (.iconst 1, 1) := by decide +kernel
theorem dX6_leads_11 : decode cX6_leads 11 = .ok (.istore 5, 2) := by decide +kernel
theorem dX6_leads_13 : decode cX6_leads 13 = .ok (.iload 5, 2) := by decide +kernel
theorem dX6_leads_15 : decode cX6_leads 15 = .ok (.iload_n 2, 1) := by decide +kernel
theorem dX6_leads_16 : decode cX6_leads 16 = .ok (.if_icmp .ge 15, 3) := by decide +kernel
theorem dX6_leads_19 : decode cX6_leads 19 = .ok (.iload 4, 2) := by decide +kernel
theorem dX6_leads_21 : decode cX6_leads 21 = .ok (.iload_n 3, 1) := by decide +kernel
theorem dX6_leads_22 : decode cX6_leads 22 = .ok (.imul, 1) := by decide +kernel
theorem dX6_leads_23 : decode cX6_leads 23 = .ok (.istore 4, 2) := by decide +kernel
theorem dX6_leads_25 : decode cX6_leads 25 = .ok (.iinc 5 1, 3) := by decide +kernel
theorem dX6_leads_28 : decode cX6_leads 28 = .ok (.goto (-15), 3) := by decide +kernel
theorem dX6_leads_31 : decode cX6_leads 31 = .ok (.aload_n 0, 1) := by decide +kernel
theorem dX6_leads_32 : decode cX6_leads 32 = .ok (.iload_n 2, 1) := by decide +kernel
theorem dX6_leads_33 : decode cX6_leads 33 = .ok (.ifCond .ne 7, 3) := by decide +kernel
theorem dX6_leads_36 : decode cX6_leads 36 = .ok (.iconst (-1), 1) := by decide +kernel
theorem dX6_leads_37 : decode cX6_leads 37 = .ok (.goto 7, 3) := by decide +kernel
theorem dX6_leads_40 : decode cX6_leads 40 = .ok (.iload_n 1, 1) := by decide +kernel
theorem dX6_leads_41 : decode cX6_leads 41 = .ok (.iload 4, 2) := by decide +kernel
theorem dX6_leads_43 : decode cX6_leads 43 = .ok (.idiv, 1) := by decide +kernel
theorem dX6_leads_44 : decode cX6_leads 44 = .ok (.putfield 164, 3) := by decide +kernel
theorem dX6_leads_47 : decode cX6_leads 47 = .ok (.aload_n 0, 1) := by decide +kernel
theorem dX6_leads_48 : decode cX6_leads 48 = .ok (.invokevirtual 121, 3) := by decide +kernel
theorem dX6_leads_51 : decode cX6_leads 51 = .ok (.iconst 1, 1) := by decide +kernel
theorem dX6_leads_52 : decode cX6_leads 52 = .ok (.istore 5, 2) := by decide +kernel
theorem dX6_leads_54 : decode cX6_leads 54 = .ok (.iconst 0, 1) := by decide +kernel
theorem dX6_leads_55 : decode cX6_leads 55 = .ok (.istore 6, 2) := by decide +kernel
theorem dX6_leads_57 : decode cX6_leads 57 = .ok (.iload 6, 2) := by decide +kernel
theorem dX6_leads_59 : decode cX6_leads 59 = .ok (.iload_n 2, 1) := by decide +kernel
theorem dX6_leads_60 : decode cX6_leads 60 = .ok (.if_icmp .ge 42, 3) := by decide +kernel
theorem dX6_leads_63 : decode cX6_leads 63 = .ok (.iload 5, 2) := by decide +kernel
theorem dX6_leads_65 : decode cX6_leads 65 = .ok (.ifCond .eq 37, 3) := by decide +kernel
theorem dX6_leads_68 : decode cX6_leads 68 = .ok (.iload_n 1, 1) := by decide +kernel
theorem dX6_leads_69 : decode cX6_leads 69 = .ok (.iload 4, 2) := by decide +kernel
theorem dX6_leads_71 : decode cX6_leads 71 = .ok (.idiv, 1) := by decide +kernel
theorem dX6_leads_72 : decode cX6_leads 72 = .ok (.iload_n 3, 1) := by decide +kernel
theorem dX6_leads_73 : decode cX6_leads 73 = .ok (.irem, 1) := by decide +kernel
theorem dX6_leads_74 : decode cX6_leads 74 = .ok (.istore 7, 2) := by decide +kernel
theorem dX6_leads_76 : decode cX6_leads 76 = .ok (.aload_n 0, 1) := by decide +kernel
theorem dX6_leads_77 : decode cX6_leads 77 = .ok (.iload 7, 2) := by decide +kernel
theorem dX6_leads_79 : decode cX6_leads 79 = .ok (.invokevirtual 143, 3) := by decide +kernel
theorem dX6_leads_82 : decode cX6_leads 82 = .ok (.istore 5, 2) := by decide +kernel
theorem dX6_leads_84 : decode cX6_leads 84 = .ok (.aload_n 0, 1) := by decide +kernel
theorem dX6_leads_85 : decode cX6_leads 85 = .ok (.iload 7, 2) := by decide +kernel
theorem dX6_leads_87 : decode cX6_leads 87 = .ok (.invokevirtual 127, 3) := by decide +kernel
theorem dX6_leads_90 : decode cX6_leads 90 = .ok (.iload 4, 2) := by decide +kernel
theorem dX6_leads_92 : decode cX6_leads 92 = .ok (.iload_n 3, 1) := by decide +kernel
theorem dX6_leads_93 : decode cX6_leads 93 = .ok (.idiv, 1) := by decide +kernel
theorem dX6_leads_94 : decode cX6_leads 94 = .ok (.istore 4, 2) := by decide +kernel
theorem dX6_leads_96 : decode cX6_leads 96 = .ok (.iinc 6 1, 3) := by decide +kernel
theorem dX6_leads_99 : decode cX6_leads 99 = .ok (.goto (-42), 3) := by decide +kernel
theorem dX6_leads_102 : decode cX6_leads 102 = .ok (.iload 5, 2) := by decide +kernel
theorem dX6_leads_104 : decode cX6_leads 104 = .ok (.ifCond .eq 18, 3) := by decide +kernel
theorem dX6_leads_107 : decode cX6_leads 107 = .ok (.aload_n 0, 1) := by decide +kernel
theorem dX6_leads_108 : decode cX6_leads 108 = .ok (.invokevirtual 124, 3) := by decide +kernel
theorem dX6_leads_111 : decode cX6_leads 111 = .ok (.aload_n 0, 1) := by decide +kernel
theorem dX6_leads_112 : decode cX6_leads 112 = .ok (.invokevirtual 66, 3) := by decide +kernel
theorem dX6_leads_115 : decode cX6_leads 115 = .ok (.if_icmp .ne 7, 3) := by decide +kernel
theorem dX6_leads_118 : decode cX6_leads 118 = .ok (.iconst 1, 1) := by decide +kernel
theorem dX6_leads_119 : decode cX6_leads 119 = .ok (.goto 4, 3) := by decide +kernel
theorem dX6_leads_122 : decode cX6_leads 122 = .ok (.iconst 0, 1) := by decide +kernel
theorem dX6_leads_123 : decode cX6_leads 123 = .ok (.ireturn, 1) := by decide +kernel
theorem dX6_shortest_0 : decode cX6_shortest 0 = .ok (.iconst 1, 1) := by decide +kernel
theorem dX6_shortest_1 : decode cX6_shortest 1 = .ok (.istore_n 1, 1) := by decide +kernel
theorem dX6_shortest_2 : decode cX6_shortest 2 = .ok (.iconst 0, 1) := by decide +kernel
theorem dX6_shortest_3 : decode cX6_shortest 3 = .ok (.istore_n 2, 1) := by decide +kernel
theorem dX6_shortest_4 : decode cX6_shortest 4 = .ok (.iload_n 2, 1) := by decide +kernel
theorem dX6_shortest_5 : decode cX6_shortest 5 = .ok (.iconst 4, 1) := by decide +kernel
theorem dX6_shortest_6 : decode cX6_shortest 6 = .ok (.if_icmp .ge 42, 3) := by decide +kernel
theorem dX6_shortest_9 : decode cX6_shortest 9 = .ok (.iconst 0, 1) := by decide +kernel
theorem dX6_shortest_10 : decode cX6_shortest 10 = .ok (.istore_n 3, 1) := by decide +kernel
theorem dX6_shortest_11 : decode cX6_shortest 11 = .ok (.iload_n 3, 1) := by decide +kernel
theorem dX6_shortest_12 : decode cX6_shortest 12 = .ok (.iload_n 1, 1) := by decide +kernel
theorem dX6_shortest_13 : decode cX6_shortest 13 = .ok (.if_icmp .ge 20, 3) := by decide +kernel
theorem dX6_shortest_16 : decode cX6_shortest 16 = .ok (.aload_n 0, 1) := by decide +kernel
theorem dX6_shortest_17 : decode cX6_shortest 17 = .ok (.iload_n 3, 1) := by decide +kernel
theorem dX6_shortest_18 : decode cX6_shortest 18 = .ok (.iload_n 2, 1) := by decide +kernel
theorem dX6_shortest_19 : decode cX6_shortest 19 = .ok (.invokevirtual 167, 3) := by decide +kernel
theorem dX6_shortest_22 : decode cX6_shortest 22 = .ok (.ifCond .eq 5, 3) := by decide +kernel
theorem dX6_shortest_25 : decode cX6_shortest 25 = .ok (.iload_n 2, 1) := by decide +kernel
theorem dX6_shortest_26 : decode cX6_shortest 26 = .ok (.ireturn, 1) := by decide +kernel
theorem dX6_shortest_27 : decode cX6_shortest 27 = .ok (.iinc 3 1, 3) := by decide +kernel
theorem dX6_shortest_30 : decode cX6_shortest 30 = .ok (.goto (-19), 3) := by decide +kernel
theorem dX6_shortest_33 : decode cX6_shortest 33 = .ok (.iload_n 1, 1) := by decide +kernel
theorem dX6_shortest_34 : decode cX6_shortest 34 = .ok (.iconst 2, 1) := by decide +kernel
theorem dX6_shortest_35 : decode cX6_shortest 35 = .ok (.aload_n 0, 1) := by decide +kernel
theorem dX6_shortest_36 : decode cX6_shortest 36 = .ok (.invokevirtual 74, 3) := by decide +kernel
theorem dX6_shortest_39 : decode cX6_shortest 39 = .ok (.imul, 1) := by decide +kernel
theorem dX6_shortest_40 : decode cX6_shortest 40 = .ok (.imul, 1) := by decide +kernel
theorem dX6_shortest_41 : decode cX6_shortest 41 = .ok (.istore_n 1, 1) := by decide +kernel
theorem dX6_shortest_42 : decode cX6_shortest 42 = .ok (.iinc 2 1, 3) := by decide +kernel
theorem dX6_shortest_45 : decode cX6_shortest 45 = .ok (.goto (-41), 3) := by decide +kernel
theorem dX6_shortest_48 : decode cX6_shortest 48 = .ok (.iconst (-1), 1) := by decide +kernel
theorem dX6_shortest_49 : decode cX6_shortest 49 = .ok (.ireturn, 1) := by decide +kernel
theorem dX6_away_0 : decode cX6_away 0 = .ok (.aload_n 0, 1) := by decide +kernel
theorem dX6_away_1 : decode cX6_away 1 = .ok (.invokevirtual 171, 3) := by decide +kernel
theorem dX6_away_4 : decode cX6_away 4 = .ok (.istore_n 2, 1) := by decide +kernel
theorem dX6_away_5 : decode cX6_away 5 = .ok (.iload_n 2, 1) := by decide +kernel
theorem dX6_away_6 : decode cX6_away 6 = .ok (.iconst (-1), 1) := by decide +kernel
theorem dX6_away_7 : decode cX6_away 7 = .ok (.if_icmp .ne 11, 3) := by decide +kernel
theorem dX6_away_10 : decode cX6_away 10 = .ok (.aload_n 0, 1) := by decide +kernel
theorem dX6_away_11 : decode cX6_away 11 = .ok (.iconst 1, 1) := by decide +kernel
theorem dX6_away_12 : decode cX6_away 12 = .ok (.invokevirtual 77, 3) := by decide +kernel
theorem dX6_away_15 : decode cX6_away 15 = .ok (.goto 8, 3) := by decide +kernel
theorem dX6_away_18 : decode cX6_away 18 = .ok (.aload_n 0, 1) := by decide +kernel
theorem dX6_away_19 : decode cX6_away 19 = .ok (.iload_n 2, 1) := by decide +kernel
theorem dX6_away_20 : decode cX6_away 20 = .ok (.invokevirtual 81, 3) := by decide +kernel
theorem dX6_away_23 : decode cX6_away 23 = .ok (.ireturn, 1) := by decide +kernel
theorem dX6_firstTurn_0 : decode cX6_firstTurn 0 = .ok (.aload_n 0, 1) := by decide +kernel
theorem dX6_firstTurn_1 : decode cX6_firstTurn 1 = .ok (.invokevirtual 171, 3) := by decide +kernel
theorem dX6_firstTurn_4 : decode cX6_firstTurn 4 = .ok (.istore_n 1, 1) := by decide +kernel
theorem dX6_firstTurn_5 : decode cX6_firstTurn 5 = .ok (.iload_n 1, 1) := by decide +kernel
theorem dX6_firstTurn_6 : decode cX6_firstTurn 6 = .ok (.iconst 1, 1) := by decide +kernel
theorem dX6_firstTurn_7 : decode cX6_firstTurn 7 = .ok (.if_icmp .ge 11, 3) := by decide +kernel
theorem dX6_firstTurn_10 : decode cX6_firstTurn 10 = .ok (.aload_n 0, 1) := by decide +kernel
theorem dX6_firstTurn_11 : decode cX6_firstTurn 11 = .ok (.iconst 1, 1) := by decide +kernel
theorem dX6_firstTurn_12 : decode cX6_firstTurn 12 = .ok (.invokevirtual 77, 3) := by decide +kernel
theorem dX6_firstTurn_15 : decode cX6_firstTurn 15 = .ok (.goto 11, 3) := by decide +kernel
theorem dX6_firstTurn_18 : decode cX6_firstTurn 18 = .ok (.aload_n 0, 1) := by decide +kernel
theorem dX6_firstTurn_19 : decode cX6_firstTurn 19 = .ok (.aload_n 0, 1) := by decide +kernel
theorem dX6_firstTurn_20 : decode cX6_firstTurn 20 = .ok (.getfield 164, 3) := by decide +kernel
theorem dX6_firstTurn_23 : decode cX6_firstTurn 23 = .ok (.invokevirtual 81, 3) := by decide +kernel
theorem dX6_firstTurn_26 : decode cX6_firstTurn 26 = .ok (.ireturn, 1) := by decide +kernel
theorem dX6_timesOf_0 : decode cX6_timesOf 0 = .ok (.iconst 0, 1) := by decide +kernel
theorem dX6_timesOf_1 : decode cX6_timesOf 1 = .ok (.istore_n 3, 1) := by decide +kernel
theorem dX6_timesOf_2 : decode cX6_timesOf 2 = .ok (.iconst 0, 1) := by decide +kernel
theorem dX6_timesOf_3 : decode cX6_timesOf 3 = .ok (.istore 4, 2) := by decide +kernel
theorem dX6_timesOf_5 : decode cX6_timesOf 5 = .ok (.iload 4, 2) := by decide +kernel
theorem dX6_timesOf_7 : decode cX6_timesOf 7 = .ok (.aload_n 0, 1) := by decide +kernel
theorem dX6_timesOf_8 : decode cX6_timesOf 8 = .ok (.invokevirtual 66, 3) := by decide +kernel
theorem dX6_timesOf_11 : decode cX6_timesOf 11 = .ok (.if_icmp .ge 30, 3) := by decide +kernel
theorem dX6_timesOf_14 : decode cX6_timesOf 14 = .ok (.iload_n 3, 1) := by decide +kernel
theorem dX6_timesOf_15 : decode cX6_timesOf 15 = .ok (.aload_n 0, 1) := by decide +kernel
theorem dX6_timesOf_16 : decode cX6_timesOf 16 = .ok (.getfield 7, 3) := by decide +kernel
theorem dX6_timesOf_19 : decode cX6_timesOf 19 = .ok (.iload_n 1, 1) := by decide +kernel
theorem dX6_timesOf_20 : decode cX6_timesOf 20 = .ok (.iload 4, 2) := by decide +kernel
theorem dX6_timesOf_22 : decode cX6_timesOf 22 = .ok (.iadd, 1) := by decide +kernel
theorem dX6_timesOf_23 : decode cX6_timesOf 23 = .ok (.iaload, 1) := by decide +kernel
theorem dX6_timesOf_24 : decode cX6_timesOf 24 = .ok (.iload_n 2, 1) := by decide +kernel
theorem dX6_timesOf_25 : decode cX6_timesOf 25 = .ok (.if_icmp .ne 7, 3) := by decide +kernel
theorem dX6_timesOf_28 : decode cX6_timesOf 28 = .ok (.iconst 1, 1) := by decide +kernel
theorem dX6_timesOf_29 : decode cX6_timesOf 29 = .ok (.goto 4, 3) := by decide +kernel
theorem dX6_timesOf_32 : decode cX6_timesOf 32 = .ok (.iconst 0, 1) := by decide +kernel
theorem dX6_timesOf_33 : decode cX6_timesOf 33 = .ok (.iadd, 1) := by decide +kernel
theorem dX6_timesOf_34 : decode cX6_timesOf 34 = .ok (.istore_n 3, 1) := by decide +kernel
theorem dX6_timesOf_35 : decode cX6_timesOf 35 = .ok (.iinc 4 1, 3) := by decide +kernel
theorem dX6_timesOf_38 : decode cX6_timesOf 38 = .ok (.goto (-33), 3) := by decide +kernel
theorem dX6_timesOf_41 : decode cX6_timesOf 41 = .ok (.iload_n 3, 1) := by decide +kernel
theorem dX6_timesOf_42 : decode cX6_timesOf 42 = .ok (.ireturn, 1) := by decide +kernel
theorem dX6_lacksLetters_0 : decode cX6_lacksLetters 0 = .ok (.iconst 0, 1) := by decide +kernel
theorem dX6_lacksLetters_1 : decode cX6_lacksLetters 1 = .ok (.istore_n 1, 1) := by decide +kernel
theorem dX6_lacksLetters_2 : decode cX6_lacksLetters 2 = .ok (.iconst 0, 1) := by decide +kernel
theorem dX6_lacksLetters_3 : decode cX6_lacksLetters 3 = .ok (.istore_n 2, 1) := by decide +kernel
theorem dX6_lacksLetters_4 : decode cX6_lacksLetters 4 = .ok (.iload_n 2, 1) := by decide +kernel
theorem dX6_lacksLetters_5 : decode cX6_lacksLetters 5 = .ok (.bipush 12, 2) := by decide +kernel
theorem dX6_lacksLetters_7 : decode cX6_lacksLetters 7 = .ok (.if_icmp .ge 36, 3) := by decide +kernel
theorem dX6_lacksLetters_10 : decode cX6_lacksLetters 10 = .ok (.iload_n 1, 1) := by decide +kernel
theorem dX6_lacksLetters_11 : decode cX6_lacksLetters 11 = .ok (.ifCond .ne 20, 3) := by decide +kernel
theorem dX6_lacksLetters_14 : decode cX6_lacksLetters 14 = .ok (.aload_n 0, 1) := by decide +kernel
theorem dX6_lacksLetters_15 : decode cX6_lacksLetters 15 = .ok (.bipush 23, 2) := by decide +kernel
theorem dX6_lacksLetters_17 : decode cX6_lacksLetters 17 = .ok (.iload_n 2, 1) := by decide +kernel
theorem dX6_lacksLetters_18 : decode cX6_lacksLetters 18 = .ok (.invokevirtual 174, 3) := by decide +kernel
theorem dX6_lacksLetters_21 : decode cX6_lacksLetters 21 = .ok (.aload_n 0, 1) := by decide +kernel
theorem dX6_lacksLetters_22 : decode cX6_lacksLetters 22 = .ok (.bipush 14, 2) := by decide +kernel
theorem dX6_lacksLetters_24 : decode cX6_lacksLetters 24 = .ok (.iload_n 2, 1) := by decide +kernel
theorem dX6_lacksLetters_25 : decode cX6_lacksLetters 25 = .ok (.invokevirtual 174, 3) := by decide +kernel
theorem dX6_lacksLetters_28 : decode cX6_lacksLetters 28 = .ok (.if_icmp .le 7, 3) := by decide +kernel
theorem dX6_lacksLetters_31 : decode cX6_lacksLetters 31 = .ok (.iconst 1, 1) := by decide +kernel
theorem dX6_lacksLetters_32 : decode cX6_lacksLetters 32 = .ok (.goto 4, 3) := by decide +kernel
theorem dX6_lacksLetters_35 : decode cX6_lacksLetters 35 = .ok (.iconst 0, 1) := by decide +kernel
theorem dX6_lacksLetters_36 : decode cX6_lacksLetters 36 = .ok (.istore_n 1, 1) := by decide +kernel
theorem dX6_lacksLetters_37 : decode cX6_lacksLetters 37 = .ok (.iinc 2 1, 3) := by decide +kernel
theorem dX6_lacksLetters_40 : decode cX6_lacksLetters 40 = .ok (.goto (-36), 3) := by decide +kernel
theorem dX6_lacksLetters_43 : decode cX6_lacksLetters 43 = .ok (.iload_n 1, 1) := by decide +kernel
theorem dX6_lacksLetters_44 : decode cX6_lacksLetters 44 = .ok (.ireturn, 1) := by decide +kernel
theorem dX6_unlike_0 : decode cX6_unlike 0 = .ok (.iconst 0, 1) := by decide +kernel
theorem dX6_unlike_1 : decode cX6_unlike 1 = .ok (.istore_n 1, 1) := by decide +kernel
theorem dX6_unlike_2 : decode cX6_unlike 2 = .ok (.iconst 0, 1) := by decide +kernel
theorem dX6_unlike_3 : decode cX6_unlike 3 = .ok (.istore_n 2, 1) := by decide +kernel
theorem dX6_unlike_4 : decode cX6_unlike 4 = .ok (.iload_n 2, 1) := by decide +kernel
theorem dX6_unlike_5 : decode cX6_unlike 5 = .ok (.bipush 12, 2) := by decide +kernel
theorem dX6_unlike_7 : decode cX6_unlike 7 = .ok (.if_icmp .ge 27, 3) := by decide +kernel
theorem dX6_unlike_10 : decode cX6_unlike 10 = .ok (.iload_n 1, 1) := by decide +kernel
theorem dX6_unlike_11 : decode cX6_unlike 11 = .ok (.aload_n 0, 1) := by decide +kernel
theorem dX6_unlike_12 : decode cX6_unlike 12 = .ok (.bipush 14, 2) := by decide +kernel
theorem dX6_unlike_14 : decode cX6_unlike 14 = .ok (.iload_n 2, 1) := by decide +kernel
theorem dX6_unlike_15 : decode cX6_unlike 15 = .ok (.invokevirtual 174, 3) := by decide +kernel
theorem dX6_unlike_18 : decode cX6_unlike 18 = .ok (.ifCond .le 7, 3) := by decide +kernel
theorem dX6_unlike_21 : decode cX6_unlike 21 = .ok (.iconst 1, 1) := by decide +kernel
theorem dX6_unlike_22 : decode cX6_unlike 22 = .ok (.goto 4, 3) := by decide +kernel
theorem dX6_unlike_25 : decode cX6_unlike 25 = .ok (.iconst 0, 1) := by decide +kernel
theorem dX6_unlike_26 : decode cX6_unlike 26 = .ok (.iadd, 1) := by decide +kernel
theorem dX6_unlike_27 : decode cX6_unlike 27 = .ok (.istore_n 1, 1) := by decide +kernel
theorem dX6_unlike_28 : decode cX6_unlike 28 = .ok (.iinc 2 1, 3) := by decide +kernel
theorem dX6_unlike_31 : decode cX6_unlike 31 = .ok (.goto (-27), 3) := by decide +kernel
theorem dX6_unlike_34 : decode cX6_unlike 34 = .ok (.iload_n 1, 1) := by decide +kernel
theorem dX6_unlike_35 : decode cX6_unlike 35 = .ok (.ireturn, 1) := by decide +kernel
theorem dX6_swapsAreOdd_0 : decode cX6_swapsAreOdd 0 = .ok (.iconst 0, 1) := by decide +kernel
theorem dX6_swapsAreOdd_1 : decode cX6_swapsAreOdd 1 = .ok (.istore_n 1, 1) := by decide +kernel
theorem dX6_swapsAreOdd_2 : decode cX6_swapsAreOdd 2 = .ok (.iload_n 1, 1) := by decide +kernel
theorem dX6_swapsAreOdd_3 : decode cX6_swapsAreOdd 3 = .ok (.aload_n 0, 1) := by decide +kernel
theorem dX6_swapsAreOdd_4 : decode cX6_swapsAreOdd 4 = .ok (.invokevirtual 66, 3) := by decide +kernel
theorem dX6_swapsAreOdd_7 : decode cX6_swapsAreOdd 7 = .ok (.if_icmp .ge 110, 3) := by decide +kernel
theorem dX6_swapsAreOdd_10 : decode cX6_swapsAreOdd 10 = .ok (.aload_n 0, 1) := by decide +kernel
theorem dX6_swapsAreOdd_11 : decode cX6_swapsAreOdd 11 = .ok (.getfield 7, 3) := by decide +kernel
theorem dX6_swapsAreOdd_14 : decode cX6_swapsAreOdd 14 = .ok (.bipush 23, 2) := by decide +kernel
theorem dX6_swapsAreOdd_16 : decode cX6_swapsAreOdd 16 = .ok (.iload_n 1, 1) := by decide +kernel
theorem dX6_swapsAreOdd_17 : decode cX6_swapsAreOdd 17 = .ok (.iadd, 1) := by decide +kernel
theorem dX6_swapsAreOdd_18 : decode cX6_swapsAreOdd 18 = .ok (.iaload, 1) := by decide +kernel
theorem dX6_swapsAreOdd_19 : decode cX6_swapsAreOdd 19 = .ok (.istore_n 2, 1) := by decide +kernel
theorem dX6_swapsAreOdd_20 : decode cX6_swapsAreOdd 20 = .ok (.iconst 0, 1) := by decide +kernel
theorem dX6_swapsAreOdd_21 : decode cX6_swapsAreOdd 21 = .ok (.istore_n 3, 1) := by decide +kernel
theorem dX6_swapsAreOdd_22 : decode cX6_swapsAreOdd 22 = .ok (.iload_n 3, 1) := by decide +kernel
theorem dX6_swapsAreOdd_23 : decode cX6_swapsAreOdd 23 = .ok (.bipush 12, 2) := by decide +kernel
theorem dX6_swapsAreOdd_25 : decode cX6_swapsAreOdd 25 = .ok (.if_icmp .ge 41, 3) := by decide +kernel
theorem dX6_swapsAreOdd_28 : decode cX6_swapsAreOdd 28 = .ok (.iload_n 2, 1) := by decide +kernel
theorem dX6_swapsAreOdd_29 : decode cX6_swapsAreOdd 29 = .ok (.iconst (-1), 1) := by decide +kernel
theorem dX6_swapsAreOdd_30 : decode cX6_swapsAreOdd 30 = .ok (.if_icmp .ne 36, 3) := by decide +kernel
theorem dX6_swapsAreOdd_33 : decode cX6_swapsAreOdd 33 = .ok (.aload_n 0, 1) := by decide +kernel
theorem dX6_swapsAreOdd_34 : decode cX6_swapsAreOdd 34 = .ok (.bipush 14, 2) := by decide +kernel
theorem dX6_swapsAreOdd_36 : decode cX6_swapsAreOdd 36 = .ok (.iload_n 3, 1) := by decide +kernel
theorem dX6_swapsAreOdd_37 : decode cX6_swapsAreOdd 37 = .ok (.invokevirtual 174, 3) := by decide +kernel
theorem dX6_swapsAreOdd_40 : decode cX6_swapsAreOdd 40 = .ok (.iconst 1, 1) := by decide +kernel
theorem dX6_swapsAreOdd_41 : decode cX6_swapsAreOdd 41 = .ok (.if_icmp .ne 17, 3) := by decide +kernel
theorem dX6_swapsAreOdd_44 : decode cX6_swapsAreOdd 44 = .ok (.aload_n 0, 1) := by decide +kernel
theorem dX6_swapsAreOdd_45 : decode cX6_swapsAreOdd 45 = .ok (.bipush 23, 2) := by decide +kernel
theorem dX6_swapsAreOdd_47 : decode cX6_swapsAreOdd 47 = .ok (.iload_n 3, 1) := by decide +kernel
theorem dX6_swapsAreOdd_48 : decode cX6_swapsAreOdd 48 = .ok (.invokevirtual 174, 3) := by decide +kernel
theorem dX6_swapsAreOdd_51 : decode cX6_swapsAreOdd 51 = .ok (.ifCond .ne 7, 3) := by decide +kernel
theorem dX6_swapsAreOdd_54 : decode cX6_swapsAreOdd 54 = .ok (.iload_n 3, 1) := by decide +kernel
theorem dX6_swapsAreOdd_55 : decode cX6_swapsAreOdd 55 = .ok (.goto 4, 3) := by decide +kernel
theorem dX6_swapsAreOdd_58 : decode cX6_swapsAreOdd 58 = .ok (.iconst (-1), 1) := by decide +kernel
theorem dX6_swapsAreOdd_59 : decode cX6_swapsAreOdd 59 = .ok (.istore_n 2, 1) := by decide +kernel
theorem dX6_swapsAreOdd_60 : decode cX6_swapsAreOdd 60 = .ok (.iinc 3 1, 3) := by decide +kernel
theorem dX6_swapsAreOdd_63 : decode cX6_swapsAreOdd 63 = .ok (.goto (-41), 3) := by decide +kernel
theorem dX6_swapsAreOdd_66 : decode cX6_swapsAreOdd 66 = .ok (.iconst 0, 1) := by decide +kernel
theorem dX6_swapsAreOdd_67 : decode cX6_swapsAreOdd 67 = .ok (.istore_n 3, 1) := by decide +kernel
theorem dX6_swapsAreOdd_68 : decode cX6_swapsAreOdd 68 = .ok (.iload_n 3, 1) := by decide +kernel
theorem dX6_swapsAreOdd_69 : decode cX6_swapsAreOdd 69 = .ok (.aload_n 0, 1) := by decide +kernel
theorem dX6_swapsAreOdd_70 : decode cX6_swapsAreOdd 70 = .ok (.invokevirtual 66, 3) := by decide +kernel
theorem dX6_swapsAreOdd_73 : decode cX6_swapsAreOdd 73 = .ok (.if_icmp .ge 38, 3) := by decide +kernel
theorem dX6_swapsAreOdd_76 : decode cX6_swapsAreOdd 76 = .ok (.aload_n 0, 1) := by decide +kernel
theorem dX6_swapsAreOdd_77 : decode cX6_swapsAreOdd 77 = .ok (.getfield 36, 3) := by decide +kernel
theorem dX6_swapsAreOdd_80 : decode cX6_swapsAreOdd 80 = .ok (.iload_n 1, 1) := by decide +kernel
theorem dX6_swapsAreOdd_81 : decode cX6_swapsAreOdd 81 = .ok (.aload_n 0, 1) := by decide +kernel
theorem dX6_swapsAreOdd_82 : decode cX6_swapsAreOdd 82 = .ok (.getfield 7, 3) := by decide +kernel
theorem dX6_swapsAreOdd_85 : decode cX6_swapsAreOdd 85 = .ok (.bipush 14, 2) := by decide +kernel
theorem dX6_swapsAreOdd_87 : decode cX6_swapsAreOdd 87 = .ok (.iload_n 3, 1) := by decide +kernel
theorem dX6_swapsAreOdd_88 : decode cX6_swapsAreOdd 88 = .ok (.iadd, 1) := by decide +kernel
theorem dX6_swapsAreOdd_89 : decode cX6_swapsAreOdd 89 = .ok (.iaload, 1) := by decide +kernel
theorem dX6_swapsAreOdd_90 : decode cX6_swapsAreOdd 90 = .ok (.iload_n 2, 1) := by decide +kernel
theorem dX6_swapsAreOdd_91 : decode cX6_swapsAreOdd 91 = .ok (.if_icmp .ne 7, 3) := by decide +kernel
theorem dX6_swapsAreOdd_94 : decode cX6_swapsAreOdd 94 = .ok (.iload_n 3, 1) := by decide +kernel
theorem dX6_swapsAreOdd_95 : decode cX6_swapsAreOdd 95 = .ok (.goto 9, 3) := by decide +kernel
theorem dX6_swapsAreOdd_98 : decode cX6_swapsAreOdd 98 = .ok (.aload_n 0, 1) := by decide +kernel
theorem dX6_swapsAreOdd_99 : decode cX6_swapsAreOdd 99 = .ok (.getfield 36, 3) := by decide +kernel
theorem dX6_swapsAreOdd_102 : decode cX6_swapsAreOdd 102 = .ok (.iload_n 1, 1) := by decide +kernel
theorem dX6_swapsAreOdd_103 : decode cX6_swapsAreOdd 103 = .ok (.iaload, 1) := by decide +kernel
theorem dX6_swapsAreOdd_104 : decode cX6_swapsAreOdd 104 = .ok (.iastore, 1) := by decide +kernel
theorem dX6_swapsAreOdd_105 : decode cX6_swapsAreOdd 105 = .ok (.iinc 3 1, 3) := by decide +kernel
theorem dX6_swapsAreOdd_108 : decode cX6_swapsAreOdd 108 = .ok (.goto (-40), 3) := by decide +kernel
theorem dX6_swapsAreOdd_111 : decode cX6_swapsAreOdd 111 = .ok (.iinc 1 1, 3) := by decide +kernel
theorem dX6_swapsAreOdd_114 : decode cX6_swapsAreOdd 114 = .ok (.goto (-112), 3) := by decide +kernel
theorem dX6_swapsAreOdd_117 : decode cX6_swapsAreOdd 117 = .ok (.iconst 0, 1) := by decide +kernel
theorem dX6_swapsAreOdd_118 : decode cX6_swapsAreOdd 118 = .ok (.istore_n 1, 1) := by decide +kernel
theorem dX6_swapsAreOdd_119 : decode cX6_swapsAreOdd 119 = .ok (.iconst 0, 1) := by decide +kernel
theorem dX6_swapsAreOdd_120 : decode cX6_swapsAreOdd 120 = .ok (.istore_n 2, 1) := by decide +kernel
theorem dX6_swapsAreOdd_121 : decode cX6_swapsAreOdd 121 = .ok (.iload_n 2, 1) := by decide +kernel
theorem dX6_swapsAreOdd_122 : decode cX6_swapsAreOdd 122 = .ok (.aload_n 0, 1) := by decide +kernel
theorem dX6_swapsAreOdd_123 : decode cX6_swapsAreOdd 123 = .ok (.invokevirtual 66, 3) := by decide +kernel
theorem dX6_swapsAreOdd_126 : decode cX6_swapsAreOdd 126 = .ok (.if_icmp .ge 51, 3) := by decide +kernel
theorem dX6_swapsAreOdd_129 : decode cX6_swapsAreOdd 129 = .ok (.iconst 0, 1) := by decide +kernel
theorem dX6_swapsAreOdd_130 : decode cX6_swapsAreOdd 130 = .ok (.istore_n 3, 1) := by decide +kernel
theorem dX6_swapsAreOdd_131 : decode cX6_swapsAreOdd 131 = .ok (.iload_n 3, 1) := by decide +kernel
theorem dX6_swapsAreOdd_132 : decode cX6_swapsAreOdd 132 = .ok (.iload_n 2, 1) := by decide +kernel
theorem dX6_swapsAreOdd_133 : decode cX6_swapsAreOdd 133 = .ok (.if_icmp .ge 38, 3) := by decide +kernel
theorem dX6_swapsAreOdd_136 : decode cX6_swapsAreOdd 136 = .ok (.aload_n 0, 1) := by decide +kernel
theorem dX6_swapsAreOdd_137 : decode cX6_swapsAreOdd 137 = .ok (.getfield 36, 3) := by decide +kernel
theorem dX6_swapsAreOdd_140 : decode cX6_swapsAreOdd 140 = .ok (.iload_n 3, 1) := by decide +kernel
theorem dX6_swapsAreOdd_141 : decode cX6_swapsAreOdd 141 = .ok (.iaload, 1) := by decide +kernel
theorem dX6_swapsAreOdd_142 : decode cX6_swapsAreOdd 142 = .ok (.aload_n 0, 1) := by decide +kernel
theorem dX6_swapsAreOdd_143 : decode cX6_swapsAreOdd 143 = .ok (.getfield 36, 3) := by decide +kernel
theorem dX6_swapsAreOdd_146 : decode cX6_swapsAreOdd 146 = .ok (.iload_n 2, 1) := by decide +kernel
theorem dX6_swapsAreOdd_147 : decode cX6_swapsAreOdd 147 = .ok (.iaload, 1) := by decide +kernel
theorem dX6_swapsAreOdd_148 : decode cX6_swapsAreOdd 148 = .ok (.if_icmp .le 15, 3) := by decide +kernel
theorem dX6_swapsAreOdd_151 : decode cX6_swapsAreOdd 151 = .ok (.iload_n 1, 1) := by decide +kernel
theorem dX6_swapsAreOdd_152 : decode cX6_swapsAreOdd 152 = .ok (.ifCond .ne 7, 3) := by decide +kernel
theorem dX6_swapsAreOdd_155 : decode cX6_swapsAreOdd 155 = .ok (.iconst 1, 1) := by decide +kernel
theorem dX6_swapsAreOdd_156 : decode cX6_swapsAreOdd 156 = .ok (.goto 8, 3) := by decide +kernel
theorem dX6_swapsAreOdd_159 : decode cX6_swapsAreOdd 159 = .ok (.iconst 0, 1) := by decide +kernel
theorem dX6_swapsAreOdd_160 : decode cX6_swapsAreOdd 160 = .ok (.goto 4, 3) := by decide +kernel
theorem dX6_swapsAreOdd_163 : decode cX6_swapsAreOdd 163 = .ok (.iload_n 1, 1) := by decide +kernel
theorem dX6_swapsAreOdd_164 : decode cX6_swapsAreOdd 164 = .ok (.istore_n 1, 1) := by decide +kernel
theorem dX6_swapsAreOdd_165 : decode cX6_swapsAreOdd 165 = .ok (.iinc 3 1, 3) := by decide +kernel
theorem dX6_swapsAreOdd_168 : decode cX6_swapsAreOdd 168 = .ok (.goto (-37), 3) := by decide +kernel
theorem dX6_swapsAreOdd_171 : decode cX6_swapsAreOdd 171 = .ok (.iinc 2 1, 3) := by decide +kernel
theorem dX6_swapsAreOdd_174 : decode cX6_swapsAreOdd 174 = .ok (.goto (-53), 3) := by decide +kernel
theorem dX6_swapsAreOdd_177 : decode cX6_swapsAreOdd 177 = .ok (.iload_n 1, 1) := by decide +kernel
theorem dX6_swapsAreOdd_178 : decode cX6_swapsAreOdd 178 = .ok (.ireturn, 1) := by decide +kernel
theorem dX6_isOutOfReach_0 : decode cX6_isOutOfReach 0 = .ok (.aload_n 0, 1) := by decide +kernel
theorem dX6_isOutOfReach_1 : decode cX6_isOutOfReach 1 = .ok (.invokevirtual 177, 3) := by decide +kernel
theorem dX6_isOutOfReach_4 : decode cX6_isOutOfReach 4 = .ok (.ifCond .eq 5, 3) := by decide +kernel
theorem dX6_isOutOfReach_7 : decode cX6_isOutOfReach 7 = .ok (.iconst 1, 1) := by decide +kernel
theorem dX6_isOutOfReach_8 : decode cX6_isOutOfReach 8 = .ok (.ireturn, 1) := by decide +kernel
theorem dX6_isOutOfReach_9 : decode cX6_isOutOfReach 9 = .ok (.aload_n 0, 1) := by decide +kernel
theorem dX6_isOutOfReach_10 : decode cX6_isOutOfReach 10 = .ok (.invokevirtual 66, 3) := by decide +kernel
theorem dX6_isOutOfReach_13 : decode cX6_isOutOfReach 13 = .ok (.bipush 9, 2) := by decide +kernel
theorem dX6_isOutOfReach_15 : decode cX6_isOutOfReach 15 = .ok (.if_icmp .ne 27, 3) := by decide +kernel
theorem dX6_isOutOfReach_18 : decode cX6_isOutOfReach 18 = .ok (.aload_n 0, 1) := by decide +kernel
theorem dX6_isOutOfReach_19 : decode cX6_isOutOfReach 19 = .ok (.invokevirtual 181, 3) := by decide +kernel
theorem dX6_isOutOfReach_22 : decode cX6_isOutOfReach 22 = .ok (.bipush 9, 2) := by decide +kernel
theorem dX6_isOutOfReach_24 : decode cX6_isOutOfReach 24 = .ok (.if_icmp .ne 18, 3) := by decide +kernel
theorem dX6_isOutOfReach_27 : decode cX6_isOutOfReach 27 = .ok (.aload_n 0, 1) := by decide +kernel
theorem dX6_isOutOfReach_28 : decode cX6_isOutOfReach 28 = .ok (.bipush 23, 2) := by decide +kernel
theorem dX6_isOutOfReach_30 : decode cX6_isOutOfReach 30 = .ok (.iconst (-1), 1) := by decide +kernel
theorem dX6_isOutOfReach_31 : decode cX6_isOutOfReach 31 = .ok (.invokevirtual 174, 3) := by decide +kernel
theorem dX6_isOutOfReach_34 : decode cX6_isOutOfReach 34 = .ok (.iconst 2, 1) := by decide +kernel
theorem dX6_isOutOfReach_35 : decode cX6_isOutOfReach 35 = .ok (.if_icmp .ge 7, 3) := by decide +kernel
theorem dX6_isOutOfReach_38 : decode cX6_isOutOfReach 38 = .ok (.iconst 1, 1) := by decide +kernel
theorem dX6_isOutOfReach_39 : decode cX6_isOutOfReach 39 = .ok (.goto 4, 3) := by decide +kernel
theorem dX6_isOutOfReach_42 : decode cX6_isOutOfReach 42 = .ok (.iconst 0, 1) := by decide +kernel
theorem dX6_isOutOfReach_43 : decode cX6_isOutOfReach 43 = .ok (.istore_n 1, 1) := by decide +kernel
theorem dX6_isOutOfReach_44 : decode cX6_isOutOfReach 44 = .ok (.iload_n 1, 1) := by decide +kernel
theorem dX6_isOutOfReach_45 : decode cX6_isOutOfReach 45 = .ok (.ifCond .eq 14, 3) := by decide +kernel
theorem dX6_isOutOfReach_48 : decode cX6_isOutOfReach 48 = .ok (.aload_n 0, 1) := by decide +kernel
theorem dX6_isOutOfReach_49 : decode cX6_isOutOfReach 49 = .ok (.invokevirtual 184, 3) := by decide +kernel
theorem dX6_isOutOfReach_52 : decode cX6_isOutOfReach 52 = .ok (.ifCond .eq 7, 3) := by decide +kernel
theorem dX6_isOutOfReach_55 : decode cX6_isOutOfReach 55 = .ok (.iconst 1, 1) := by decide +kernel
theorem dX6_isOutOfReach_56 : decode cX6_isOutOfReach 56 = .ok (.goto 4, 3) := by decide +kernel
theorem dX6_isOutOfReach_59 : decode cX6_isOutOfReach 59 = .ok (.iconst 0, 1) := by decide +kernel
theorem dX6_isOutOfReach_60 : decode cX6_isOutOfReach 60 = .ok (.ireturn, 1) := by decide +kernel
theorem dX6_isOut_0 : decode cX6_isOut 0 = .ok (.aload_n 0, 1) := by decide +kernel
theorem dX6_isOut_1 : decode cX6_isOut 1 = .ok (.iconst 0, 1) := by decide +kernel
theorem dX6_isOut_2 : decode cX6_isOut 2 = .ok (.putfield 46, 3) := by decide +kernel
theorem dX6_isOut_5 : decode cX6_isOut 5 = .ok (.aload_n 0, 1) := by decide +kernel
theorem dX6_isOut_6 : decode cX6_isOut 6 = .ok (.invokevirtual 187, 3) := by decide +kernel
theorem dX6_isOut_9 : decode cX6_isOut 9 = .ok (.ireturn, 1) := by decide +kernel
theorem dX6_isOdd_0 : decode cX6_isOdd 0 = .ok (.aload_n 0, 1) := by decide +kernel
theorem dX6_isOdd_1 : decode cX6_isOdd 1 = .ok (.invokevirtual 181, 3) := by decide +kernel
theorem dX6_isOdd_4 : decode cX6_isOdd 4 = .ok (.aload_n 0, 1) := by decide +kernel
theorem dX6_isOdd_5 : decode cX6_isOdd 5 = .ok (.invokevirtual 66, 3) := by decide +kernel
theorem dX6_isOdd_8 : decode cX6_isOdd 8 = .ok (.if_icmp .ne 24, 3) := by decide +kernel
theorem dX6_isOdd_11 : decode cX6_isOdd 11 = .ok (.aload_n 0, 1) := by decide +kernel
theorem dX6_isOdd_12 : decode cX6_isOdd 12 = .ok (.invokevirtual 177, 3) := by decide +kernel
theorem dX6_isOdd_15 : decode cX6_isOdd 15 = .ok (.ifCond .ne 17, 3) := by decide +kernel
theorem dX6_isOdd_18 : decode cX6_isOdd 18 = .ok (.aload_n 0, 1) := by decide +kernel
theorem dX6_isOdd_19 : decode cX6_isOdd 19 = .ok (.bipush 23, 2) := by decide +kernel
theorem dX6_isOdd_21 : decode cX6_isOdd 21 = .ok (.iconst (-1), 1) := by decide +kernel
theorem dX6_isOdd_22 : decode cX6_isOdd 22 = .ok (.invokevirtual 174, 3) := by decide +kernel
theorem dX6_isOdd_25 : decode cX6_isOdd 25 = .ok (.ifCond .ne 7, 3) := by decide +kernel
theorem dX6_isOdd_28 : decode cX6_isOdd 28 = .ok (.iconst 1, 1) := by decide +kernel
theorem dX6_isOdd_29 : decode cX6_isOdd 29 = .ok (.goto 4, 3) := by decide +kernel
theorem dX6_isOdd_32 : decode cX6_isOdd 32 = .ok (.iconst 0, 1) := by decide +kernel
theorem dX6_isOdd_33 : decode cX6_isOdd 33 = .ok (.istore_n 2, 1) := by decide +kernel
theorem dX6_isOdd_34 : decode cX6_isOdd 34 = .ok (.aload_n 0, 1) := by decide +kernel
theorem dX6_isOdd_35 : decode cX6_isOdd 35 = .ok (.iload_n 2, 1) := by decide +kernel
theorem dX6_isOdd_36 : decode cX6_isOdd 36 = .ok (.ifCond .eq 7, 3) := by decide +kernel
theorem dX6_isOdd_39 : decode cX6_isOdd 39 = .ok (.iconst 0, 1) := by decide +kernel
theorem dX6_isOdd_40 : decode cX6_isOdd 40 = .ok (.goto 4, 3) := by decide +kernel
theorem dX6_isOdd_43 : decode cX6_isOdd 43 = .ok (.iconst 1, 1) := by decide +kernel
theorem dX6_isOdd_44 : decode cX6_isOdd 44 = .ok (.putfield 46, 3) := by decide +kernel
theorem dX6_isOdd_47 : decode cX6_isOdd 47 = .ok (.iload_n 2, 1) := by decide +kernel
theorem dX6_isOdd_48 : decode cX6_isOdd 48 = .ok (.ifCond .eq 14, 3) := by decide +kernel
theorem dX6_isOdd_51 : decode cX6_isOdd 51 = .ok (.aload_n 0, 1) := by decide +kernel
theorem dX6_isOdd_52 : decode cX6_isOdd 52 = .ok (.invokevirtual 184, 3) := by decide +kernel
theorem dX6_isOdd_55 : decode cX6_isOdd 55 = .ok (.ifCond .eq 7, 3) := by decide +kernel
theorem dX6_isOdd_58 : decode cX6_isOdd 58 = .ok (.iconst 1, 1) := by decide +kernel
theorem dX6_isOdd_59 : decode cX6_isOdd 59 = .ok (.goto 4, 3) := by decide +kernel
theorem dX6_isOdd_62 : decode cX6_isOdd 62 = .ok (.iconst 0, 1) := by decide +kernel
theorem dX6_isOdd_63 : decode cX6_isOdd 63 = .ok (.ireturn, 1) := by decide +kernel
theorem dX6_steps_0 : decode cX6_steps 0 = .ok (.aload_n 0, 1) := by decide +kernel
theorem dX6_steps_1 : decode cX6_steps 1 = .ok (.invokevirtual 134, 3) := by decide +kernel
theorem dX6_steps_4 : decode cX6_steps 4 = .ok (.istore_n 1, 1) := by decide +kernel
theorem dX6_steps_5 : decode cX6_steps 5 = .ok (.iload_n 1, 1) := by decide +kernel
theorem dX6_steps_6 : decode cX6_steps 6 = .ok (.aload_n 0, 1) := by decide +kernel
theorem dX6_steps_7 : decode cX6_steps 7 = .ok (.invokevirtual 66, 3) := by decide +kernel
theorem dX6_steps_10 : decode cX6_steps 10 = .ok (.if_icmp .ne 14, 3) := by decide +kernel
theorem dX6_steps_13 : decode cX6_steps 13 = .ok (.aload_n 0, 1) := by decide +kernel
theorem dX6_steps_14 : decode cX6_steps 14 = .ok (.iconst 5, 1) := by decide +kernel
theorem dX6_steps_15 : decode cX6_steps 15 = .ok (.aload_n 0, 1) := by decide +kernel
theorem dX6_steps_16 : decode cX6_steps 16 = .ok (.invokevirtual 66, 3) := by decide +kernel
theorem dX6_steps_19 : decode cX6_steps 19 = .ok (.iconst 1, 1) := by decide +kernel
theorem dX6_steps_20 : decode cX6_steps 20 = .ok (.invokevirtual 94, 3) := by decide +kernel
theorem dX6_steps_23 : decode cX6_steps 23 = .ok (.ireturn, 1) := by decide +kernel
theorem dX6_steps_24 : decode cX6_steps 24 = .ok (.aload_n 0, 1) := by decide +kernel
theorem dX6_steps_25 : decode cX6_steps 25 = .ok (.invokevirtual 187, 3) := by decide +kernel
theorem dX6_steps_28 : decode cX6_steps 28 = .ok (.ifCond .eq 16, 3) := by decide +kernel
theorem dX6_steps_31 : decode cX6_steps 31 = .ok (.aload_n 0, 1) := by decide +kernel
theorem dX6_steps_32 : decode cX6_steps 32 = .ok (.iconst 4, 1) := by decide +kernel
theorem dX6_steps_33 : decode cX6_steps 33 = .ok (.aload_n 0, 1) := by decide +kernel
theorem dX6_steps_34 : decode cX6_steps 34 = .ok (.invokevirtual 66, 3) := by decide +kernel
theorem dX6_steps_37 : decode cX6_steps 37 = .ok (.iload_n 1, 1) := by decide +kernel
theorem dX6_steps_38 : decode cX6_steps 38 = .ok (.isub, 1) := by decide +kernel
theorem dX6_steps_39 : decode cX6_steps 39 = .ok (.iconst 1, 1) := by decide +kernel
theorem dX6_steps_40 : decode cX6_steps 40 = .ok (.invokevirtual 94, 3) := by decide +kernel
theorem dX6_steps_43 : decode cX6_steps 43 = .ok (.ireturn, 1) := by decide +kernel
theorem dX6_steps_44 : decode cX6_steps 44 = .ok (.aload_n 0, 1) := by decide +kernel
theorem dX6_steps_45 : decode cX6_steps 45 = .ok (.invokevirtual 171, 3) := by decide +kernel
theorem dX6_steps_48 : decode cX6_steps 48 = .ok (.iconst (-1), 1) := by decide +kernel
theorem dX6_steps_49 : decode cX6_steps 49 = .ok (.if_icmp .ne 9, 3) := by decide +kernel
theorem dX6_steps_52 : decode cX6_steps 52 = .ok (.aload_n 0, 1) := by decide +kernel
theorem dX6_steps_53 : decode cX6_steps 53 = .ok (.iconst 2, 1) := by decide +kernel
theorem dX6_steps_54 : decode cX6_steps 54 = .ok (.invokevirtual 77, 3) := by decide +kernel
theorem dX6_steps_57 : decode cX6_steps 57 = .ok (.ireturn, 1) := by decide +kernel
theorem dX6_steps_58 : decode cX6_steps 58 = .ok (.aload_n 0, 1) := by decide +kernel
theorem dX6_steps_59 : decode cX6_steps 59 = .ok (.getfield 164, 3) := by decide +kernel
theorem dX6_steps_62 : decode cX6_steps 62 = .ok (.istore_n 2, 1) := by decide +kernel
theorem dX6_steps_63 : decode cX6_steps 63 = .ok (.aload_n 0, 1) := by decide +kernel
theorem dX6_steps_64 : decode cX6_steps 64 = .ok (.iload_n 2, 1) := by decide +kernel
theorem dX6_steps_65 : decode cX6_steps 65 = .ok (.invokevirtual 146, 3) := by decide +kernel
theorem dX6_steps_68 : decode cX6_steps 68 = .ok (.istore_n 1, 1) := by decide +kernel
theorem dX6_steps_69 : decode cX6_steps 69 = .ok (.aload_n 0, 1) := by decide +kernel
theorem dX6_steps_70 : decode cX6_steps 70 = .ok (.getfield 7, 3) := by decide +kernel
theorem dX6_steps_73 : decode cX6_steps 73 = .ok (.iconst 5, 1) := by decide +kernel
theorem dX6_steps_74 : decode cX6_steps 74 = .ok (.dup2, 1) := by decide +kernel
theorem dX6_steps_75 : decode cX6_steps 75 = .ok (.iaload, 1) := by decide +kernel
theorem dX6_steps_76 : decode cX6_steps 76 = .ok (.iconst 1, 1) := by decide +kernel
theorem dX6_steps_77 : decode cX6_steps 77 = .ok (.iadd, 1) := by decide +kernel
theorem dX6_steps_78 : decode cX6_steps 78 = .ok (.iastore, 1) := by decide +kernel
theorem dX6_steps_79 : decode cX6_steps 79 = .ok (.aload_n 0, 1) := by decide +kernel
theorem dX6_steps_80 : decode cX6_steps 80 = .ok (.iload_n 2, 1) := by decide +kernel
theorem dX6_steps_81 : decode cX6_steps 81 = .ok (.invokevirtual 81, 3) := by decide +kernel
theorem dX6_steps_84 : decode cX6_steps 84 = .ok (.ireturn, 1) := by decide +kernel
theorem dX6_step_0 : decode cX6_step 0 = .ok (.aload_n 0, 1) := by decide +kernel
theorem dX6_step_1 : decode cX6_step 1 = .ok (.invokevirtual 84, 3) := by decide +kernel
theorem dX6_step_4 : decode cX6_step 4 = .ok (.aload_n 0, 1) := by decide +kernel
theorem dX6_step_5 : decode cX6_step 5 = .ok (.aload_n 0, 1) := by decide +kernel
theorem dX6_step_6 : decode cX6_step 6 = .ok (.invokevirtual 190, 3) := by decide +kernel
theorem dX6_step_9 : decode cX6_step 9 = .ok (.invokevirtual 91, 3) := by decide +kernel
theorem dX6_step_12 : decode cX6_step 12 = .ok (.ireturn, 1) := by decide +kernel
theorem dX6_letter_0 : decode cX6_letter 0 = .ok (.aload_n 0, 1) := by decide +kernel
theorem dX6_letter_1 : decode cX6_letter 1 = .ok (.aload_n 0, 1) := by decide +kernel
theorem dX6_letter_2 : decode cX6_letter 2 = .ok (.iload_n 1, 1) := by decide +kernel
theorem dX6_letter_3 : decode cX6_letter 3 = .ok (.invokevirtual 102, 3) := by decide +kernel
theorem dX6_letter_6 : decode cX6_letter 6 = .ok (.ifCond .eq 7, 3) := by decide +kernel
theorem dX6_letter_9 : decode cX6_letter 9 = .ok (.iconst 0, 1) := by decide +kernel
theorem dX6_letter_10 : decode cX6_letter 10 = .ok (.goto 4, 3) := by decide +kernel
theorem dX6_letter_13 : decode cX6_letter 13 = .ok (.iconst 1, 1) := by decide +kernel
theorem dX6_letter_14 : decode cX6_letter 14 = .ok (.putfield 46, 3) := by decide +kernel
theorem dX6_letter_17 : decode cX6_letter 17 = .ok (.aload_n 0, 1) := by decide +kernel
theorem dX6_letter_18 : decode cX6_letter 18 = .ok (.getfield 46, 3) := by decide +kernel
theorem dX6_letter_21 : decode cX6_letter 21 = .ok (.ifCond .ne 18, 3) := by decide +kernel
theorem dX6_letter_24 : decode cX6_letter 24 = .ok (.aload_n 0, 1) := by decide +kernel
theorem dX6_letter_25 : decode cX6_letter 25 = .ok (.getfield 7, 3) := by decide +kernel
theorem dX6_letter_28 : decode cX6_letter 28 = .ok (.bipush 14, 2) := by decide +kernel
theorem dX6_letter_30 : decode cX6_letter 30 = .ok (.iload_n 1, 1) := by decide +kernel
theorem dX6_letter_31 : decode cX6_letter 31 = .ok (.iadd, 1) := by decide +kernel
theorem dX6_letter_32 : decode cX6_letter 32 = .ok (.iaload, 1) := by decide +kernel
theorem dX6_letter_33 : decode cX6_letter 33 = .ok (.invokestatic 98, 3) := by decide +kernel
theorem dX6_letter_36 : decode cX6_letter 36 = .ok (.goto 4, 3) := by decide +kernel
theorem dX6_letter_39 : decode cX6_letter 39 = .ok (.iconst 0, 1) := by decide +kernel
theorem dX6_letter_40 : decode cX6_letter 40 = .ok (.ireturn, 1) := by decide +kernel
theorem dX6_sign_0 : decode cX6_sign 0 = .ok (.aload_n 0, 1) := by decide +kernel
theorem dX6_sign_1 : decode cX6_sign 1 = .ok (.aload_n 0, 1) := by decide +kernel
theorem dX6_sign_2 : decode cX6_sign 2 = .ok (.iload_n 1, 1) := by decide +kernel
theorem dX6_sign_3 : decode cX6_sign 3 = .ok (.invokevirtual 102, 3) := by decide +kernel
theorem dX6_sign_6 : decode cX6_sign 6 = .ok (.ifCond .eq 7, 3) := by decide +kernel
theorem dX6_sign_9 : decode cX6_sign 9 = .ok (.iconst 0, 1) := by decide +kernel
theorem dX6_sign_10 : decode cX6_sign 10 = .ok (.goto 4, 3) := by decide +kernel
theorem dX6_sign_13 : decode cX6_sign 13 = .ok (.iconst 1, 1) := by decide +kernel
theorem dX6_sign_14 : decode cX6_sign 14 = .ok (.putfield 46, 3) := by decide +kernel
theorem dX6_sign_17 : decode cX6_sign 17 = .ok (.aload_n 0, 1) := by decide +kernel
theorem dX6_sign_18 : decode cX6_sign 18 = .ok (.getfield 46, 3) := by decide +kernel
theorem dX6_sign_21 : decode cX6_sign 21 = .ok (.ifCond .ne 18, 3) := by decide +kernel
theorem dX6_sign_24 : decode cX6_sign 24 = .ok (.aload_n 0, 1) := by decide +kernel
theorem dX6_sign_25 : decode cX6_sign 25 = .ok (.getfield 7, 3) := by decide +kernel
theorem dX6_sign_28 : decode cX6_sign 28 = .ok (.bipush 23, 2) := by decide +kernel
theorem dX6_sign_30 : decode cX6_sign 30 = .ok (.iload_n 1, 1) := by decide +kernel
theorem dX6_sign_31 : decode cX6_sign 31 = .ok (.iadd, 1) := by decide +kernel
theorem dX6_sign_32 : decode cX6_sign 32 = .ok (.iaload, 1) := by decide +kernel
theorem dX6_sign_33 : decode cX6_sign 33 = .ok (.invokestatic 98, 3) := by decide +kernel
theorem dX6_sign_36 : decode cX6_sign 36 = .ok (.goto 4, 3) := by decide +kernel
theorem dX6_sign_39 : decode cX6_sign 39 = .ok (.iconst 0, 1) := by decide +kernel
theorem dX6_sign_40 : decode cX6_sign 40 = .ok (.ireturn, 1) := by decide +kernel
theorem dX6_isBarred_0 : decode cX6_isBarred 0 = .ok (.aload_n 0, 1) := by decide +kernel
theorem dX6_isBarred_1 : decode cX6_isBarred 1 = .ok (.aload_n 0, 1) := by decide +kernel
theorem dX6_isBarred_2 : decode cX6_isBarred 2 = .ok (.iload_n 1, 1) := by decide +kernel
theorem dX6_isBarred_3 : decode cX6_isBarred 3 = .ok (.invokevirtual 155, 3) := by decide +kernel
theorem dX6_isBarred_6 : decode cX6_isBarred 6 = .ok (.ifCond .eq 7, 3) := by decide +kernel
theorem dX6_isBarred_9 : decode cX6_isBarred 9 = .ok (.iconst 0, 1) := by decide +kernel
theorem dX6_isBarred_10 : decode cX6_isBarred 10 = .ok (.goto 4, 3) := by decide +kernel
theorem dX6_isBarred_13 : decode cX6_isBarred 13 = .ok (.iconst 1, 1) := by decide +kernel
theorem dX6_isBarred_14 : decode cX6_isBarred 14 = .ok (.putfield 46, 3) := by decide +kernel
theorem dX6_isBarred_17 : decode cX6_isBarred 17 = .ok (.aload_n 0, 1) := by decide +kernel
theorem dX6_isBarred_18 : decode cX6_isBarred 18 = .ok (.getfield 46, 3) := by decide +kernel
theorem dX6_isBarred_21 : decode cX6_isBarred 21 = .ok (.ifCond .ne 20, 3) := by decide +kernel
theorem dX6_isBarred_24 : decode cX6_isBarred 24 = .ok (.aload_n 0, 1) := by decide +kernel
theorem dX6_isBarred_25 : decode cX6_isBarred 25 = .ok (.getfield 7, 3) := by decide +kernel
theorem dX6_isBarred_28 : decode cX6_isBarred 28 = .ok (.bipush 8, 2) := by decide +kernel
theorem dX6_isBarred_30 : decode cX6_isBarred 30 = .ok (.iload_n 1, 1) := by decide +kernel
theorem dX6_isBarred_31 : decode cX6_isBarred 31 = .ok (.iadd, 1) := by decide +kernel
theorem dX6_isBarred_32 : decode cX6_isBarred 32 = .ok (.iaload, 1) := by decide +kernel
theorem dX6_isBarred_33 : decode cX6_isBarred 33 = .ok (.iconst 1, 1) := by decide +kernel
theorem dX6_isBarred_34 : decode cX6_isBarred 34 = .ok (.if_icmp .ne 7, 3) := by decide +kernel
theorem dX6_isBarred_37 : decode cX6_isBarred 37 = .ok (.iconst 1, 1) := by decide +kernel
theorem dX6_isBarred_38 : decode cX6_isBarred 38 = .ok (.goto 4, 3) := by decide +kernel
theorem dX6_isBarred_41 : decode cX6_isBarred 41 = .ok (.iconst 0, 1) := by decide +kernel
theorem dX6_isBarred_42 : decode cX6_isBarred 42 = .ok (.ireturn, 1) := by decide +kernel
theorem dX6_barredLines_0 : decode cX6_barredLines 0 = .ok (.iconst 0, 1) := by decide +kernel
theorem dX6_barredLines_1 : decode cX6_barredLines 1 = .ok (.istore_n 1, 1) := by decide +kernel
theorem dX6_barredLines_2 : decode cX6_barredLines 2 = .ok (.iconst 0, 1) := by decide +kernel
theorem dX6_barredLines_3 : decode cX6_barredLines 3 = .ok (.istore_n 2, 1) := by decide +kernel
theorem dX6_barredLines_4 : decode cX6_barredLines 4 = .ok (.iload_n 2, 1) := by decide +kernel
theorem dX6_barredLines_5 : decode cX6_barredLines 5 = .ok (.aload_n 0, 1) := by decide +kernel
theorem dX6_barredLines_6 : decode cX6_barredLines 6 = .ok (.invokevirtual 74, 3) := by decide +kernel
theorem dX6_barredLines_9 : decode cX6_barredLines 9 = .ok (.if_icmp .ge 21, 3) := by decide +kernel
theorem dX6_barredLines_12 : decode cX6_barredLines 12 = .ok (.iload_n 1, 1) := by decide +kernel
theorem dX6_barredLines_13 : decode cX6_barredLines 13 = .ok (.aload_n 0, 1) := by decide +kernel
theorem dX6_barredLines_14 : decode cX6_barredLines 14 = .ok (.getfield 7, 3) := by decide +kernel
theorem dX6_barredLines_17 : decode cX6_barredLines 17 = .ok (.bipush 8, 2) := by decide +kernel
theorem dX6_barredLines_19 : decode cX6_barredLines 19 = .ok (.iload_n 2, 1) := by decide +kernel
theorem dX6_barredLines_20 : decode cX6_barredLines 20 = .ok (.iadd, 1) := by decide +kernel
theorem dX6_barredLines_21 : decode cX6_barredLines 21 = .ok (.iaload, 1) := by decide +kernel
theorem dX6_barredLines_22 : decode cX6_barredLines 22 = .ok (.iadd, 1) := by decide +kernel
theorem dX6_barredLines_23 : decode cX6_barredLines 23 = .ok (.istore_n 1, 1) := by decide +kernel
theorem dX6_barredLines_24 : decode cX6_barredLines 24 = .ok (.iinc 2 1, 3) := by decide +kernel
theorem dX6_barredLines_27 : decode cX6_barredLines 27 = .ok (.goto (-23), 3) := by decide +kernel
theorem dX6_barredLines_30 : decode cX6_barredLines 30 = .ok (.iload_n 1, 1) := by decide +kernel
theorem dX6_barredLines_31 : decode cX6_barredLines 31 = .ok (.ireturn, 1) := by decide +kernel
theorem dX6_isVowel_0 : decode cX6_isVowel 0 = .ok (.iload_n 0, 1) := by decide +kernel
theorem dX6_isVowel_1 : decode cX6_isVowel 1 = .ok (.ifCond .eq 14, 3) := by decide +kernel
theorem dX6_isVowel_4 : decode cX6_isVowel 4 = .ok (.iload_n 0, 1) := by decide +kernel
theorem dX6_isVowel_5 : decode cX6_isVowel 5 = .ok (.iconst 4, 1) := by decide +kernel
theorem dX6_isVowel_6 : decode cX6_isVowel 6 = .ok (.if_icmp .eq 9, 3) := by decide +kernel
theorem dX6_isVowel_9 : decode cX6_isVowel 9 = .ok (.iload_n 0, 1) := by decide +kernel
theorem dX6_isVowel_10 : decode cX6_isVowel 10 = .ok (.bipush 8, 2) := by decide +kernel
theorem dX6_isVowel_12 : decode cX6_isVowel 12 = .ok (.if_icmp .ne 7, 3) := by decide +kernel
theorem dX6_isVowel_15 : decode cX6_isVowel 15 = .ok (.iconst 1, 1) := by decide +kernel
theorem dX6_isVowel_16 : decode cX6_isVowel 16 = .ok (.goto 4, 3) := by decide +kernel
theorem dX6_isVowel_19 : decode cX6_isVowel 19 = .ok (.iconst 0, 1) := by decide +kernel
theorem dX6_isVowel_20 : decode cX6_isVowel 20 = .ok (.ireturn, 1) := by decide +kernel
theorem dX6_boardOf_0 : decode cX6_boardOf 0 = .ok (.iload_n 1, 1) := by decide +kernel
theorem dX6_boardOf_1 : decode cX6_boardOf 1 = .ok (.tableswitch 131 0 6 #[43, 43, 54, 65, 81, 90, 119], 43) := by decide +kernel
theorem dX6_boardOf_44 : decode cX6_boardOf 44 = .ok (.aload_n 0, 1) := by decide +kernel
theorem dX6_boardOf_45 : decode cX6_boardOf 45 = .ok (.aload_n 0, 1) := by decide +kernel
theorem dX6_boardOf_46 : decode cX6_boardOf 46 = .ok (.getfield 7, 3) := by decide +kernel
theorem dX6_boardOf_49 : decode cX6_boardOf 49 = .ok (.iload_n 1, 1) := by decide +kernel
theorem dX6_boardOf_50 : decode cX6_boardOf 50 = .ok (.iaload, 1) := by decide +kernel
theorem dX6_boardOf_51 : decode cX6_boardOf 51 = .ok (.invokevirtual 81, 3) := by decide +kernel
theorem dX6_boardOf_54 : decode cX6_boardOf 54 = .ok (.ireturn, 1) := by decide +kernel
theorem dX6_boardOf_55 : decode cX6_boardOf 55 = .ok (.aload_n 0, 1) := by decide +kernel
theorem dX6_boardOf_56 : decode cX6_boardOf 56 = .ok (.iconst 2, 1) := by decide +kernel
theorem dX6_boardOf_57 : decode cX6_boardOf 57 = .ok (.aload_n 0, 1) := by decide +kernel
theorem dX6_boardOf_58 : decode cX6_boardOf 58 = .ok (.invokevirtual 74, 3) := by decide +kernel
theorem dX6_boardOf_61 : decode cX6_boardOf 61 = .ok (.imul, 1) := by decide +kernel
theorem dX6_boardOf_62 : decode cX6_boardOf 62 = .ok (.invokevirtual 81, 3) := by decide +kernel
theorem dX6_boardOf_65 : decode cX6_boardOf 65 = .ok (.ireturn, 1) := by decide +kernel
theorem dX6_boardOf_66 : decode cX6_boardOf 66 = .ok (.aload_n 0, 1) := by decide +kernel
theorem dX6_boardOf_67 : decode cX6_boardOf 67 = .ok (.iconst 2, 1) := by decide +kernel
theorem dX6_boardOf_68 : decode cX6_boardOf 68 = .ok (.aload_n 0, 1) := by decide +kernel
theorem dX6_boardOf_69 : decode cX6_boardOf 69 = .ok (.invokevirtual 74, 3) := by decide +kernel
theorem dX6_boardOf_72 : decode cX6_boardOf 72 = .ok (.aload_n 0, 1) := by decide +kernel
theorem dX6_boardOf_73 : decode cX6_boardOf 73 = .ok (.invokevirtual 193, 3) := by decide +kernel
theorem dX6_boardOf_76 : decode cX6_boardOf 76 = .ok (.isub, 1) := by decide +kernel
theorem dX6_boardOf_77 : decode cX6_boardOf 77 = .ok (.imul, 1) := by decide +kernel
theorem dX6_boardOf_78 : decode cX6_boardOf 78 = .ok (.invokevirtual 81, 3) := by decide +kernel
theorem dX6_boardOf_81 : decode cX6_boardOf 81 = .ok (.ireturn, 1) := by decide +kernel
theorem dX6_boardOf_82 : decode cX6_boardOf 82 = .ok (.aload_n 0, 1) := by decide +kernel
theorem dX6_boardOf_83 : decode cX6_boardOf 83 = .ok (.aload_n 0, 1) := by decide +kernel
theorem dX6_boardOf_84 : decode cX6_boardOf 84 = .ok (.invokevirtual 181, 3) := by decide +kernel
theorem dX6_boardOf_87 : decode cX6_boardOf 87 = .ok (.invokevirtual 81, 3) := by decide +kernel
theorem dX6_boardOf_90 : decode cX6_boardOf 90 = .ok (.ireturn, 1) := by decide +kernel
theorem dX6_boardOf_91 : decode cX6_boardOf 91 = .ok (.aload_n 0, 1) := by decide +kernel
theorem dX6_boardOf_92 : decode cX6_boardOf 92 = .ok (.aload_n 0, 1) := by decide +kernel
theorem dX6_boardOf_93 : decode cX6_boardOf 93 = .ok (.bipush 14, 2) := by decide +kernel
theorem dX6_boardOf_95 : decode cX6_boardOf 95 = .ok (.iconst 0, 1) := by decide +kernel
theorem dX6_boardOf_96 : decode cX6_boardOf 96 = .ok (.invokevirtual 174, 3) := by decide +kernel
theorem dX6_boardOf_99 : decode cX6_boardOf 99 = .ok (.aload_n 0, 1) := by decide +kernel
theorem dX6_boardOf_100 : decode cX6_boardOf 100 = .ok (.bipush 14, 2) := by decide +kernel
theorem dX6_boardOf_102 : decode cX6_boardOf 102 = .ok (.iconst 4, 1) := by decide +kernel
theorem dX6_boardOf_103 : decode cX6_boardOf 103 = .ok (.invokevirtual 174, 3) := by decide +kernel
theorem dX6_boardOf_106 : decode cX6_boardOf 106 = .ok (.iadd, 1) := by decide +kernel
theorem dX6_boardOf_107 : decode cX6_boardOf 107 = .ok (.aload_n 0, 1) := by decide +kernel
theorem dX6_boardOf_108 : decode cX6_boardOf 108 = .ok (.bipush 14, 2) := by decide +kernel
theorem dX6_boardOf_110 : decode cX6_boardOf 110 = .ok (.bipush 8, 2) := by decide +kernel
theorem dX6_boardOf_112 : decode cX6_boardOf 112 = .ok (.invokevirtual 174, 3) := by decide +kernel
theorem dX6_boardOf_115 : decode cX6_boardOf 115 = .ok (.iadd, 1) := by decide +kernel
theorem dX6_boardOf_116 : decode cX6_boardOf 116 = .ok (.invokevirtual 81, 3) := by decide +kernel
theorem dX6_boardOf_119 : decode cX6_boardOf 119 = .ok (.ireturn, 1) := by decide +kernel
theorem dX6_boardOf_120 : decode cX6_boardOf 120 = .ok (.aload_n 0, 1) := by decide +kernel
theorem dX6_boardOf_121 : decode cX6_boardOf 121 = .ok (.aload_n 0, 1) := by decide +kernel
theorem dX6_boardOf_122 : decode cX6_boardOf 122 = .ok (.bipush 23, 2) := by decide +kernel
theorem dX6_boardOf_124 : decode cX6_boardOf 124 = .ok (.iconst (-1), 1) := by decide +kernel
theorem dX6_boardOf_125 : decode cX6_boardOf 125 = .ok (.invokevirtual 174, 3) := by decide +kernel
theorem dX6_boardOf_128 : decode cX6_boardOf 128 = .ok (.invokevirtual 81, 3) := by decide +kernel
theorem dX6_boardOf_131 : decode cX6_boardOf 131 = .ok (.ireturn, 1) := by decide +kernel
theorem dX6_boardOf_132 : decode cX6_boardOf 132 = .ok (.aload_n 0, 1) := by decide +kernel
theorem dX6_boardOf_133 : decode cX6_boardOf 133 = .ok (.iconst 1, 1) := by decide +kernel
theorem dX6_boardOf_134 : decode cX6_boardOf 134 = .ok (.invokevirtual 77, 3) := by decide +kernel
theorem dX6_boardOf_137 : decode cX6_boardOf 137 = .ok (.ireturn, 1) := by decide +kernel
theorem dX6_home_0 : decode cX6_home 0 = .ok (.aload_n 0, 1) := by decide +kernel
theorem dX6_home_1 : decode cX6_home 1 = .ok (.aload_n 0, 1) := by decide +kernel
theorem dX6_home_2 : decode cX6_home 2 = .ok (.invokevirtual 134, 3) := by decide +kernel
theorem dX6_home_5 : decode cX6_home 5 = .ok (.invokevirtual 81, 3) := by decide +kernel
theorem dX6_home_8 : decode cX6_home 8 = .ok (.ireturn, 1) := by decide +kernel
theorem dX6_homeBehind_0 : decode cX6_homeBehind 0 = .ok (.aload_n 0, 1) := by decide +kernel
theorem dX6_homeBehind_1 : decode cX6_homeBehind 1 = .ok (.invokevirtual 121, 3) := by decide +kernel
theorem dX6_homeBehind_4 : decode cX6_homeBehind 4 = .ok (.aload_n 0, 1) := by decide +kernel
theorem dX6_homeBehind_5 : decode cX6_homeBehind 5 = .ok (.iload_n 1, 1) := by decide +kernel
theorem dX6_homeBehind_6 : decode cX6_homeBehind 6 = .ok (.invokevirtual 127, 3) := by decide +kernel
theorem dX6_homeBehind_9 : decode cX6_homeBehind 9 = .ok (.aload_n 0, 1) := by decide +kernel
theorem dX6_homeBehind_10 : decode cX6_homeBehind 10 = .ok (.invokevirtual 124, 3) := by decide +kernel
theorem dX6_homeBehind_13 : decode cX6_homeBehind 13 = .ok (.ireturn, 1) := by decide +kernel
theorem dX6_would_0 : decode cX6_would 0 = .ok (.aload_n 0, 1) := by decide +kernel
theorem dX6_would_1 : decode cX6_would 1 = .ok (.iload_n 1, 1) := by decide +kernel
theorem dX6_would_2 : decode cX6_would 2 = .ok (.invokevirtual 140, 3) := by decide +kernel
theorem dX6_would_5 : decode cX6_would 5 = .ok (.ifCond .eq 15, 3) := by decide +kernel
theorem dX6_would_8 : decode cX6_would 8 = .ok (.aload_n 0, 1) := by decide +kernel
theorem dX6_would_9 : decode cX6_would 9 = .ok (.aload_n 0, 1) := by decide +kernel
theorem dX6_would_10 : decode cX6_would 10 = .ok (.iload_n 1, 1) := by decide +kernel
theorem dX6_would_11 : decode cX6_would 11 = .ok (.invokevirtual 196, 3) := by decide +kernel
theorem dX6_would_14 : decode cX6_would 14 = .ok (.invokevirtual 81, 3) := by decide +kernel
theorem dX6_would_17 : decode cX6_would 17 = .ok (.goto 8, 3) := by decide +kernel
theorem dX6_would_20 : decode cX6_would 20 = .ok (.aload_n 0, 1) := by decide +kernel
theorem dX6_would_21 : decode cX6_would 21 = .ok (.iconst 1, 1) := by decide +kernel
theorem dX6_would_22 : decode cX6_would 22 = .ok (.invokevirtual 77, 3) := by decide +kernel
theorem dX6_would_25 : decode cX6_would 25 = .ok (.ireturn, 1) := by decide +kernel
theorem dX6_best_0 : decode cX6_best 0 = .ok (.iconst (-1), 1) := by decide +kernel
theorem dX6_best_1 : decode cX6_best 1 = .ok (.istore_n 1, 1) := by decide +kernel
theorem dX6_best_2 : decode cX6_best 2 = .ok (.iconst (-1), 1) := by decide +kernel
theorem dX6_best_3 : decode cX6_best 3 = .ok (.istore_n 2, 1) := by decide +kernel
theorem dX6_best_4 : decode cX6_best 4 = .ok (.iconst 0, 1) := by decide +kernel
theorem dX6_best_5 : decode cX6_best 5 = .ok (.istore_n 3, 1) := by decide +kernel
theorem dX6_best_6 : decode cX6_best 6 = .ok (.iload_n 3, 1) := by decide +kernel
theorem dX6_best_7 : decode cX6_best 7 = .ok (.iconst 2, 1) := by decide +kernel
theorem dX6_best_8 : decode cX6_best 8 = .ok (.aload_n 0, 1) := by decide +kernel
theorem dX6_best_9 : decode cX6_best 9 = .ok (.invokevirtual 74, 3) := by decide +kernel
theorem dX6_best_12 : decode cX6_best 12 = .ok (.imul, 1) := by decide +kernel
theorem dX6_best_13 : decode cX6_best 13 = .ok (.if_icmp .ge 53, 3) := by decide +kernel
theorem dX6_best_16 : decode cX6_best 16 = .ok (.aload_n 0, 1) := by decide +kernel
theorem dX6_best_17 : decode cX6_best 17 = .ok (.iload_n 3, 1) := by decide +kernel
theorem dX6_best_18 : decode cX6_best 18 = .ok (.invokevirtual 143, 3) := by decide +kernel
theorem dX6_best_21 : decode cX6_best 21 = .ok (.ifCond .eq 11, 3) := by decide +kernel
theorem dX6_best_24 : decode cX6_best 24 = .ok (.aload_n 0, 1) := by decide +kernel
theorem dX6_best_25 : decode cX6_best 25 = .ok (.iload_n 3, 1) := by decide +kernel
theorem dX6_best_26 : decode cX6_best 26 = .ok (.invokevirtual 196, 3) := by decide +kernel
theorem dX6_best_29 : decode cX6_best 29 = .ok (.goto 4, 3) := by decide +kernel
theorem dX6_best_32 : decode cX6_best 32 = .ok (.iconst (-1), 1) := by decide +kernel
theorem dX6_best_33 : decode cX6_best 33 = .ok (.istore 4, 2) := by decide +kernel
theorem dX6_best_35 : decode cX6_best 35 = .ok (.iload 4, 2) := by decide +kernel
theorem dX6_best_37 : decode cX6_best 37 = .ok (.iload_n 2, 1) := by decide +kernel
theorem dX6_best_38 : decode cX6_best 38 = .ok (.if_icmp .le 7, 3) := by decide +kernel
theorem dX6_best_41 : decode cX6_best 41 = .ok (.iload_n 3, 1) := by decide +kernel
theorem dX6_best_42 : decode cX6_best 42 = .ok (.goto 4, 3) := by decide +kernel
theorem dX6_best_45 : decode cX6_best 45 = .ok (.iload_n 1, 1) := by decide +kernel
theorem dX6_best_46 : decode cX6_best 46 = .ok (.istore_n 1, 1) := by decide +kernel
theorem dX6_best_47 : decode cX6_best 47 = .ok (.iload 4, 2) := by decide +kernel
theorem dX6_best_49 : decode cX6_best 49 = .ok (.iload_n 2, 1) := by decide +kernel
theorem dX6_best_50 : decode cX6_best 50 = .ok (.if_icmp .le 8, 3) := by decide +kernel
theorem dX6_best_53 : decode cX6_best 53 = .ok (.iload 4, 2) := by decide +kernel
theorem dX6_best_55 : decode cX6_best 55 = .ok (.goto 4, 3) := by decide +kernel
theorem dX6_best_58 : decode cX6_best 58 = .ok (.iload_n 2, 1) := by decide +kernel
theorem dX6_best_59 : decode cX6_best 59 = .ok (.istore_n 2, 1) := by decide +kernel
theorem dX6_best_60 : decode cX6_best 60 = .ok (.iinc 3 1, 3) := by decide +kernel
theorem dX6_best_63 : decode cX6_best 63 = .ok (.goto (-57), 3) := by decide +kernel
theorem dX6_best_66 : decode cX6_best 66 = .ok (.iload_n 1, 1) := by decide +kernel
theorem dX6_best_67 : decode cX6_best 67 = .ok (.iconst (-1), 1) := by decide +kernel
theorem dX6_best_68 : decode cX6_best 68 = .ok (.if_icmp .ne 11, 3) := by decide +kernel
theorem dX6_best_71 : decode cX6_best 71 = .ok (.aload_n 0, 1) := by decide +kernel
theorem dX6_best_72 : decode cX6_best 72 = .ok (.iconst 1, 1) := by decide +kernel
theorem dX6_best_73 : decode cX6_best 73 = .ok (.invokevirtual 77, 3) := by decide +kernel
theorem dX6_best_76 : decode cX6_best 76 = .ok (.goto 8, 3) := by decide +kernel
theorem dX6_best_79 : decode cX6_best 79 = .ok (.aload_n 0, 1) := by decide +kernel
theorem dX6_best_80 : decode cX6_best 80 = .ok (.iload_n 1, 1) := by decide +kernel
theorem dX6_best_81 : decode cX6_best 81 = .ok (.invokevirtual 81, 3) := by decide +kernel
theorem dX6_best_84 : decode cX6_best 84 = .ok (.ireturn, 1) := by decide +kernel
theorem dX6_where_0 : decode cX6_where 0 = .ok (.aload_n 0, 1) := by decide +kernel
theorem dX6_where_1 : decode cX6_where 1 = .ok (.iload_n 1, 1) := by decide +kernel
theorem dX6_where_2 : decode cX6_where 2 = .ok (.invokevirtual 102, 3) := by decide +kernel
theorem dX6_where_5 : decode cX6_where 5 = .ok (.ifCond .eq 11, 3) := by decide +kernel
theorem dX6_where_8 : decode cX6_where 8 = .ok (.aload_n 0, 1) := by decide +kernel
theorem dX6_where_9 : decode cX6_where 9 = .ok (.iload_n 2, 1) := by decide +kernel
theorem dX6_where_10 : decode cX6_where 10 = .ok (.invokevirtual 140, 3) := by decide +kernel
theorem dX6_where_13 : decode cX6_where 13 = .ok (.ifCond .ne 9, 3) := by decide +kernel
theorem dX6_where_16 : decode cX6_where 16 = .ok (.aload_n 0, 1) := by decide +kernel
theorem dX6_where_17 : decode cX6_where 17 = .ok (.iconst 1, 1) := by decide +kernel
theorem dX6_where_18 : decode cX6_where 18 = .ok (.invokevirtual 77, 3) := by decide +kernel
theorem dX6_where_21 : decode cX6_where 21 = .ok (.ireturn, 1) := by decide +kernel
theorem dX6_where_22 : decode cX6_where 22 = .ok (.iload_n 3, 1) := by decide +kernel
theorem dX6_where_23 : decode cX6_where 23 = .ok (.iconst 0, 1) := by decide +kernel
theorem dX6_where_24 : decode cX6_where 24 = .ok (.bipush 99, 2) := by decide +kernel
theorem dX6_where_26 : decode cX6_where 26 = .ok (.invokestatic 70, 3) := by decide +kernel
theorem dX6_where_29 : decode cX6_where 29 = .ok (.ifCond .ne 9, 3) := by decide +kernel
theorem dX6_where_32 : decode cX6_where 32 = .ok (.aload_n 0, 1) := by decide +kernel
theorem dX6_where_33 : decode cX6_where 33 = .ok (.iconst 2, 1) := by decide +kernel
theorem dX6_where_34 : decode cX6_where 34 = .ok (.invokevirtual 77, 3) := by decide +kernel
theorem dX6_where_37 : decode cX6_where 37 = .ok (.ireturn, 1) := by decide +kernel
theorem dX6_where_38 : decode cX6_where 38 = .ok (.iload_n 1, 1) := by decide +kernel
theorem dX6_where_39 : decode cX6_where 39 = .ok (.istore 4, 2) := by decide +kernel
theorem dX6_where_41 : decode cX6_where 41 = .ok (.iconst 0, 1) := by decide +kernel
theorem dX6_where_42 : decode cX6_where 42 = .ok (.istore 5, 2) := by decide +kernel
theorem dX6_where_44 : decode cX6_where 44 = .ok (.iload 5, 2) := by decide +kernel
theorem dX6_where_46 : decode cX6_where 46 = .ok (.iload_n 3, 1) := by decide +kernel
theorem dX6_where_47 : decode cX6_where 47 = .ok (.if_icmp .ge 18, 3) := by decide +kernel
theorem dX6_where_50 : decode cX6_where 50 = .ok (.aload_n 0, 1) := by decide +kernel
theorem dX6_where_51 : decode cX6_where 51 = .ok (.iload 4, 2) := by decide +kernel
theorem dX6_where_53 : decode cX6_where 53 = .ok (.iload_n 2, 1) := by decide +kernel
theorem dX6_where_54 : decode cX6_where 54 = .ok (.invokevirtual 118, 3) := by decide +kernel
theorem dX6_where_57 : decode cX6_where 57 = .ok (.istore 4, 2) := by decide +kernel
theorem dX6_where_59 : decode cX6_where 59 = .ok (.iinc 5 1, 3) := by decide +kernel
theorem dX6_where_62 : decode cX6_where 62 = .ok (.goto (-18), 3) := by decide +kernel
theorem dX6_where_65 : decode cX6_where 65 = .ok (.aload_n 0, 1) := by decide +kernel
theorem dX6_where_66 : decode cX6_where 66 = .ok (.iload 4, 2) := by decide +kernel
theorem dX6_where_68 : decode cX6_where 68 = .ok (.invokevirtual 81, 3) := by decide +kernel
theorem dX6_where_71 : decode cX6_where 71 = .ok (.ireturn, 1) := by decide +kernel
theorem dX6_round_0 : decode cX6_round 0 = .ok (.iload_n 0, 1) := by decide +kernel
theorem dX6_round_1 : decode cX6_round 1 = .ok (.iload_n 1, 1) := by decide +kernel
theorem dX6_round_2 : decode cX6_round 2 = .ok (.if_icmp .ge 9, 3) := by decide +kernel
theorem dX6_round_5 : decode cX6_round 5 = .ok (.iload_n 1, 1) := by decide +kernel
theorem dX6_round_6 : decode cX6_round 6 = .ok (.iload_n 0, 1) := by decide +kernel
theorem dX6_round_7 : decode cX6_round 7 = .ok (.isub, 1) := by decide +kernel
theorem dX6_round_8 : decode cX6_round 8 = .ok (.goto 6, 3) := by decide +kernel
theorem dX6_round_11 : decode cX6_round 11 = .ok (.iload_n 0, 1) := by decide +kernel
theorem dX6_round_12 : decode cX6_round 12 = .ok (.iload_n 1, 1) := by decide +kernel
theorem dX6_round_13 : decode cX6_round 13 = .ok (.isub, 1) := by decide +kernel
theorem dX6_round_14 : decode cX6_round 14 = .ok (.istore_n 3, 1) := by decide +kernel
theorem dX6_round_15 : decode cX6_round 15 = .ok (.iload_n 3, 1) := by decide +kernel
theorem dX6_round_16 : decode cX6_round 16 = .ok (.iload_n 2, 1) := by decide +kernel
theorem dX6_round_17 : decode cX6_round 17 = .ok (.iload_n 3, 1) := by decide +kernel
theorem dX6_round_18 : decode cX6_round 18 = .ok (.isub, 1) := by decide +kernel
theorem dX6_round_19 : decode cX6_round 19 = .ok (.if_icmp .ge 7, 3) := by decide +kernel
theorem dX6_round_22 : decode cX6_round 22 = .ok (.iload_n 3, 1) := by decide +kernel
theorem dX6_round_23 : decode cX6_round 23 = .ok (.goto 6, 3) := by decide +kernel
theorem dX6_round_26 : decode cX6_round 26 = .ok (.iload_n 2, 1) := by decide +kernel
theorem dX6_round_27 : decode cX6_round 27 = .ok (.iload_n 3, 1) := by decide +kernel
theorem dX6_round_28 : decode cX6_round 28 = .ok (.isub, 1) := by decide +kernel
theorem dX6_round_29 : decode cX6_round 29 = .ok (.ireturn, 1) := by decide +kernel
theorem dX6_stepsBetween_0 : decode cX6_stepsBetween 0 = .ok (.iload_n 1, 1) := by decide +kernel
theorem dX6_stepsBetween_1 : decode cX6_stepsBetween 1 = .ok (.iload_n 3, 1) := by decide +kernel
theorem dX6_stepsBetween_2 : decode cX6_stepsBetween 2 = .ok (.idiv, 1) := by decide +kernel
theorem dX6_stepsBetween_3 : decode cX6_stepsBetween 3 = .ok (.iload_n 2, 1) := by decide +kernel
theorem dX6_stepsBetween_4 : decode cX6_stepsBetween 4 = .ok (.iload_n 3, 1) := by decide +kernel
theorem dX6_stepsBetween_5 : decode cX6_stepsBetween 5 = .ok (.idiv, 1) := by decide +kernel
theorem dX6_stepsBetween_6 : decode cX6_stepsBetween 6 = .ok (.aload_n 0, 1) := by decide +kernel
theorem dX6_stepsBetween_7 : decode cX6_stepsBetween 7 = .ok (.getfield 7, 3) := by decide +kernel
theorem dX6_stepsBetween_10 : decode cX6_stepsBetween 10 = .ok (.iconst 0, 1) := by decide +kernel
theorem dX6_stepsBetween_11 : decode cX6_stepsBetween 11 = .ok (.iaload, 1) := by decide +kernel
theorem dX6_stepsBetween_12 : decode cX6_stepsBetween 12 = .ok (.invokestatic 199, 3) := by decide +kernel
theorem dX6_stepsBetween_15 : decode cX6_stepsBetween 15 = .ok (.iload_n 1, 1) := by decide +kernel
theorem dX6_stepsBetween_16 : decode cX6_stepsBetween 16 = .ok (.iload_n 3, 1) := by decide +kernel
theorem dX6_stepsBetween_17 : decode cX6_stepsBetween 17 = .ok (.irem, 1) := by decide +kernel
theorem dX6_stepsBetween_18 : decode cX6_stepsBetween 18 = .ok (.iload_n 2, 1) := by decide +kernel
theorem dX6_stepsBetween_19 : decode cX6_stepsBetween 19 = .ok (.iload_n 3, 1) := by decide +kernel
theorem dX6_stepsBetween_20 : decode cX6_stepsBetween 20 = .ok (.irem, 1) := by decide +kernel
theorem dX6_stepsBetween_21 : decode cX6_stepsBetween 21 = .ok (.iload_n 3, 1) := by decide +kernel
theorem dX6_stepsBetween_22 : decode cX6_stepsBetween 22 = .ok (.invokestatic 199, 3) := by decide +kernel
theorem dX6_stepsBetween_25 : decode cX6_stepsBetween 25 = .ok (.iadd, 1) := by decide +kernel
theorem dX6_stepsBetween_26 : decode cX6_stepsBetween 26 = .ok (.ireturn, 1) := by decide +kernel
theorem dX6_far_0 : decode cX6_far 0 = .ok (.aload_n 0, 1) := by decide +kernel
theorem dX6_far_1 : decode cX6_far 1 = .ok (.iload_n 1, 1) := by decide +kernel
theorem dX6_far_2 : decode cX6_far 2 = .ok (.invokevirtual 102, 3) := by decide +kernel
theorem dX6_far_5 : decode cX6_far 5 = .ok (.ifCond .eq 30, 3) := by decide +kernel
theorem dX6_far_8 : decode cX6_far 8 = .ok (.aload_n 0, 1) := by decide +kernel
theorem dX6_far_9 : decode cX6_far 9 = .ok (.iload_n 2, 1) := by decide +kernel
theorem dX6_far_10 : decode cX6_far 10 = .ok (.invokevirtual 102, 3) := by decide +kernel
theorem dX6_far_13 : decode cX6_far 13 = .ok (.ifCond .eq 22, 3) := by decide +kernel
theorem dX6_far_16 : decode cX6_far 16 = .ok (.aload_n 0, 1) := by decide +kernel
theorem dX6_far_17 : decode cX6_far 17 = .ok (.aload_n 0, 1) := by decide +kernel
theorem dX6_far_18 : decode cX6_far 18 = .ok (.iload_n 1, 1) := by decide +kernel
theorem dX6_far_19 : decode cX6_far 19 = .ok (.iload_n 2, 1) := by decide +kernel
theorem dX6_far_20 : decode cX6_far 20 = .ok (.aload_n 0, 1) := by decide +kernel
theorem dX6_far_21 : decode cX6_far 21 = .ok (.getfield 7, 3) := by decide +kernel
theorem dX6_far_24 : decode cX6_far 24 = .ok (.iconst 1, 1) := by decide +kernel
theorem dX6_far_25 : decode cX6_far 25 = .ok (.iaload, 1) := by decide +kernel
theorem dX6_far_26 : decode cX6_far 26 = .ok (.invokevirtual 202, 3) := by decide +kernel
theorem dX6_far_29 : decode cX6_far 29 = .ok (.invokevirtual 81, 3) := by decide +kernel
theorem dX6_far_32 : decode cX6_far 32 = .ok (.goto 8, 3) := by decide +kernel
theorem dX6_far_35 : decode cX6_far 35 = .ok (.aload_n 0, 1) := by decide +kernel
theorem dX6_far_36 : decode cX6_far 36 = .ok (.iconst 1, 1) := by decide +kernel
theorem dX6_far_37 : decode cX6_far 37 = .ok (.invokevirtual 77, 3) := by decide +kernel
theorem dX6_far_40 : decode cX6_far 40 = .ok (.ireturn, 1) := by decide +kernel
theorem dX6_lengthOf_0 : decode cX6_lengthOf 0 = .ok (.iload_n 1, 1) := by decide +kernel
theorem dX6_lengthOf_1 : decode cX6_lengthOf 1 = .ok (.aload_n 0, 1) := by decide +kernel
theorem dX6_lengthOf_2 : decode cX6_lengthOf 2 = .ok (.getfield 7, 3) := by decide +kernel
theorem dX6_lengthOf_5 : decode cX6_lengthOf 5 = .ok (.iconst 0, 1) := by decide +kernel
theorem dX6_lengthOf_6 : decode cX6_lengthOf 6 = .ok (.iaload, 1) := by decide +kernel
theorem dX6_lengthOf_7 : decode cX6_lengthOf 7 = .ok (.if_icmp .ge 12, 3) := by decide +kernel
theorem dX6_lengthOf_10 : decode cX6_lengthOf 10 = .ok (.aload_n 0, 1) := by decide +kernel
theorem dX6_lengthOf_11 : decode cX6_lengthOf 11 = .ok (.getfield 7, 3) := by decide +kernel
theorem dX6_lengthOf_14 : decode cX6_lengthOf 14 = .ok (.iconst 1, 1) := by decide +kernel
theorem dX6_lengthOf_15 : decode cX6_lengthOf 15 = .ok (.iaload, 1) := by decide +kernel
theorem dX6_lengthOf_16 : decode cX6_lengthOf 16 = .ok (.goto 9, 3) := by decide +kernel
theorem dX6_lengthOf_19 : decode cX6_lengthOf 19 = .ok (.aload_n 0, 1) := by decide +kernel
theorem dX6_lengthOf_20 : decode cX6_lengthOf 20 = .ok (.getfield 7, 3) := by decide +kernel
theorem dX6_lengthOf_23 : decode cX6_lengthOf 23 = .ok (.iconst 0, 1) := by decide +kernel
theorem dX6_lengthOf_24 : decode cX6_lengthOf 24 = .ok (.iaload, 1) := by decide +kernel
theorem dX6_lengthOf_25 : decode cX6_lengthOf 25 = .ok (.ireturn, 1) := by decide +kernel
theorem dX6_placeOn_0 : decode cX6_placeOn 0 = .ok (.iload_n 1, 1) := by decide +kernel
theorem dX6_placeOn_1 : decode cX6_placeOn 1 = .ok (.aload_n 0, 1) := by decide +kernel
theorem dX6_placeOn_2 : decode cX6_placeOn 2 = .ok (.getfield 7, 3) := by decide +kernel
theorem dX6_placeOn_5 : decode cX6_placeOn 5 = .ok (.iconst 0, 1) := by decide +kernel
theorem dX6_placeOn_6 : decode cX6_placeOn 6 = .ok (.iaload, 1) := by decide +kernel
theorem dX6_placeOn_7 : decode cX6_placeOn 7 = .ok (.if_icmp .ge 16, 3) := by decide +kernel
theorem dX6_placeOn_10 : decode cX6_placeOn 10 = .ok (.aload_n 0, 1) := by decide +kernel
theorem dX6_placeOn_11 : decode cX6_placeOn 11 = .ok (.getfield 7, 3) := by decide +kernel
theorem dX6_placeOn_14 : decode cX6_placeOn 14 = .ok (.iconst 1, 1) := by decide +kernel
theorem dX6_placeOn_15 : decode cX6_placeOn 15 = .ok (.iaload, 1) := by decide +kernel
theorem dX6_placeOn_16 : decode cX6_placeOn 16 = .ok (.iload_n 1, 1) := by decide +kernel
theorem dX6_placeOn_17 : decode cX6_placeOn 17 = .ok (.imul, 1) := by decide +kernel
theorem dX6_placeOn_18 : decode cX6_placeOn 18 = .ok (.iload_n 2, 1) := by decide +kernel
theorem dX6_placeOn_19 : decode cX6_placeOn 19 = .ok (.iadd, 1) := by decide +kernel
theorem dX6_placeOn_20 : decode cX6_placeOn 20 = .ok (.goto 20, 3) := by decide +kernel
theorem dX6_placeOn_23 : decode cX6_placeOn 23 = .ok (.aload_n 0, 1) := by decide +kernel
theorem dX6_placeOn_24 : decode cX6_placeOn 24 = .ok (.getfield 7, 3) := by decide +kernel
theorem dX6_placeOn_27 : decode cX6_placeOn 27 = .ok (.iconst 1, 1) := by decide +kernel
theorem dX6_placeOn_28 : decode cX6_placeOn 28 = .ok (.iaload, 1) := by decide +kernel
theorem dX6_placeOn_29 : decode cX6_placeOn 29 = .ok (.iload_n 2, 1) := by decide +kernel
theorem dX6_placeOn_30 : decode cX6_placeOn 30 = .ok (.imul, 1) := by decide +kernel
theorem dX6_placeOn_31 : decode cX6_placeOn 31 = .ok (.iload_n 1, 1) := by decide +kernel
theorem dX6_placeOn_32 : decode cX6_placeOn 32 = .ok (.iadd, 1) := by decide +kernel
theorem dX6_placeOn_33 : decode cX6_placeOn 33 = .ok (.aload_n 0, 1) := by decide +kernel
theorem dX6_placeOn_34 : decode cX6_placeOn 34 = .ok (.getfield 7, 3) := by decide +kernel
theorem dX6_placeOn_37 : decode cX6_placeOn 37 = .ok (.iconst 0, 1) := by decide +kernel
theorem dX6_placeOn_38 : decode cX6_placeOn 38 = .ok (.iaload, 1) := by decide +kernel
theorem dX6_placeOn_39 : decode cX6_placeOn 39 = .ok (.isub, 1) := by decide +kernel
theorem dX6_placeOn_40 : decode cX6_placeOn 40 = .ok (.ireturn, 1) := by decide +kernel
theorem dX6_isVowelOn_0 : decode cX6_isVowelOn 0 = .ok (.aload_n 0, 1) := by decide +kernel
theorem dX6_isVowelOn_1 : decode cX6_isVowelOn 1 = .ok (.getfield 7, 3) := by decide +kernel
theorem dX6_isVowelOn_4 : decode cX6_isVowelOn 4 = .ok (.bipush 14, 2) := by decide +kernel
theorem dX6_isVowelOn_6 : decode cX6_isVowelOn 6 = .ok (.aload_n 0, 1) := by decide +kernel
theorem dX6_isVowelOn_7 : decode cX6_isVowelOn 7 = .ok (.iload_n 1, 1) := by decide +kernel
theorem dX6_isVowelOn_8 : decode cX6_isVowelOn 8 = .ok (.iload_n 2, 1) := by decide +kernel
theorem dX6_isVowelOn_9 : decode cX6_isVowelOn 9 = .ok (.aload_n 0, 1) := by decide +kernel
theorem dX6_isVowelOn_10 : decode cX6_isVowelOn 10 = .ok (.iload_n 1, 1) := by decide +kernel
theorem dX6_isVowelOn_11 : decode cX6_isVowelOn 11 = .ok (.invokevirtual 205, 3) := by decide +kernel
theorem dX6_isVowelOn_14 : decode cX6_isVowelOn 14 = .ok (.irem, 1) := by decide +kernel
theorem dX6_isVowelOn_15 : decode cX6_isVowelOn 15 = .ok (.invokevirtual 208, 3) := by decide +kernel
theorem dX6_isVowelOn_18 : decode cX6_isVowelOn 18 = .ok (.iadd, 1) := by decide +kernel
theorem dX6_isVowelOn_19 : decode cX6_isVowelOn 19 = .ok (.iaload, 1) := by decide +kernel
theorem dX6_isVowelOn_20 : decode cX6_isVowelOn 20 = .ok (.invokestatic 211, 3) := by decide +kernel
theorem dX6_isVowelOn_23 : decode cX6_isVowelOn 23 = .ok (.ireturn, 1) := by decide +kernel
theorem dX6_vowels_0 : decode cX6_vowels 0 = .ok (.iconst 0, 1) := by decide +kernel
theorem dX6_vowels_1 : decode cX6_vowels 1 = .ok (.istore_n 2, 1) := by decide +kernel
theorem dX6_vowels_2 : decode cX6_vowels 2 = .ok (.iconst 0, 1) := by decide +kernel
theorem dX6_vowels_3 : decode cX6_vowels 3 = .ok (.istore_n 3, 1) := by decide +kernel
theorem dX6_vowels_4 : decode cX6_vowels 4 = .ok (.iload_n 3, 1) := by decide +kernel
theorem dX6_vowels_5 : decode cX6_vowels 5 = .ok (.aload_n 0, 1) := by decide +kernel
theorem dX6_vowels_6 : decode cX6_vowels 6 = .ok (.iload_n 1, 1) := by decide +kernel
theorem dX6_vowels_7 : decode cX6_vowels 7 = .ok (.invokevirtual 205, 3) := by decide +kernel
theorem dX6_vowels_10 : decode cX6_vowels 10 = .ok (.if_icmp .ge 26, 3) := by decide +kernel
theorem dX6_vowels_13 : decode cX6_vowels 13 = .ok (.iload_n 2, 1) := by decide +kernel
theorem dX6_vowels_14 : decode cX6_vowels 14 = .ok (.aload_n 0, 1) := by decide +kernel
theorem dX6_vowels_15 : decode cX6_vowels 15 = .ok (.iload_n 1, 1) := by decide +kernel
theorem dX6_vowels_16 : decode cX6_vowels 16 = .ok (.iload_n 3, 1) := by decide +kernel
theorem dX6_vowels_17 : decode cX6_vowels 17 = .ok (.invokevirtual 214, 3) := by decide +kernel
theorem dX6_vowels_20 : decode cX6_vowels 20 = .ok (.ifCond .eq 7, 3) := by decide +kernel
theorem dX6_vowels_23 : decode cX6_vowels 23 = .ok (.iconst 1, 1) := by decide +kernel
theorem dX6_vowels_24 : decode cX6_vowels 24 = .ok (.goto 4, 3) := by decide +kernel
theorem dX6_vowels_27 : decode cX6_vowels 27 = .ok (.iconst 0, 1) := by decide +kernel
theorem dX6_vowels_28 : decode cX6_vowels 28 = .ok (.iadd, 1) := by decide +kernel
theorem dX6_vowels_29 : decode cX6_vowels 29 = .ok (.istore_n 2, 1) := by decide +kernel
theorem dX6_vowels_30 : decode cX6_vowels 30 = .ok (.iinc 3 1, 3) := by decide +kernel
theorem dX6_vowels_33 : decode cX6_vowels 33 = .ok (.goto (-29), 3) := by decide +kernel
theorem dX6_vowels_36 : decode cX6_vowels 36 = .ok (.iload_n 2, 1) := by decide +kernel
theorem dX6_vowels_37 : decode cX6_vowels 37 = .ok (.ireturn, 1) := by decide +kernel
theorem dX6_isSinging_0 : decode cX6_isSinging 0 = .ok (.aload_n 0, 1) := by decide +kernel
theorem dX6_isSinging_1 : decode cX6_isSinging 1 = .ok (.iload_n 1, 1) := by decide +kernel
theorem dX6_isSinging_2 : decode cX6_isSinging 2 = .ok (.invokevirtual 217, 3) := by decide +kernel
theorem dX6_isSinging_5 : decode cX6_isSinging 5 = .ok (.ifCond .le 7, 3) := by decide +kernel
theorem dX6_isSinging_8 : decode cX6_isSinging 8 = .ok (.iconst 1, 1) := by decide +kernel
theorem dX6_isSinging_9 : decode cX6_isSinging 9 = .ok (.goto 4, 3) := by decide +kernel
theorem dX6_isSinging_12 : decode cX6_isSinging 12 = .ok (.iconst 0, 1) := by decide +kernel
theorem dX6_isSinging_13 : decode cX6_isSinging 13 = .ok (.istore_n 2, 1) := by decide +kernel
theorem dX6_isSinging_14 : decode cX6_isSinging 14 = .ok (.iconst 0, 1) := by decide +kernel
theorem dX6_isSinging_15 : decode cX6_isSinging 15 = .ok (.istore_n 3, 1) := by decide +kernel
theorem dX6_isSinging_16 : decode cX6_isSinging 16 = .ok (.iload_n 3, 1) := by decide +kernel
theorem dX6_isSinging_17 : decode cX6_isSinging 17 = .ok (.aload_n 0, 1) := by decide +kernel
theorem dX6_isSinging_18 : decode cX6_isSinging 18 = .ok (.iload_n 1, 1) := by decide +kernel
theorem dX6_isSinging_19 : decode cX6_isSinging 19 = .ok (.invokevirtual 205, 3) := by decide +kernel
theorem dX6_isSinging_22 : decode cX6_isSinging 22 = .ok (.if_icmp .ge 39, 3) := by decide +kernel
theorem dX6_isSinging_25 : decode cX6_isSinging 25 = .ok (.iload_n 2, 1) := by decide +kernel
theorem dX6_isSinging_26 : decode cX6_isSinging 26 = .ok (.ifCond .eq 27, 3) := by decide +kernel
theorem dX6_isSinging_29 : decode cX6_isSinging 29 = .ok (.aload_n 0, 1) := by decide +kernel
theorem dX6_isSinging_30 : decode cX6_isSinging 30 = .ok (.iload_n 1, 1) := by decide +kernel
theorem dX6_isSinging_31 : decode cX6_isSinging 31 = .ok (.iload_n 3, 1) := by decide +kernel
theorem dX6_isSinging_32 : decode cX6_isSinging 32 = .ok (.invokevirtual 214, 3) := by decide +kernel
theorem dX6_isSinging_35 : decode cX6_isSinging 35 = .ok (.ifCond .eq 14, 3) := by decide +kernel
theorem dX6_isSinging_38 : decode cX6_isSinging 38 = .ok (.aload_n 0, 1) := by decide +kernel
theorem dX6_isSinging_39 : decode cX6_isSinging 39 = .ok (.iload_n 1, 1) := by decide +kernel
theorem dX6_isSinging_40 : decode cX6_isSinging 40 = .ok (.iload_n 3, 1) := by decide +kernel
theorem dX6_isSinging_41 : decode cX6_isSinging 41 = .ok (.iconst 1, 1) := by decide +kernel
theorem dX6_isSinging_42 : decode cX6_isSinging 42 = .ok (.iadd, 1) := by decide +kernel
theorem dX6_isSinging_43 : decode cX6_isSinging 43 = .ok (.invokevirtual 214, 3) := by decide +kernel
theorem dX6_isSinging_46 : decode cX6_isSinging 46 = .ok (.ifCond .ne 7, 3) := by decide +kernel
theorem dX6_isSinging_49 : decode cX6_isSinging 49 = .ok (.iconst 1, 1) := by decide +kernel
theorem dX6_isSinging_50 : decode cX6_isSinging 50 = .ok (.goto 4, 3) := by decide +kernel
theorem dX6_isSinging_53 : decode cX6_isSinging 53 = .ok (.iconst 0, 1) := by decide +kernel
theorem dX6_isSinging_54 : decode cX6_isSinging 54 = .ok (.istore_n 2, 1) := by decide +kernel
theorem dX6_isSinging_55 : decode cX6_isSinging 55 = .ok (.iinc 3 1, 3) := by decide +kernel
theorem dX6_isSinging_58 : decode cX6_isSinging 58 = .ok (.goto (-42), 3) := by decide +kernel
theorem dX6_isSinging_61 : decode cX6_isSinging 61 = .ok (.iload_n 2, 1) := by decide +kernel
theorem dX6_isSinging_62 : decode cX6_isSinging 62 = .ok (.ireturn, 1) := by decide +kernel
theorem dX6_sings_0 : decode cX6_sings 0 = .ok (.aload_n 0, 1) := by decide +kernel
theorem dX6_sings_1 : decode cX6_sings 1 = .ok (.aload_n 0, 1) := by decide +kernel
theorem dX6_sings_2 : decode cX6_sings 2 = .ok (.iload_n 1, 1) := by decide +kernel
theorem dX6_sings_3 : decode cX6_sings 3 = .ok (.invokevirtual 155, 3) := by decide +kernel
theorem dX6_sings_6 : decode cX6_sings 6 = .ok (.ifCond .eq 7, 3) := by decide +kernel
theorem dX6_sings_9 : decode cX6_sings 9 = .ok (.iconst 0, 1) := by decide +kernel
theorem dX6_sings_10 : decode cX6_sings 10 = .ok (.goto 4, 3) := by decide +kernel
theorem dX6_sings_13 : decode cX6_sings 13 = .ok (.iconst 1, 1) := by decide +kernel
theorem dX6_sings_14 : decode cX6_sings 14 = .ok (.putfield 46, 3) := by decide +kernel
theorem dX6_sings_17 : decode cX6_sings 17 = .ok (.aload_n 0, 1) := by decide +kernel
theorem dX6_sings_18 : decode cX6_sings 18 = .ok (.getfield 46, 3) := by decide +kernel
theorem dX6_sings_21 : decode cX6_sings 21 = .ok (.ifCond .ne 15, 3) := by decide +kernel
theorem dX6_sings_24 : decode cX6_sings 24 = .ok (.aload_n 0, 1) := by decide +kernel
theorem dX6_sings_25 : decode cX6_sings 25 = .ok (.iload_n 1, 1) := by decide +kernel
theorem dX6_sings_26 : decode cX6_sings 26 = .ok (.invokevirtual 220, 3) := by decide +kernel
theorem dX6_sings_29 : decode cX6_sings 29 = .ok (.ifCond .eq 7, 3) := by decide +kernel
theorem dX6_sings_32 : decode cX6_sings 32 = .ok (.iconst 1, 1) := by decide +kernel
theorem dX6_sings_33 : decode cX6_sings 33 = .ok (.goto 4, 3) := by decide +kernel
theorem dX6_sings_36 : decode cX6_sings 36 = .ok (.iconst 0, 1) := by decide +kernel
theorem dX6_sings_37 : decode cX6_sings 37 = .ok (.ireturn, 1) := by decide +kernel
theorem dX6_singing_0 : decode cX6_singing 0 = .ok (.iconst 0, 1) := by decide +kernel
theorem dX6_singing_1 : decode cX6_singing 1 = .ok (.istore_n 1, 1) := by decide +kernel
theorem dX6_singing_2 : decode cX6_singing 2 = .ok (.iconst 0, 1) := by decide +kernel
theorem dX6_singing_3 : decode cX6_singing 3 = .ok (.istore_n 2, 1) := by decide +kernel
theorem dX6_singing_4 : decode cX6_singing 4 = .ok (.iload_n 2, 1) := by decide +kernel
theorem dX6_singing_5 : decode cX6_singing 5 = .ok (.aload_n 0, 1) := by decide +kernel
theorem dX6_singing_6 : decode cX6_singing 6 = .ok (.invokevirtual 74, 3) := by decide +kernel
theorem dX6_singing_9 : decode cX6_singing 9 = .ok (.if_icmp .ge 25, 3) := by decide +kernel
theorem dX6_singing_12 : decode cX6_singing 12 = .ok (.iload_n 1, 1) := by decide +kernel
theorem dX6_singing_13 : decode cX6_singing 13 = .ok (.aload_n 0, 1) := by decide +kernel
theorem dX6_singing_14 : decode cX6_singing 14 = .ok (.iload_n 2, 1) := by decide +kernel
theorem dX6_singing_15 : decode cX6_singing 15 = .ok (.invokevirtual 220, 3) := by decide +kernel
theorem dX6_singing_18 : decode cX6_singing 18 = .ok (.ifCond .eq 7, 3) := by decide +kernel
theorem dX6_singing_21 : decode cX6_singing 21 = .ok (.iconst 1, 1) := by decide +kernel
theorem dX6_singing_22 : decode cX6_singing 22 = .ok (.goto 4, 3) := by decide +kernel
theorem dX6_singing_25 : decode cX6_singing 25 = .ok (.iconst 0, 1) := by decide +kernel
theorem dX6_singing_26 : decode cX6_singing 26 = .ok (.iadd, 1) := by decide +kernel
theorem dX6_singing_27 : decode cX6_singing 27 = .ok (.istore_n 1, 1) := by decide +kernel
theorem dX6_singing_28 : decode cX6_singing 28 = .ok (.iinc 2 1, 3) := by decide +kernel
theorem dX6_singing_31 : decode cX6_singing 31 = .ok (.goto (-27), 3) := by decide +kernel
theorem dX6_singing_34 : decode cX6_singing 34 = .ok (.aload_n 0, 1) := by decide +kernel
theorem dX6_singing_35 : decode cX6_singing 35 = .ok (.iload_n 1, 1) := by decide +kernel
theorem dX6_singing_36 : decode cX6_singing 36 = .ok (.invokevirtual 81, 3) := by decide +kernel
theorem dX6_singing_39 : decode cX6_singing 39 = .ok (.ireturn, 1) := by decide +kernel
theorem dX6_ranked_0 : decode cX6_ranked 0 = .ok (.iconst 0, 1) := by decide +kernel
theorem dX6_ranked_1 : decode cX6_ranked 1 = .ok (.istore_n 2, 1) := by decide +kernel
theorem dX6_ranked_2 : decode cX6_ranked 2 = .ok (.iload_n 2, 1) := by decide +kernel
theorem dX6_ranked_3 : decode cX6_ranked 3 = .ok (.aload_n 0, 1) := by decide +kernel
theorem dX6_ranked_4 : decode cX6_ranked 4 = .ok (.invokevirtual 74, 3) := by decide +kernel
theorem dX6_ranked_7 : decode cX6_ranked 7 = .ok (.if_icmp .ge 82, 3) := by decide +kernel
theorem dX6_ranked_10 : decode cX6_ranked 10 = .ok (.iconst 0, 1) := by decide +kernel
theorem dX6_ranked_11 : decode cX6_ranked 11 = .ok (.istore_n 3, 1) := by decide +kernel
theorem dX6_ranked_12 : decode cX6_ranked 12 = .ok (.iconst 0, 1) := by decide +kernel
theorem dX6_ranked_13 : decode cX6_ranked 13 = .ok (.istore 4, 2) := by decide +kernel
theorem dX6_ranked_15 : decode cX6_ranked 15 = .ok (.iload 4, 2) := by decide +kernel
theorem dX6_ranked_17 : decode cX6_ranked 17 = .ok (.aload_n 0, 1) := by decide +kernel
theorem dX6_ranked_18 : decode cX6_ranked 18 = .ok (.invokevirtual 74, 3) := by decide +kernel
theorem dX6_ranked_21 : decode cX6_ranked 21 = .ok (.if_icmp .ge 51, 3) := by decide +kernel
theorem dX6_ranked_24 : decode cX6_ranked 24 = .ok (.iload_n 3, 1) := by decide +kernel
theorem dX6_ranked_25 : decode cX6_ranked 25 = .ok (.aload_n 0, 1) := by decide +kernel
theorem dX6_ranked_26 : decode cX6_ranked 26 = .ok (.iload 4, 2) := by decide +kernel
theorem dX6_ranked_28 : decode cX6_ranked 28 = .ok (.invokevirtual 217, 3) := by decide +kernel
theorem dX6_ranked_31 : decode cX6_ranked 31 = .ok (.aload_n 0, 1) := by decide +kernel
theorem dX6_ranked_32 : decode cX6_ranked 32 = .ok (.iload_n 2, 1) := by decide +kernel
theorem dX6_ranked_33 : decode cX6_ranked 33 = .ok (.invokevirtual 217, 3) := by decide +kernel
theorem dX6_ranked_36 : decode cX6_ranked 36 = .ok (.if_icmp .gt 23, 3) := by decide +kernel
theorem dX6_ranked_39 : decode cX6_ranked 39 = .ok (.aload_n 0, 1) := by decide +kernel
theorem dX6_ranked_40 : decode cX6_ranked 40 = .ok (.iload 4, 2) := by decide +kernel
theorem dX6_ranked_42 : decode cX6_ranked 42 = .ok (.invokevirtual 217, 3) := by decide +kernel
theorem dX6_ranked_45 : decode cX6_ranked 45 = .ok (.aload_n 0, 1) := by decide +kernel
theorem dX6_ranked_46 : decode cX6_ranked 46 = .ok (.iload_n 2, 1) := by decide +kernel
theorem dX6_ranked_47 : decode cX6_ranked 47 = .ok (.invokevirtual 217, 3) := by decide +kernel
theorem dX6_ranked_50 : decode cX6_ranked 50 = .ok (.if_icmp .ne 13, 3) := by decide +kernel
theorem dX6_ranked_53 : decode cX6_ranked 53 = .ok (.iload 4, 2) := by decide +kernel
theorem dX6_ranked_55 : decode cX6_ranked 55 = .ok (.iload_n 2, 1) := by decide +kernel
theorem dX6_ranked_56 : decode cX6_ranked 56 = .ok (.if_icmp .ge 7, 3) := by decide +kernel
theorem dX6_ranked_59 : decode cX6_ranked 59 = .ok (.iconst 1, 1) := by decide +kernel
theorem dX6_ranked_60 : decode cX6_ranked 60 = .ok (.goto 4, 3) := by decide +kernel
theorem dX6_ranked_63 : decode cX6_ranked 63 = .ok (.iconst 0, 1) := by decide +kernel
theorem dX6_ranked_64 : decode cX6_ranked 64 = .ok (.iadd, 1) := by decide +kernel
theorem dX6_ranked_65 : decode cX6_ranked 65 = .ok (.istore_n 3, 1) := by decide +kernel
theorem dX6_ranked_66 : decode cX6_ranked 66 = .ok (.iinc 4 1, 3) := by decide +kernel
theorem dX6_ranked_69 : decode cX6_ranked 69 = .ok (.goto (-54), 3) := by decide +kernel
theorem dX6_ranked_72 : decode cX6_ranked 72 = .ok (.iload_n 3, 1) := by decide +kernel
theorem dX6_ranked_73 : decode cX6_ranked 73 = .ok (.iload_n 1, 1) := by decide +kernel
theorem dX6_ranked_74 : decode cX6_ranked 74 = .ok (.if_icmp .ne 9, 3) := by decide +kernel
theorem dX6_ranked_77 : decode cX6_ranked 77 = .ok (.aload_n 0, 1) := by decide +kernel
theorem dX6_ranked_78 : decode cX6_ranked 78 = .ok (.iload_n 2, 1) := by decide +kernel
theorem dX6_ranked_79 : decode cX6_ranked 79 = .ok (.invokevirtual 81, 3) := by decide +kernel
theorem dX6_ranked_82 : decode cX6_ranked 82 = .ok (.ireturn, 1) := by decide +kernel
theorem dX6_ranked_83 : decode cX6_ranked 83 = .ok (.iinc 2 1, 3) := by decide +kernel
theorem dX6_ranked_86 : decode cX6_ranked 86 = .ok (.goto (-84), 3) := by decide +kernel
theorem dX6_ranked_89 : decode cX6_ranked 89 = .ok (.aload_n 0, 1) := by decide +kernel
theorem dX6_ranked_90 : decode cX6_ranked 90 = .ok (.iconst 1, 1) := by decide +kernel
theorem dX6_ranked_91 : decode cX6_ranked 91 = .ok (.invokevirtual 77, 3) := by decide +kernel
theorem dX6_ranked_94 : decode cX6_ranked 94 = .ok (.ireturn, 1) := by decide +kernel
theorem dX6_writes_0 : decode cX6_writes 0 = .ok (.aload_n 0, 1) := by decide +kernel
theorem dX6_writes_1 : decode cX6_writes 1 = .ok (.getfield 30, 3) := by decide +kernel
theorem dX6_writes_4 : decode cX6_writes 4 = .ok (.aload_n 0, 1) := by decide +kernel
theorem dX6_writes_5 : decode cX6_writes 5 = .ok (.getfield 223, 3) := by decide +kernel
theorem dX6_writes_8 : decode cX6_writes 8 = .ok (.iload_n 1, 1) := by decide +kernel
theorem dX6_writes_9 : decode cX6_writes 9 = .ok (.i2c, 1) := by decide +kernel
theorem dX6_writes_10 : decode cX6_writes 10 = .ok (.castore, 1) := by decide +kernel
theorem dX6_writes_11 : decode cX6_writes 11 = .ok (.aload_n 0, 1) := by decide +kernel
theorem dX6_writes_12 : decode cX6_writes 12 = .ok (.dup, 1) := by decide +kernel
theorem dX6_writes_13 : decode cX6_writes 13 = .ok (.getfield 223, 3) := by decide +kernel
theorem dX6_writes_16 : decode cX6_writes 16 = .ok (.iconst 1, 1) := by decide +kernel
theorem dX6_writes_17 : decode cX6_writes 17 = .ok (.iadd, 1) := by decide +kernel
theorem dX6_writes_18 : decode cX6_writes 18 = .ok (.putfield 223, 3) := by decide +kernel
theorem dX6_writes_21 : decode cX6_writes 21 = .ok (.return_, 1) := by decide +kernel
theorem dX6_writesAll_0 : decode cX6_writesAll 0 = .ok (.aload_n 0, 1) := by decide +kernel
theorem dX6_writesAll_1 : decode cX6_writesAll 1 = .ok (.iconst 0, 1) := by decide +kernel
theorem dX6_writesAll_2 : decode cX6_writesAll 2 = .ok (.putfield 223, 3) := by decide +kernel
theorem dX6_writesAll_5 : decode cX6_writesAll 5 = .ok (.iconst 0, 1) := by decide +kernel
theorem dX6_writesAll_6 : decode cX6_writesAll 6 = .ok (.istore_n 2, 1) := by decide +kernel
theorem dX6_writesAll_7 : decode cX6_writesAll 7 = .ok (.iload_n 2, 1) := by decide +kernel
theorem dX6_writesAll_8 : decode cX6_writesAll 8 = .ok (.aload_n 0, 1) := by decide +kernel
theorem dX6_writesAll_9 : decode cX6_writesAll 9 = .ok (.invokevirtual 66, 3) := by decide +kernel
theorem dX6_writesAll_12 : decode cX6_writesAll 12 = .ok (.if_icmp .ge 45, 3) := by decide +kernel
theorem dX6_writesAll_15 : decode cX6_writesAll 15 = .ok (.iload_n 2, 1) := by decide +kernel
theorem dX6_writesAll_16 : decode cX6_writesAll 16 = .ok (.ifCond .le 20, 3) := by decide +kernel
theorem dX6_writesAll_19 : decode cX6_writesAll 19 = .ok (.iload_n 2, 1) := by decide +kernel
theorem dX6_writesAll_20 : decode cX6_writesAll 20 = .ok (.aload_n 0, 1) := by decide +kernel
theorem dX6_writesAll_21 : decode cX6_writesAll 21 = .ok (.getfield 7, 3) := by decide +kernel
theorem dX6_writesAll_24 : decode cX6_writesAll 24 = .ok (.iconst 1, 1) := by decide +kernel
theorem dX6_writesAll_25 : decode cX6_writesAll 25 = .ok (.iaload, 1) := by decide +kernel
theorem dX6_writesAll_26 : decode cX6_writesAll 26 = .ok (.irem, 1) := by decide +kernel
theorem dX6_writesAll_27 : decode cX6_writesAll 27 = .ok (.ifCond .ne 9, 3) := by decide +kernel
theorem dX6_writesAll_30 : decode cX6_writesAll 30 = .ok (.aload_n 0, 1) := by decide +kernel
theorem dX6_writesAll_31 : decode cX6_writesAll 31 = .ok (.bipush 47, 2) := by decide +kernel
theorem dX6_writesAll_33 : decode cX6_writesAll 33 = .ok (.invokevirtual 226, 3) := by decide +kernel
theorem dX6_writesAll_36 : decode cX6_writesAll 36 = .ok (.aload_n 0, 1) := by decide +kernel
theorem dX6_writesAll_37 : decode cX6_writesAll 37 = .ok (.aload_n 0, 1) := by decide +kernel
theorem dX6_writesAll_38 : decode cX6_writesAll 38 = .ok (.getfield 7, 3) := by decide +kernel
theorem dX6_writesAll_41 : decode cX6_writesAll 41 = .ok (.iload_n 1, 1) := by decide +kernel
theorem dX6_writesAll_42 : decode cX6_writesAll 42 = .ok (.iload_n 2, 1) := by decide +kernel
theorem dX6_writesAll_43 : decode cX6_writesAll 43 = .ok (.iadd, 1) := by decide +kernel
theorem dX6_writesAll_44 : decode cX6_writesAll 44 = .ok (.iaload, 1) := by decide +kernel
theorem dX6_writesAll_45 : decode cX6_writesAll 45 = .ok (.invokestatic 98, 3) := by decide +kernel
theorem dX6_writesAll_48 : decode cX6_writesAll 48 = .ok (.invokevirtual 226, 3) := by decide +kernel
theorem dX6_writesAll_51 : decode cX6_writesAll 51 = .ok (.iinc 2 1, 3) := by decide +kernel
theorem dX6_writesAll_54 : decode cX6_writesAll 54 = .ok (.goto (-47), 3) := by decide +kernel
theorem dX6_writesAll_57 : decode cX6_writesAll 57 = .ok (.aload_n 0, 1) := by decide +kernel
theorem dX6_writesAll_58 : decode cX6_writesAll 58 = .ok (.aload_n 0, 1) := by decide +kernel
theorem dX6_writesAll_59 : decode cX6_writesAll 59 = .ok (.getfield 223, 3) := by decide +kernel
theorem dX6_writesAll_62 : decode cX6_writesAll 62 = .ok (.invokevirtual 81, 3) := by decide +kernel
theorem dX6_writesAll_65 : decode cX6_writesAll 65 = .ok (.ireturn, 1) := by decide +kernel
theorem dX6_text_0 : decode cX6_text 0 = .ok (.aload_n 0, 1) := by decide +kernel
theorem dX6_text_1 : decode cX6_text 1 = .ok (.bipush 14, 2) := by decide +kernel
theorem dX6_text_3 : decode cX6_text 3 = .ok (.invokevirtual 229, 3) := by decide +kernel
theorem dX6_text_6 : decode cX6_text 6 = .ok (.ireturn, 1) := by decide +kernel
theorem dX6_goalText_0 : decode cX6_goalText 0 = .ok (.aload_n 0, 1) := by decide +kernel
theorem dX6_goalText_1 : decode cX6_goalText 1 = .ok (.bipush 23, 2) := by decide +kernel
theorem dX6_goalText_3 : decode cX6_goalText 3 = .ok (.invokevirtual 229, 3) := by decide +kernel
theorem dX6_goalText_6 : decode cX6_goalText 6 = .ok (.ireturn, 1) := by decide +kernel
theorem dX6_lineText_0 : decode cX6_lineText 0 = .ok (.aload_n 0, 1) := by decide +kernel
theorem dX6_lineText_1 : decode cX6_lineText 1 = .ok (.iload_n 1, 1) := by decide +kernel
theorem dX6_lineText_2 : decode cX6_lineText 2 = .ok (.invokevirtual 155, 3) := by decide +kernel
theorem dX6_lineText_5 : decode cX6_lineText 5 = .ok (.ifCond .ne 9, 3) := by decide +kernel
theorem dX6_lineText_8 : decode cX6_lineText 8 = .ok (.aload_n 0, 1) := by decide +kernel
theorem dX6_lineText_9 : decode cX6_lineText 9 = .ok (.iconst 1, 1) := by decide +kernel
theorem dX6_lineText_10 : decode cX6_lineText 10 = .ok (.invokevirtual 77, 3) := by decide +kernel
theorem dX6_lineText_13 : decode cX6_lineText 13 = .ok (.ireturn, 1) := by decide +kernel
theorem dX6_lineText_14 : decode cX6_lineText 14 = .ok (.aload_n 0, 1) := by decide +kernel
theorem dX6_lineText_15 : decode cX6_lineText 15 = .ok (.iconst 0, 1) := by decide +kernel
theorem dX6_lineText_16 : decode cX6_lineText 16 = .ok (.putfield 223, 3) := by decide +kernel
theorem dX6_lineText_19 : decode cX6_lineText 19 = .ok (.aload_n 0, 1) := by decide +kernel
theorem dX6_lineText_20 : decode cX6_lineText 20 = .ok (.getfield 7, 3) := by decide +kernel
theorem dX6_lineText_23 : decode cX6_lineText 23 = .ok (.bipush 8, 2) := by decide +kernel
theorem dX6_lineText_25 : decode cX6_lineText 25 = .ok (.iload_n 1, 1) := by decide +kernel
theorem dX6_lineText_26 : decode cX6_lineText 26 = .ok (.iadd, 1) := by decide +kernel
theorem dX6_lineText_27 : decode cX6_lineText 27 = .ok (.iaload, 1) := by decide +kernel
theorem dX6_lineText_28 : decode cX6_lineText 28 = .ok (.iconst 1, 1) := by decide +kernel
theorem dX6_lineText_29 : decode cX6_lineText 29 = .ok (.if_icmp .ne 9, 3) := by decide +kernel
theorem dX6_lineText_32 : decode cX6_lineText 32 = .ok (.aload_n 0, 1) := by decide +kernel
theorem dX6_lineText_33 : decode cX6_lineText 33 = .ok (.bipush 35, 2) := by decide +kernel
theorem dX6_lineText_35 : decode cX6_lineText 35 = .ok (.invokevirtual 226, 3) := by decide +kernel
theorem dX6_lineText_38 : decode cX6_lineText 38 = .ok (.iconst 0, 1) := by decide +kernel
theorem dX6_lineText_39 : decode cX6_lineText 39 = .ok (.istore_n 2, 1) := by decide +kernel
theorem dX6_lineText_40 : decode cX6_lineText 40 = .ok (.iload_n 2, 1) := by decide +kernel
theorem dX6_lineText_41 : decode cX6_lineText 41 = .ok (.aload_n 0, 1) := by decide +kernel
theorem dX6_lineText_42 : decode cX6_lineText 42 = .ok (.iload_n 1, 1) := by decide +kernel
theorem dX6_lineText_43 : decode cX6_lineText 43 = .ok (.invokevirtual 205, 3) := by decide +kernel
theorem dX6_lineText_46 : decode cX6_lineText 46 = .ok (.if_icmp .ge 30, 3) := by decide +kernel
theorem dX6_lineText_49 : decode cX6_lineText 49 = .ok (.aload_n 0, 1) := by decide +kernel
theorem dX6_lineText_50 : decode cX6_lineText 50 = .ok (.aload_n 0, 1) := by decide +kernel
theorem dX6_lineText_51 : decode cX6_lineText 51 = .ok (.getfield 7, 3) := by decide +kernel
theorem dX6_lineText_54 : decode cX6_lineText 54 = .ok (.bipush 14, 2) := by decide +kernel
theorem dX6_lineText_56 : decode cX6_lineText 56 = .ok (.aload_n 0, 1) := by decide +kernel
theorem dX6_lineText_57 : decode cX6_lineText 57 = .ok (.iload_n 1, 1) := by decide +kernel
theorem dX6_lineText_58 : decode cX6_lineText 58 = .ok (.iload_n 2, 1) := by decide +kernel
theorem dX6_lineText_59 : decode cX6_lineText 59 = .ok (.invokevirtual 208, 3) := by decide +kernel
theorem dX6_lineText_62 : decode cX6_lineText 62 = .ok (.iadd, 1) := by decide +kernel
theorem dX6_lineText_63 : decode cX6_lineText 63 = .ok (.iaload, 1) := by decide +kernel
theorem dX6_lineText_64 : decode cX6_lineText 64 = .ok (.invokestatic 98, 3) := by decide +kernel
theorem dX6_lineText_67 : decode cX6_lineText 67 = .ok (.invokevirtual 226, 3) := by decide +kernel
theorem dX6_lineText_70 : decode cX6_lineText 70 = .ok (.iinc 2 1, 3) := by decide +kernel
theorem dX6_lineText_73 : decode cX6_lineText 73 = .ok (.goto (-33), 3) := by decide +kernel
theorem dX6_lineText_76 : decode cX6_lineText 76 = .ok (.aload_n 0, 1) := by decide +kernel
theorem dX6_lineText_77 : decode cX6_lineText 77 = .ok (.iload_n 1, 1) := by decide +kernel
theorem dX6_lineText_78 : decode cX6_lineText 78 = .ok (.invokevirtual 220, 3) := by decide +kernel
theorem dX6_lineText_81 : decode cX6_lineText 81 = .ok (.ifCond .eq 9, 3) := by decide +kernel
theorem dX6_lineText_84 : decode cX6_lineText 84 = .ok (.aload_n 0, 1) := by decide +kernel
theorem dX6_lineText_85 : decode cX6_lineText 85 = .ok (.bipush 33, 2) := by decide +kernel
theorem dX6_lineText_87 : decode cX6_lineText 87 = .ok (.invokevirtual 226, 3) := by decide +kernel
theorem dX6_lineText_90 : decode cX6_lineText 90 = .ok (.aload_n 0, 1) := by decide +kernel
theorem dX6_lineText_91 : decode cX6_lineText 91 = .ok (.aload_n 0, 1) := by decide +kernel
theorem dX6_lineText_92 : decode cX6_lineText 92 = .ok (.getfield 223, 3) := by decide +kernel
theorem dX6_lineText_95 : decode cX6_lineText 95 = .ok (.invokevirtual 81, 3) := by decide +kernel
theorem dX6_lineText_98 : decode cX6_lineText 98 = .ok (.ireturn, 1) := by decide +kernel
theorem dX6_character_0 : decode cX6_character 0 = .ok (.aload_n 0, 1) := by decide +kernel
theorem dX6_character_1 : decode cX6_character 1 = .ok (.iload_n 1, 1) := by decide +kernel
theorem dX6_character_2 : decode cX6_character 2 = .ok (.iconst 0, 1) := by decide +kernel
theorem dX6_character_3 : decode cX6_character 3 = .ok (.aload_n 0, 1) := by decide +kernel
theorem dX6_character_4 : decode cX6_character 4 = .ok (.getfield 223, 3) := by decide +kernel
theorem dX6_character_7 : decode cX6_character 7 = .ok (.iconst 1, 1) := by decide +kernel
theorem dX6_character_8 : decode cX6_character 8 = .ok (.isub, 1) := by decide +kernel
theorem dX6_character_9 : decode cX6_character 9 = .ok (.invokestatic 70, 3) := by decide +kernel
theorem dX6_character_12 : decode cX6_character 12 = .ok (.ifCond .eq 7, 3) := by decide +kernel
theorem dX6_character_15 : decode cX6_character 15 = .ok (.iconst 0, 1) := by decide +kernel
theorem dX6_character_16 : decode cX6_character 16 = .ok (.goto 4, 3) := by decide +kernel
theorem dX6_character_19 : decode cX6_character 19 = .ok (.iconst 1, 1) := by decide +kernel
theorem dX6_character_20 : decode cX6_character 20 = .ok (.putfield 46, 3) := by decide +kernel
theorem dX6_character_23 : decode cX6_character 23 = .ok (.aload_n 0, 1) := by decide +kernel
theorem dX6_character_24 : decode cX6_character 24 = .ok (.getfield 46, 3) := by decide +kernel
theorem dX6_character_27 : decode cX6_character 27 = .ok (.ifCond .ne 12, 3) := by decide +kernel
theorem dX6_character_30 : decode cX6_character 30 = .ok (.aload_n 0, 1) := by decide +kernel
theorem dX6_character_31 : decode cX6_character 31 = .ok (.getfield 30, 3) := by decide +kernel
theorem dX6_character_34 : decode cX6_character 34 = .ok (.iload_n 1, 1) := by decide +kernel
theorem dX6_character_35 : decode cX6_character 35 = .ok (.caload, 1) := by decide +kernel
theorem dX6_character_36 : decode cX6_character 36 = .ok (.goto 4, 3) := by decide +kernel
theorem dX6_character_39 : decode cX6_character 39 = .ok (.iconst 0, 1) := by decide +kernel
theorem dX6_character_40 : decode cX6_character 40 = .ok (.ireturn, 1) := by decide +kernel
theorem dX6_append_0 : decode cX6_append 0 = .ok (.aload_n 0, 1) := by decide +kernel
theorem dX6_append_1 : decode cX6_append 1 = .ok (.getfield 232, 3) := by decide +kernel
theorem dX6_append_4 : decode cX6_append 4 = .ok (.bipush 60, 2) := by decide +kernel
theorem dX6_append_6 : decode cX6_append 6 = .ok (.if_icmp .ne 9, 3) := by decide +kernel
theorem dX6_append_9 : decode cX6_append 9 = .ok (.aload_n 0, 1) := by decide +kernel
theorem dX6_append_10 : decode cX6_append 10 = .ok (.iconst 1, 1) := by decide +kernel
theorem dX6_append_11 : decode cX6_append 11 = .ok (.invokevirtual 77, 3) := by decide +kernel
theorem dX6_append_14 : decode cX6_append 14 = .ok (.ireturn, 1) := by decide +kernel
theorem dX6_append_15 : decode cX6_append 15 = .ok (.aload_n 0, 1) := by decide +kernel
theorem dX6_append_16 : decode cX6_append 16 = .ok (.getfield 22, 3) := by decide +kernel
theorem dX6_append_19 : decode cX6_append 19 = .ok (.aload_n 0, 1) := by decide +kernel
theorem dX6_append_20 : decode cX6_append 20 = .ok (.getfield 232, 3) := by decide +kernel
theorem dX6_append_23 : decode cX6_append 23 = .ok (.iload_n 1, 1) := by decide +kernel
theorem dX6_append_24 : decode cX6_append 24 = .ok (.castore, 1) := by decide +kernel
theorem dX6_append_25 : decode cX6_append 25 = .ok (.aload_n 0, 1) := by decide +kernel
theorem dX6_append_26 : decode cX6_append 26 = .ok (.dup, 1) := by decide +kernel
theorem dX6_append_27 : decode cX6_append 27 = .ok (.getfield 232, 3) := by decide +kernel
theorem dX6_append_30 : decode cX6_append 30 = .ok (.iconst 1, 1) := by decide +kernel
theorem dX6_append_31 : decode cX6_append 31 = .ok (.iadd, 1) := by decide +kernel
theorem dX6_append_32 : decode cX6_append 32 = .ok (.putfield 232, 3) := by decide +kernel
theorem dX6_append_35 : decode cX6_append 35 = .ok (.aload_n 0, 1) := by decide +kernel
theorem dX6_append_36 : decode cX6_append 36 = .ok (.aload_n 0, 1) := by decide +kernel
theorem dX6_append_37 : decode cX6_append 37 = .ok (.getfield 232, 3) := by decide +kernel
theorem dX6_append_40 : decode cX6_append 40 = .ok (.invokevirtual 81, 3) := by decide +kernel
theorem dX6_append_43 : decode cX6_append 43 = .ok (.ireturn, 1) := by decide +kernel
theorem dX6_here_0 : decode cX6_here 0 = .ok (.aload_n 0, 1) := by decide +kernel
theorem dX6_here_1 : decode cX6_here 1 = .ok (.getfield 235, 3) := by decide +kernel
theorem dX6_here_4 : decode cX6_here 4 = .ok (.aload_n 0, 1) := by decide +kernel
theorem dX6_here_5 : decode cX6_here 5 = .ok (.getfield 232, 3) := by decide +kernel
theorem dX6_here_8 : decode cX6_here 8 = .ok (.if_icmp .ge 15, 3) := by decide +kernel
theorem dX6_here_11 : decode cX6_here 11 = .ok (.aload_n 0, 1) := by decide +kernel
theorem dX6_here_12 : decode cX6_here 12 = .ok (.getfield 22, 3) := by decide +kernel
theorem dX6_here_15 : decode cX6_here 15 = .ok (.aload_n 0, 1) := by decide +kernel
theorem dX6_here_16 : decode cX6_here 16 = .ok (.getfield 235, 3) := by decide +kernel
theorem dX6_here_19 : decode cX6_here 19 = .ok (.caload, 1) := by decide +kernel
theorem dX6_here_20 : decode cX6_here 20 = .ok (.goto 4, 3) := by decide +kernel
theorem dX6_here_23 : decode cX6_here 23 = .ok (.iconst (-1), 1) := by decide +kernel
theorem dX6_here_24 : decode cX6_here 24 = .ok (.ireturn, 1) := by decide +kernel
theorem dX6_needs_0 : decode cX6_needs 0 = .ok (.aload_n 0, 1) := by decide +kernel
theorem dX6_needs_1 : decode cX6_needs 1 = .ok (.aload_n 0, 1) := by decide +kernel
theorem dX6_needs_2 : decode cX6_needs 2 = .ok (.getfield 238, 3) := by decide +kernel
theorem dX6_needs_5 : decode cX6_needs 5 = .ok (.ifCond .ne 11, 3) := by decide +kernel
theorem dX6_needs_8 : decode cX6_needs 8 = .ok (.aload_n 0, 1) := by decide +kernel
theorem dX6_needs_9 : decode cX6_needs 9 = .ok (.invokevirtual 241, 3) := by decide +kernel
theorem dX6_needs_12 : decode cX6_needs 12 = .ok (.iload_n 1, 1) := by decide +kernel
theorem dX6_needs_13 : decode cX6_needs 13 = .ok (.if_icmp .eq 7, 3) := by decide +kernel
theorem dX6_needs_16 : decode cX6_needs 16 = .ok (.iconst 1, 1) := by decide +kernel
theorem dX6_needs_17 : decode cX6_needs 17 = .ok (.goto 4, 3) := by decide +kernel
theorem dX6_needs_20 : decode cX6_needs 20 = .ok (.iconst 0, 1) := by decide +kernel
theorem dX6_needs_21 : decode cX6_needs 21 = .ok (.putfield 238, 3) := by decide +kernel
theorem dX6_needs_24 : decode cX6_needs 24 = .ok (.aload_n 0, 1) := by decide +kernel
theorem dX6_needs_25 : decode cX6_needs 25 = .ok (.dup, 1) := by decide +kernel
theorem dX6_needs_26 : decode cX6_needs 26 = .ok (.getfield 235, 3) := by decide +kernel
theorem dX6_needs_29 : decode cX6_needs 29 = .ok (.aload_n 0, 1) := by decide +kernel
theorem dX6_needs_30 : decode cX6_needs 30 = .ok (.getfield 238, 3) := by decide +kernel
theorem dX6_needs_33 : decode cX6_needs 33 = .ok (.ifCond .eq 7, 3) := by decide +kernel
theorem dX6_needs_36 : decode cX6_needs 36 = .ok (.iconst 0, 1) := by decide +kernel
theorem dX6_needs_37 : decode cX6_needs 37 = .ok (.goto 4, 3) := by decide +kernel
theorem dX6_needs_40 : decode cX6_needs 40 = .ok (.iconst 1, 1) := by decide +kernel
theorem dX6_needs_41 : decode cX6_needs 41 = .ok (.iadd, 1) := by decide +kernel
theorem dX6_needs_42 : decode cX6_needs 42 = .ok (.putfield 235, 3) := by decide +kernel
theorem dX6_needs_45 : decode cX6_needs 45 = .ok (.return_, 1) := by decide +kernel
theorem dX6_figures_0 : decode cX6_figures 0 = .ok (.aload_n 0, 1) := by decide +kernel
theorem dX6_figures_1 : decode cX6_figures 1 = .ok (.aload_n 0, 1) := by decide +kernel
theorem dX6_figures_2 : decode cX6_figures 2 = .ok (.getfield 238, 3) := by decide +kernel
theorem dX6_figures_5 : decode cX6_figures 5 = .ok (.ifCond .ne 17, 3) := by decide +kernel
theorem dX6_figures_8 : decode cX6_figures 8 = .ok (.aload_n 0, 1) := by decide +kernel
theorem dX6_figures_9 : decode cX6_figures 9 = .ok (.invokevirtual 241, 3) := by decide +kernel
theorem dX6_figures_12 : decode cX6_figures 12 = .ok (.bipush 48, 2) := by decide +kernel
theorem dX6_figures_14 : decode cX6_figures 14 = .ok (.bipush 57, 2) := by decide +kernel
theorem dX6_figures_16 : decode cX6_figures 16 = .ok (.invokestatic 70, 3) := by decide +kernel
theorem dX6_figures_19 : decode cX6_figures 19 = .ok (.ifCond .ne 7, 3) := by decide +kernel
theorem dX6_figures_22 : decode cX6_figures 22 = .ok (.iconst 1, 1) := by decide +kernel
theorem dX6_figures_23 : decode cX6_figures 23 = .ok (.goto 4, 3) := by decide +kernel
theorem dX6_figures_26 : decode cX6_figures 26 = .ok (.iconst 0, 1) := by decide +kernel
theorem dX6_figures_27 : decode cX6_figures 27 = .ok (.putfield 238, 3) := by decide +kernel
theorem dX6_figures_30 : decode cX6_figures 30 = .ok (.iconst 0, 1) := by decide +kernel
theorem dX6_figures_31 : decode cX6_figures 31 = .ok (.istore_n 2, 1) := by decide +kernel
theorem dX6_figures_32 : decode cX6_figures 32 = .ok (.iconst 0, 1) := by decide +kernel
theorem dX6_figures_33 : decode cX6_figures 33 = .ok (.istore_n 3, 1) := by decide +kernel
theorem dX6_figures_34 : decode cX6_figures 34 = .ok (.aload_n 0, 1) := by decide +kernel
theorem dX6_figures_35 : decode cX6_figures 35 = .ok (.getfield 238, 3) := by decide +kernel
theorem dX6_figures_38 : decode cX6_figures 38 = .ok (.ifCond .ne 51, 3) := by decide +kernel
theorem dX6_figures_41 : decode cX6_figures 41 = .ok (.iload_n 3, 1) := by decide +kernel
theorem dX6_figures_42 : decode cX6_figures 42 = .ok (.iload_n 1, 1) := by decide +kernel
theorem dX6_figures_43 : decode cX6_figures 43 = .ok (.if_icmp .ge 46, 3) := by decide +kernel
theorem dX6_figures_46 : decode cX6_figures 46 = .ok (.aload_n 0, 1) := by decide +kernel
theorem dX6_figures_47 : decode cX6_figures 47 = .ok (.invokevirtual 241, 3) := by decide +kernel
theorem dX6_figures_50 : decode cX6_figures 50 = .ok (.bipush 48, 2) := by decide +kernel
theorem dX6_figures_52 : decode cX6_figures 52 = .ok (.bipush 57, 2) := by decide +kernel
theorem dX6_figures_54 : decode cX6_figures 54 = .ok (.invokestatic 70, 3) := by decide +kernel
theorem dX6_figures_57 : decode cX6_figures 57 = .ok (.ifCond .eq 32, 3) := by decide +kernel
theorem dX6_figures_60 : decode cX6_figures 60 = .ok (.bipush 10, 2) := by decide +kernel
theorem dX6_figures_62 : decode cX6_figures 62 = .ok (.iload_n 2, 1) := by decide +kernel
theorem dX6_figures_63 : decode cX6_figures 63 = .ok (.imul, 1) := by decide +kernel
theorem dX6_figures_64 : decode cX6_figures 64 = .ok (.aload_n 0, 1) := by decide +kernel
theorem dX6_figures_65 : decode cX6_figures 65 = .ok (.invokevirtual 241, 3) := by decide +kernel
theorem dX6_figures_68 : decode cX6_figures 68 = .ok (.iadd, 1) := by decide +kernel
theorem dX6_figures_69 : decode cX6_figures 69 = .ok (.bipush 48, 2) := by decide +kernel
theorem dX6_figures_71 : decode cX6_figures 71 = .ok (.isub, 1) := by decide +kernel
theorem dX6_figures_72 : decode cX6_figures 72 = .ok (.istore_n 2, 1) := by decide +kernel
theorem dX6_figures_73 : decode cX6_figures 73 = .ok (.aload_n 0, 1) := by decide +kernel
theorem dX6_figures_74 : decode cX6_figures 74 = .ok (.dup, 1) := by decide +kernel
theorem dX6_figures_75 : decode cX6_figures 75 = .ok (.getfield 235, 3) := by decide +kernel
theorem dX6_figures_78 : decode cX6_figures 78 = .ok (.iconst 1, 1) := by decide +kernel
theorem dX6_figures_79 : decode cX6_figures 79 = .ok (.iadd, 1) := by decide +kernel
theorem dX6_figures_80 : decode cX6_figures 80 = .ok (.putfield 235, 3) := by decide +kernel
theorem dX6_figures_83 : decode cX6_figures 83 = .ok (.iinc 3 1, 3) := by decide +kernel
theorem dX6_figures_86 : decode cX6_figures 86 = .ok (.goto (-52), 3) := by decide +kernel
theorem dX6_figures_89 : decode cX6_figures 89 = .ok (.iload_n 2, 1) := by decide +kernel
theorem dX6_figures_90 : decode cX6_figures 90 = .ok (.ireturn, 1) := by decide +kernel
theorem dX6_readsSign_0 : decode cX6_readsSign 0 = .ok (.aload_n 0, 1) := by decide +kernel
theorem dX6_readsSign_1 : decode cX6_readsSign 1 = .ok (.invokevirtual 241, 3) := by decide +kernel
theorem dX6_readsSign_4 : decode cX6_readsSign 4 = .ok (.istore_n 2, 1) := by decide +kernel
theorem dX6_readsSign_5 : decode cX6_readsSign 5 = .ok (.aload_n 0, 1) := by decide +kernel
theorem dX6_readsSign_6 : decode cX6_readsSign 6 = .ok (.aload_n 0, 1) := by decide +kernel
theorem dX6_readsSign_7 : decode cX6_readsSign 7 = .ok (.getfield 238, 3) := by decide +kernel
theorem dX6_readsSign_10 : decode cX6_readsSign 10 = .ok (.ifCond .ne 20, 3) := by decide +kernel
theorem dX6_readsSign_13 : decode cX6_readsSign 13 = .ok (.iload_n 2, 1) := by decide +kernel
theorem dX6_readsSign_14 : decode cX6_readsSign 14 = .ok (.invokestatic 106, 3) := by decide +kernel
theorem dX6_readsSign_17 : decode cX6_readsSign 17 = .ok (.ifCond .ne 17, 3) := by decide +kernel
theorem dX6_readsSign_20 : decode cX6_readsSign 20 = .ok (.iload_n 1, 1) := by decide +kernel
theorem dX6_readsSign_21 : decode cX6_readsSign 21 = .ok (.ifCond .eq 9, 3) := by decide +kernel
theorem dX6_readsSign_24 : decode cX6_readsSign 24 = .ok (.iload_n 2, 1) := by decide +kernel
theorem dX6_readsSign_25 : decode cX6_readsSign 25 = .ok (.bipush 46, 2) := by decide +kernel
theorem dX6_readsSign_27 : decode cX6_readsSign 27 = .ok (.if_icmp .eq 7, 3) := by decide +kernel
theorem dX6_readsSign_30 : decode cX6_readsSign 30 = .ok (.iconst 1, 1) := by decide +kernel
theorem dX6_readsSign_31 : decode cX6_readsSign 31 = .ok (.goto 4, 3) := by decide +kernel
theorem dX6_readsSign_34 : decode cX6_readsSign 34 = .ok (.iconst 0, 1) := by decide +kernel
theorem dX6_readsSign_35 : decode cX6_readsSign 35 = .ok (.putfield 238, 3) := by decide +kernel
theorem dX6_readsSign_38 : decode cX6_readsSign 38 = .ok (.aload_n 0, 1) := by decide +kernel
theorem dX6_readsSign_39 : decode cX6_readsSign 39 = .ok (.dup, 1) := by decide +kernel
theorem dX6_readsSign_40 : decode cX6_readsSign 40 = .ok (.getfield 235, 3) := by decide +kernel
theorem dX6_readsSign_43 : decode cX6_readsSign 43 = .ok (.aload_n 0, 1) := by decide +kernel
theorem dX6_readsSign_44 : decode cX6_readsSign 44 = .ok (.getfield 238, 3) := by decide +kernel
theorem dX6_readsSign_47 : decode cX6_readsSign 47 = .ok (.ifCond .eq 7, 3) := by decide +kernel
theorem dX6_readsSign_50 : decode cX6_readsSign 50 = .ok (.iconst 0, 1) := by decide +kernel
theorem dX6_readsSign_51 : decode cX6_readsSign 51 = .ok (.goto 4, 3) := by decide +kernel
theorem dX6_readsSign_54 : decode cX6_readsSign 54 = .ok (.iconst 1, 1) := by decide +kernel
theorem dX6_readsSign_55 : decode cX6_readsSign 55 = .ok (.iadd, 1) := by decide +kernel
theorem dX6_readsSign_56 : decode cX6_readsSign 56 = .ok (.putfield 235, 3) := by decide +kernel
theorem dX6_readsSign_59 : decode cX6_readsSign 59 = .ok (.iload_n 2, 1) := by decide +kernel
theorem dX6_readsSign_60 : decode cX6_readsSign 60 = .ok (.ireturn, 1) := by decide +kernel
theorem dX6_readsOrder_0 : decode cX6_readsOrder 0 = .ok (.aload_n 0, 1) := by decide +kernel
theorem dX6_readsOrder_1 : decode cX6_readsOrder 1 = .ok (.invokevirtual 241, 3) := by decide +kernel
theorem dX6_readsOrder_4 : decode cX6_readsOrder 4 = .ok (.istore_n 2, 1) := by decide +kernel
theorem dX6_readsOrder_5 : decode cX6_readsOrder 5 = .ok (.aload_n 0, 1) := by decide +kernel
theorem dX6_readsOrder_6 : decode cX6_readsOrder 6 = .ok (.dup, 1) := by decide +kernel
theorem dX6_readsOrder_7 : decode cX6_readsOrder 7 = .ok (.getfield 235, 3) := by decide +kernel
theorem dX6_readsOrder_10 : decode cX6_readsOrder 10 = .ok (.iconst 1, 1) := by decide +kernel
theorem dX6_readsOrder_11 : decode cX6_readsOrder 11 = .ok (.iadd, 1) := by decide +kernel
theorem dX6_readsOrder_12 : decode cX6_readsOrder 12 = .ok (.putfield 235, 3) := by decide +kernel
theorem dX6_readsOrder_15 : decode cX6_readsOrder 15 = .ok (.aload_n 0, 1) := by decide +kernel
theorem dX6_readsOrder_16 : decode cX6_readsOrder 16 = .ok (.getfield 39, 3) := by decide +kernel
theorem dX6_readsOrder_19 : decode cX6_readsOrder 19 = .ok (.iload_n 1, 1) := by decide +kernel
theorem dX6_readsOrder_20 : decode cX6_readsOrder 20 = .ok (.iload_n 2, 1) := by decide +kernel
theorem dX6_readsOrder_21 : decode cX6_readsOrder 21 = .ok (.iastore, 1) := by decide +kernel
theorem dX6_readsOrder_22 : decode cX6_readsOrder 22 = .ok (.iload_n 2, 1) := by decide +kernel
theorem dX6_readsOrder_23 : decode cX6_readsOrder 23 = .ok (.tableswitch 240 98 120 #[105, 240, 240, 240, 240, 134, 240, 240, 240, 240, 240, 240, 240, 240, 134, 240, 205, 105, 173, 240, 240, 240, 189], 105) := by decide +kernel
theorem dX6_readsOrder_128 : decode cX6_readsOrder 128 = .ok (.aload_n 0, 1) := by decide +kernel
theorem dX6_readsOrder_129 : decode cX6_readsOrder 129 = .ok (.getfield 39, 3) := by decide +kernel
theorem dX6_readsOrder_132 : decode cX6_readsOrder 132 = .ok (.iload_n 1, 1) := by decide +kernel
theorem dX6_readsOrder_133 : decode cX6_readsOrder 133 = .ok (.iconst 1, 1) := by decide +kernel
theorem dX6_readsOrder_134 : decode cX6_readsOrder 134 = .ok (.iadd, 1) := by decide +kernel
theorem dX6_readsOrder_135 : decode cX6_readsOrder 135 = .ok (.aload_n 0, 1) := by decide +kernel
theorem dX6_readsOrder_136 : decode cX6_readsOrder 136 = .ok (.iconst 1, 1) := by decide +kernel
theorem dX6_readsOrder_137 : decode cX6_readsOrder 137 = .ok (.invokevirtual 244, 3) := by decide +kernel
theorem dX6_readsOrder_140 : decode cX6_readsOrder 140 = .ok (.iastore, 1) := by decide +kernel
theorem dX6_readsOrder_141 : decode cX6_readsOrder 141 = .ok (.aload_n 0, 1) := by decide +kernel
theorem dX6_readsOrder_142 : decode cX6_readsOrder 142 = .ok (.getfield 39, 3) := by decide +kernel
theorem dX6_readsOrder_145 : decode cX6_readsOrder 145 = .ok (.iload_n 1, 1) := by decide +kernel
theorem dX6_readsOrder_146 : decode cX6_readsOrder 146 = .ok (.iconst 2, 1) := by decide +kernel
theorem dX6_readsOrder_147 : decode cX6_readsOrder 147 = .ok (.iadd, 1) := by decide +kernel
theorem dX6_readsOrder_148 : decode cX6_readsOrder 148 = .ok (.aload_n 0, 1) := by decide +kernel
theorem dX6_readsOrder_149 : decode cX6_readsOrder 149 = .ok (.iconst 1, 1) := by decide +kernel
theorem dX6_readsOrder_150 : decode cX6_readsOrder 150 = .ok (.invokevirtual 244, 3) := by decide +kernel
theorem dX6_readsOrder_153 : decode cX6_readsOrder 153 = .ok (.iastore, 1) := by decide +kernel
theorem dX6_readsOrder_154 : decode cX6_readsOrder 154 = .ok (.goto 124, 3) := by decide +kernel
theorem dX6_readsOrder_157 : decode cX6_readsOrder 157 = .ok (.aload_n 0, 1) := by decide +kernel
theorem dX6_readsOrder_158 : decode cX6_readsOrder 158 = .ok (.getfield 39, 3) := by decide +kernel
theorem dX6_readsOrder_161 : decode cX6_readsOrder 161 = .ok (.iload_n 1, 1) := by decide +kernel
theorem dX6_readsOrder_162 : decode cX6_readsOrder 162 = .ok (.iconst 1, 1) := by decide +kernel
theorem dX6_readsOrder_163 : decode cX6_readsOrder 163 = .ok (.iadd, 1) := by decide +kernel
theorem dX6_readsOrder_164 : decode cX6_readsOrder 164 = .ok (.aload_n 0, 1) := by decide +kernel
theorem dX6_readsOrder_165 : decode cX6_readsOrder 165 = .ok (.iconst 1, 1) := by decide +kernel
theorem dX6_readsOrder_166 : decode cX6_readsOrder 166 = .ok (.invokevirtual 244, 3) := by decide +kernel
theorem dX6_readsOrder_169 : decode cX6_readsOrder 169 = .ok (.iastore, 1) := by decide +kernel
theorem dX6_readsOrder_170 : decode cX6_readsOrder 170 = .ok (.aload_n 0, 1) := by decide +kernel
theorem dX6_readsOrder_171 : decode cX6_readsOrder 171 = .ok (.getfield 39, 3) := by decide +kernel
theorem dX6_readsOrder_174 : decode cX6_readsOrder 174 = .ok (.iload_n 1, 1) := by decide +kernel
theorem dX6_readsOrder_175 : decode cX6_readsOrder 175 = .ok (.iconst 2, 1) := by decide +kernel
theorem dX6_readsOrder_176 : decode cX6_readsOrder 176 = .ok (.iadd, 1) := by decide +kernel
theorem dX6_readsOrder_177 : decode cX6_readsOrder 177 = .ok (.aload_n 0, 1) := by decide +kernel
theorem dX6_readsOrder_178 : decode cX6_readsOrder 178 = .ok (.iload_n 2, 1) := by decide +kernel
theorem dX6_readsOrder_179 : decode cX6_readsOrder 179 = .ok (.bipush 103, 2) := by decide +kernel
theorem dX6_readsOrder_181 : decode cX6_readsOrder 181 = .ok (.if_icmp .ne 7, 3) := by decide +kernel
theorem dX6_readsOrder_184 : decode cX6_readsOrder 184 = .ok (.iconst 1, 1) := by decide +kernel
theorem dX6_readsOrder_185 : decode cX6_readsOrder 185 = .ok (.goto 4, 3) := by decide +kernel
theorem dX6_readsOrder_188 : decode cX6_readsOrder 188 = .ok (.iconst 0, 1) := by decide +kernel
theorem dX6_readsOrder_189 : decode cX6_readsOrder 189 = .ok (.invokevirtual 247, 3) := by decide +kernel
theorem dX6_readsOrder_192 : decode cX6_readsOrder 192 = .ok (.iastore, 1) := by decide +kernel
theorem dX6_readsOrder_193 : decode cX6_readsOrder 193 = .ok (.goto 85, 3) := by decide +kernel
theorem dX6_readsOrder_196 : decode cX6_readsOrder 196 = .ok (.aload_n 0, 1) := by decide +kernel
theorem dX6_readsOrder_197 : decode cX6_readsOrder 197 = .ok (.getfield 39, 3) := by decide +kernel
theorem dX6_readsOrder_200 : decode cX6_readsOrder 200 = .ok (.iload_n 1, 1) := by decide +kernel
theorem dX6_readsOrder_201 : decode cX6_readsOrder 201 = .ok (.iconst 1, 1) := by decide +kernel
theorem dX6_readsOrder_202 : decode cX6_readsOrder 202 = .ok (.iadd, 1) := by decide +kernel
theorem dX6_readsOrder_203 : decode cX6_readsOrder 203 = .ok (.aload_n 0, 1) := by decide +kernel
theorem dX6_readsOrder_204 : decode cX6_readsOrder 204 = .ok (.iconst 3, 1) := by decide +kernel
theorem dX6_readsOrder_205 : decode cX6_readsOrder 205 = .ok (.invokevirtual 244, 3) := by decide +kernel
theorem dX6_readsOrder_208 : decode cX6_readsOrder 208 = .ok (.iastore, 1) := by decide +kernel
theorem dX6_readsOrder_209 : decode cX6_readsOrder 209 = .ok (.goto 69, 3) := by decide +kernel
theorem dX6_readsOrder_212 : decode cX6_readsOrder 212 = .ok (.aload_n 0, 1) := by decide +kernel
theorem dX6_readsOrder_213 : decode cX6_readsOrder 213 = .ok (.getfield 39, 3) := by decide +kernel
theorem dX6_readsOrder_216 : decode cX6_readsOrder 216 = .ok (.iload_n 1, 1) := by decide +kernel
theorem dX6_readsOrder_217 : decode cX6_readsOrder 217 = .ok (.iconst 1, 1) := by decide +kernel
theorem dX6_readsOrder_218 : decode cX6_readsOrder 218 = .ok (.iadd, 1) := by decide +kernel
theorem dX6_readsOrder_219 : decode cX6_readsOrder 219 = .ok (.aload_n 0, 1) := by decide +kernel
theorem dX6_readsOrder_220 : decode cX6_readsOrder 220 = .ok (.iconst 1, 1) := by decide +kernel
theorem dX6_readsOrder_221 : decode cX6_readsOrder 221 = .ok (.invokevirtual 244, 3) := by decide +kernel
theorem dX6_readsOrder_224 : decode cX6_readsOrder 224 = .ok (.iastore, 1) := by decide +kernel
theorem dX6_readsOrder_225 : decode cX6_readsOrder 225 = .ok (.goto 53, 3) := by decide +kernel
theorem dX6_readsOrder_228 : decode cX6_readsOrder 228 = .ok (.aload_n 0, 1) := by decide +kernel
theorem dX6_readsOrder_229 : decode cX6_readsOrder 229 = .ok (.getfield 39, 3) := by decide +kernel
theorem dX6_readsOrder_232 : decode cX6_readsOrder 232 = .ok (.iload_n 1, 1) := by decide +kernel
theorem dX6_readsOrder_233 : decode cX6_readsOrder 233 = .ok (.iconst 1, 1) := by decide +kernel
theorem dX6_readsOrder_234 : decode cX6_readsOrder 234 = .ok (.iadd, 1) := by decide +kernel
theorem dX6_readsOrder_235 : decode cX6_readsOrder 235 = .ok (.aload_n 0, 1) := by decide +kernel
theorem dX6_readsOrder_236 : decode cX6_readsOrder 236 = .ok (.iconst 3, 1) := by decide +kernel
theorem dX6_readsOrder_237 : decode cX6_readsOrder 237 = .ok (.invokevirtual 244, 3) := by decide +kernel
theorem dX6_readsOrder_240 : decode cX6_readsOrder 240 = .ok (.iastore, 1) := by decide +kernel
theorem dX6_readsOrder_241 : decode cX6_readsOrder 241 = .ok (.aload_n 0, 1) := by decide +kernel
theorem dX6_readsOrder_242 : decode cX6_readsOrder 242 = .ok (.bipush 47, 2) := by decide +kernel
theorem dX6_readsOrder_244 : decode cX6_readsOrder 244 = .ok (.invokevirtual 251, 3) := by decide +kernel
theorem dX6_readsOrder_247 : decode cX6_readsOrder 247 = .ok (.aload_n 0, 1) := by decide +kernel
theorem dX6_readsOrder_248 : decode cX6_readsOrder 248 = .ok (.getfield 39, 3) := by decide +kernel
theorem dX6_readsOrder_251 : decode cX6_readsOrder 251 = .ok (.iload_n 1, 1) := by decide +kernel
theorem dX6_readsOrder_252 : decode cX6_readsOrder 252 = .ok (.iconst 2, 1) := by decide +kernel
theorem dX6_readsOrder_253 : decode cX6_readsOrder 253 = .ok (.iadd, 1) := by decide +kernel
theorem dX6_readsOrder_254 : decode cX6_readsOrder 254 = .ok (.aload_n 0, 1) := by decide +kernel
theorem dX6_readsOrder_255 : decode cX6_readsOrder 255 = .ok (.iconst 1, 1) := by decide +kernel
theorem dX6_readsOrder_256 : decode cX6_readsOrder 256 = .ok (.invokevirtual 244, 3) := by decide +kernel
theorem dX6_readsOrder_259 : decode cX6_readsOrder 259 = .ok (.iastore, 1) := by decide +kernel
theorem dX6_readsOrder_260 : decode cX6_readsOrder 260 = .ok (.goto 18, 3) := by decide +kernel
theorem dX6_readsOrder_263 : decode cX6_readsOrder 263 = .ok (.aload_n 0, 1) := by decide +kernel
theorem dX6_readsOrder_264 : decode cX6_readsOrder 264 = .ok (.iconst 1, 1) := by decide +kernel
theorem dX6_readsOrder_265 : decode cX6_readsOrder 265 = .ok (.putfield 238, 3) := by decide +kernel
theorem dX6_readsOrder_268 : decode cX6_readsOrder 268 = .ok (.aload_n 0, 1) := by decide +kernel
theorem dX6_readsOrder_269 : decode cX6_readsOrder 269 = .ok (.dup, 1) := by decide +kernel
theorem dX6_readsOrder_270 : decode cX6_readsOrder 270 = .ok (.getfield 235, 3) := by decide +kernel
theorem dX6_readsOrder_273 : decode cX6_readsOrder 273 = .ok (.iconst 1, 1) := by decide +kernel
theorem dX6_readsOrder_274 : decode cX6_readsOrder 274 = .ok (.isub, 1) := by decide +kernel
theorem dX6_readsOrder_275 : decode cX6_readsOrder 275 = .ok (.putfield 235, 3) := by decide +kernel
theorem dX6_readsOrder_278 : decode cX6_readsOrder 278 = .ok (.return_, 1) := by decide +kernel
theorem dX6_does_0 : decode cX6_does 0 = .ok (.aload_n 0, 1) := by decide +kernel
theorem dX6_does_1 : decode cX6_does 1 = .ok (.getfield 39, 3) := by decide +kernel
theorem dX6_does_4 : decode cX6_does 4 = .ok (.iload_n 1, 1) := by decide +kernel
theorem dX6_does_5 : decode cX6_does 5 = .ok (.iconst 1, 1) := by decide +kernel
theorem dX6_does_6 : decode cX6_does 6 = .ok (.iadd, 1) := by decide +kernel
theorem dX6_does_7 : decode cX6_does 7 = .ok (.iaload, 1) := by decide +kernel
theorem dX6_does_8 : decode cX6_does 8 = .ok (.istore_n 2, 1) := by decide +kernel
theorem dX6_does_9 : decode cX6_does 9 = .ok (.aload_n 0, 1) := by decide +kernel
theorem dX6_does_10 : decode cX6_does 10 = .ok (.getfield 39, 3) := by decide +kernel
theorem dX6_does_13 : decode cX6_does 13 = .ok (.iload_n 1, 1) := by decide +kernel
theorem dX6_does_14 : decode cX6_does 14 = .ok (.iconst 2, 1) := by decide +kernel
theorem dX6_does_15 : decode cX6_does 15 = .ok (.iadd, 1) := by decide +kernel
theorem dX6_does_16 : decode cX6_does 16 = .ok (.iaload, 1) := by decide +kernel
theorem dX6_does_17 : decode cX6_does 17 = .ok (.istore_n 3, 1) := by decide +kernel
theorem dX6_does_18 : decode cX6_does 18 = .ok (.aload_n 0, 1) := by decide +kernel
theorem dX6_does_19 : decode cX6_does 19 = .ok (.getfield 39, 3) := by decide +kernel
theorem dX6_does_22 : decode cX6_does 22 = .ok (.iload_n 1, 1) := by decide +kernel
theorem dX6_does_23 : decode cX6_does 23 = .ok (.iaload, 1) := by decide +kernel
theorem dX6_does_24 : decode cX6_does 24 = .ok (.lookupswitch 100 #[(98, 60), (103, 81), (112, 74), (115, 67), (116, 88), (120, 94)], 60) := by decide +kernel
theorem dX6_does_84 : decode cX6_does 84 = .ok (.aload_n 0, 1) := by decide +kernel
theorem dX6_does_85 : decode cX6_does 85 = .ok (.iload_n 2, 1) := by decide +kernel
theorem dX6_does_86 : decode cX6_does 86 = .ok (.iload_n 3, 1) := by decide +kernel
theorem dX6_does_87 : decode cX6_does 87 = .ok (.invokevirtual 87, 3) := by decide +kernel
theorem dX6_does_90 : decode cX6_does 90 = .ok (.ireturn, 1) := by decide +kernel
theorem dX6_does_91 : decode cX6_does 91 = .ok (.aload_n 0, 1) := by decide +kernel
theorem dX6_does_92 : decode cX6_does 92 = .ok (.iload_n 2, 1) := by decide +kernel
theorem dX6_does_93 : decode cX6_does 93 = .ok (.iload_n 3, 1) := by decide +kernel
theorem dX6_does_94 : decode cX6_does 94 = .ok (.invokevirtual 152, 3) := by decide +kernel
theorem dX6_does_97 : decode cX6_does 97 = .ok (.ireturn, 1) := by decide +kernel
theorem dX6_does_98 : decode cX6_does 98 = .ok (.aload_n 0, 1) := by decide +kernel
theorem dX6_does_99 : decode cX6_does 99 = .ok (.iload_n 2, 1) := by decide +kernel
theorem dX6_does_100 : decode cX6_does 100 = .ok (.iload_n 3, 1) := by decide +kernel
theorem dX6_does_101 : decode cX6_does 101 = .ok (.invokevirtual 112, 3) := by decide +kernel
theorem dX6_does_104 : decode cX6_does 104 = .ok (.ireturn, 1) := by decide +kernel
theorem dX6_does_105 : decode cX6_does 105 = .ok (.aload_n 0, 1) := by decide +kernel
theorem dX6_does_106 : decode cX6_does 106 = .ok (.iload_n 2, 1) := by decide +kernel
theorem dX6_does_107 : decode cX6_does 107 = .ok (.iload_n 3, 1) := by decide +kernel
theorem dX6_does_108 : decode cX6_does 108 = .ok (.invokevirtual 115, 3) := by decide +kernel
theorem dX6_does_111 : decode cX6_does 111 = .ok (.ireturn, 1) := by decide +kernel
theorem dX6_does_112 : decode cX6_does 112 = .ok (.aload_n 0, 1) := by decide +kernel
theorem dX6_does_113 : decode cX6_does 113 = .ok (.iload_n 2, 1) := by decide +kernel
theorem dX6_does_114 : decode cX6_does 114 = .ok (.invokevirtual 149, 3) := by decide +kernel
theorem dX6_does_117 : decode cX6_does 117 = .ok (.ireturn, 1) := by decide +kernel
theorem dX6_does_118 : decode cX6_does 118 = .ok (.aload_n 0, 1) := by decide +kernel
theorem dX6_does_119 : decode cX6_does 119 = .ok (.iload_n 2, 1) := by decide +kernel
theorem dX6_does_120 : decode cX6_does 120 = .ok (.invokevirtual 158, 3) := by decide +kernel
theorem dX6_does_123 : decode cX6_does 123 = .ok (.ireturn, 1) := by decide +kernel
theorem dX6_does_124 : decode cX6_does 124 = .ok (.aload_n 0, 1) := by decide +kernel
theorem dX6_does_125 : decode cX6_does 125 = .ok (.iload_n 2, 1) := by decide +kernel
theorem dX6_does_126 : decode cX6_does 126 = .ok (.iload_n 3, 1) := by decide +kernel
theorem dX6_does_127 : decode cX6_does 127 = .ok (.invokevirtual 161, 3) := by decide +kernel
theorem dX6_does_130 : decode cX6_does 130 = .ok (.ireturn, 1) := by decide +kernel
theorem dX6_run_0 : decode cX6_run 0 = .ok (.aload_n 0, 1) := by decide +kernel
theorem dX6_run_1 : decode cX6_run 1 = .ok (.iconst 0, 1) := by decide +kernel
theorem dX6_run_2 : decode cX6_run 2 = .ok (.putfield 235, 3) := by decide +kernel
theorem dX6_run_5 : decode cX6_run 5 = .ok (.aload_n 0, 1) := by decide +kernel
theorem dX6_run_6 : decode cX6_run 6 = .ok (.iconst 0, 1) := by decide +kernel
theorem dX6_run_7 : decode cX6_run 7 = .ok (.putfield 238, 3) := by decide +kernel
theorem dX6_run_10 : decode cX6_run 10 = .ok (.iconst 0, 1) := by decide +kernel
theorem dX6_run_11 : decode cX6_run 11 = .ok (.istore_n 1, 1) := by decide +kernel
theorem dX6_run_12 : decode cX6_run 12 = .ok (.iconst 1, 1) := by decide +kernel
theorem dX6_run_13 : decode cX6_run 13 = .ok (.istore_n 2, 1) := by decide +kernel
theorem dX6_run_14 : decode cX6_run 14 = .ok (.iload_n 2, 1) := by decide +kernel
theorem dX6_run_15 : decode cX6_run 15 = .ok (.ifCond .eq 56, 3) := by decide +kernel
theorem dX6_run_18 : decode cX6_run 18 = .ok (.aload_n 0, 1) := by decide +kernel
theorem dX6_run_19 : decode cX6_run 19 = .ok (.iconst 3, 1) := by decide +kernel
theorem dX6_run_20 : decode cX6_run 20 = .ok (.iload_n 1, 1) := by decide +kernel
theorem dX6_run_21 : decode cX6_run 21 = .ok (.imul, 1) := by decide +kernel
theorem dX6_run_22 : decode cX6_run 22 = .ok (.invokevirtual 254, 3) := by decide +kernel
theorem dX6_run_25 : decode cX6_run 25 = .ok (.iinc 1 1, 3) := by decide +kernel
theorem dX6_run_28 : decode cX6_run 28 = .ok (.aload_n 0, 1) := by decide +kernel
theorem dX6_run_29 : decode cX6_run 29 = .ok (.getfield 238, 3) := by decide +kernel
theorem dX6_run_32 : decode cX6_run 32 = .ok (.ifCond .ne 16, 3) := by decide +kernel
theorem dX6_run_35 : decode cX6_run 35 = .ok (.aload_n 0, 1) := by decide +kernel
theorem dX6_run_36 : decode cX6_run 36 = .ok (.invokevirtual 241, 3) := by decide +kernel
theorem dX6_run_39 : decode cX6_run 39 = .ok (.bipush 59, 2) := by decide +kernel
theorem dX6_run_41 : decode cX6_run 41 = .ok (.if_icmp .ne 7, 3) := by decide +kernel
theorem dX6_run_44 : decode cX6_run 44 = .ok (.iconst 1, 1) := by decide +kernel
theorem dX6_run_45 : decode cX6_run 45 = .ok (.goto 4, 3) := by decide +kernel
theorem dX6_run_48 : decode cX6_run 48 = .ok (.iconst 0, 1) := by decide +kernel
theorem dX6_run_49 : decode cX6_run 49 = .ok (.istore_n 2, 1) := by decide +kernel
theorem dX6_run_50 : decode cX6_run 50 = .ok (.aload_n 0, 1) := by decide +kernel
theorem dX6_run_51 : decode cX6_run 51 = .ok (.dup, 1) := by decide +kernel
theorem dX6_run_52 : decode cX6_run 52 = .ok (.getfield 235, 3) := by decide +kernel
theorem dX6_run_55 : decode cX6_run 55 = .ok (.iload_n 2, 1) := by decide +kernel
theorem dX6_run_56 : decode cX6_run 56 = .ok (.ifCond .eq 7, 3) := by decide +kernel
theorem dX6_run_59 : decode cX6_run 59 = .ok (.iconst 1, 1) := by decide +kernel
theorem dX6_run_60 : decode cX6_run 60 = .ok (.goto 4, 3) := by decide +kernel
theorem dX6_run_63 : decode cX6_run 63 = .ok (.iconst 0, 1) := by decide +kernel
theorem dX6_run_64 : decode cX6_run 64 = .ok (.iadd, 1) := by decide +kernel
theorem dX6_run_65 : decode cX6_run 65 = .ok (.putfield 235, 3) := by decide +kernel
theorem dX6_run_68 : decode cX6_run 68 = .ok (.goto (-54), 3) := by decide +kernel
theorem dX6_run_71 : decode cX6_run 71 = .ok (.aload_n 0, 1) := by decide +kernel
theorem dX6_run_72 : decode cX6_run 72 = .ok (.aload_n 0, 1) := by decide +kernel
theorem dX6_run_73 : decode cX6_run 73 = .ok (.getfield 238, 3) := by decide +kernel
theorem dX6_run_76 : decode cX6_run 76 = .ok (.ifCond .ne 14, 3) := by decide +kernel
theorem dX6_run_79 : decode cX6_run 79 = .ok (.aload_n 0, 1) := by decide +kernel
theorem dX6_run_80 : decode cX6_run 80 = .ok (.getfield 235, 3) := by decide +kernel
theorem dX6_run_83 : decode cX6_run 83 = .ok (.aload_n 0, 1) := by decide +kernel
theorem dX6_run_84 : decode cX6_run 84 = .ok (.getfield 232, 3) := by decide +kernel
theorem dX6_run_87 : decode cX6_run 87 = .ok (.if_icmp .ge 7, 3) := by decide +kernel
theorem dX6_run_90 : decode cX6_run 90 = .ok (.iconst 1, 1) := by decide +kernel
theorem dX6_run_91 : decode cX6_run 91 = .ok (.goto 4, 3) := by decide +kernel
theorem dX6_run_94 : decode cX6_run 94 = .ok (.iconst 0, 1) := by decide +kernel
theorem dX6_run_95 : decode cX6_run 95 = .ok (.putfield 238, 3) := by decide +kernel
theorem dX6_run_98 : decode cX6_run 98 = .ok (.aload_n 0, 1) := by decide +kernel
theorem dX6_run_99 : decode cX6_run 99 = .ok (.iconst 0, 1) := by decide +kernel
theorem dX6_run_100 : decode cX6_run 100 = .ok (.putfield 232, 3) := by decide +kernel
theorem dX6_run_103 : decode cX6_run 103 = .ok (.aload_n 0, 1) := by decide +kernel
theorem dX6_run_104 : decode cX6_run 104 = .ok (.aload_n 0, 1) := by decide +kernel
theorem dX6_run_105 : decode cX6_run 105 = .ok (.getfield 238, 3) := by decide +kernel
theorem dX6_run_108 : decode cX6_run 108 = .ok (.ifCond .eq 10, 3) := by decide +kernel
theorem dX6_run_111 : decode cX6_run 111 = .ok (.aload_n 0, 1) := by decide +kernel
theorem dX6_run_112 : decode cX6_run 112 = .ok (.getfield 235, 3) := by decide +kernel
theorem dX6_run_115 : decode cX6_run 115 = .ok (.goto 4, 3) := by decide +kernel
theorem dX6_run_118 : decode cX6_run 118 = .ok (.iconst (-1), 1) := by decide +kernel
theorem dX6_run_119 : decode cX6_run 119 = .ok (.putfield 26, 3) := by decide +kernel
theorem dX6_run_122 : decode cX6_run 122 = .ok (.aload_n 0, 1) := by decide +kernel
theorem dX6_run_123 : decode cX6_run 123 = .ok (.getfield 238, 3) := by decide +kernel
theorem dX6_run_126 : decode cX6_run 126 = .ok (.ifCond .eq 9, 3) := by decide +kernel
theorem dX6_run_129 : decode cX6_run 129 = .ok (.aload_n 0, 1) := by decide +kernel
theorem dX6_run_130 : decode cX6_run 130 = .ok (.iconst 1, 1) := by decide +kernel
theorem dX6_run_131 : decode cX6_run 131 = .ok (.invokevirtual 77, 3) := by decide +kernel
theorem dX6_run_134 : decode cX6_run 134 = .ok (.ireturn, 1) := by decide +kernel
theorem dX6_run_135 : decode cX6_run 135 = .ok (.aload_n 0, 1) := by decide +kernel
theorem dX6_run_136 : decode cX6_run 136 = .ok (.invokevirtual 84, 3) := by decide +kernel
theorem dX6_run_139 : decode cX6_run 139 = .ok (.iconst 0, 1) := by decide +kernel
theorem dX6_run_140 : decode cX6_run 140 = .ok (.istore_n 3, 1) := by decide +kernel
theorem dX6_run_141 : decode cX6_run 141 = .ok (.iload_n 3, 1) := by decide +kernel
theorem dX6_run_142 : decode cX6_run 142 = .ok (.iload_n 1, 1) := by decide +kernel
theorem dX6_run_143 : decode cX6_run 143 = .ok (.if_icmp .ge 48, 3) := by decide +kernel
theorem dX6_run_146 : decode cX6_run 146 = .ok (.aload_n 0, 1) := by decide +kernel
theorem dX6_run_147 : decode cX6_run 147 = .ok (.iconst 3, 1) := by decide +kernel
theorem dX6_run_148 : decode cX6_run 148 = .ok (.iload_n 3, 1) := by decide +kernel
theorem dX6_run_149 : decode cX6_run 149 = .ok (.imul, 1) := by decide +kernel
theorem dX6_run_150 : decode cX6_run 150 = .ok (.invokevirtual 257, 3) := by decide +kernel
theorem dX6_run_153 : decode cX6_run 153 = .ok (.istore 4, 2) := by decide +kernel
theorem dX6_run_155 : decode cX6_run 155 = .ok (.aload_n 0, 1) := by decide +kernel
theorem dX6_run_156 : decode cX6_run 156 = .ok (.getfield 46, 3) := by decide +kernel
theorem dX6_run_159 : decode cX6_run 159 = .ok (.ifCond .eq 26, 3) := by decide +kernel
theorem dX6_run_162 : decode cX6_run 162 = .ok (.aload_n 0, 1) := by decide +kernel
theorem dX6_run_163 : decode cX6_run 163 = .ok (.aload_n 0, 1) := by decide +kernel
theorem dX6_run_164 : decode cX6_run 164 = .ok (.getfield 49, 3) := by decide +kernel
theorem dX6_run_167 : decode cX6_run 167 = .ok (.ifCond .eq 7, 3) := by decide +kernel
theorem dX6_run_170 : decode cX6_run 170 = .ok (.iconst 2, 1) := by decide +kernel
theorem dX6_run_171 : decode cX6_run 171 = .ok (.goto 4, 3) := by decide +kernel
theorem dX6_run_174 : decode cX6_run 174 = .ok (.iconst 1, 1) := by decide +kernel
theorem dX6_run_175 : decode cX6_run 175 = .ok (.putfield 46, 3) := by decide +kernel
theorem dX6_run_178 : decode cX6_run 178 = .ok (.aload_n 0, 1) := by decide +kernel
theorem dX6_run_179 : decode cX6_run 179 = .ok (.iload 4, 2) := by decide +kernel
theorem dX6_run_181 : decode cX6_run 181 = .ok (.invokevirtual 91, 3) := by decide +kernel
theorem dX6_run_184 : decode cX6_run 184 = .ok (.ireturn, 1) := by decide +kernel
theorem dX6_run_185 : decode cX6_run 185 = .ok (.iinc 3 1, 3) := by decide +kernel
theorem dX6_run_188 : decode cX6_run 188 = .ok (.goto (-47), 3) := by decide +kernel
theorem dX6_run_191 : decode cX6_run 191 = .ok (.aload_n 0, 1) := by decide +kernel
theorem dX6_run_192 : decode cX6_run 192 = .ok (.aload_n 0, 1) := by decide +kernel
theorem dX6_run_193 : decode cX6_run 193 = .ok (.iload_n 1, 1) := by decide +kernel
theorem dX6_run_194 : decode cX6_run 194 = .ok (.invokevirtual 81, 3) := by decide +kernel
theorem dX6_run_197 : decode cX6_run 197 = .ok (.invokevirtual 91, 3) := by decide +kernel
theorem dX6_run_200 : decode cX6_run 200 = .ok (.ireturn, 1) := by decide +kernel
theorem dX6_errorPosition_0 : decode cX6_errorPosition 0 = .ok (.aload_n 0, 1) := by decide +kernel
theorem dX6_errorPosition_1 : decode cX6_errorPosition 1 = .ok (.aload_n 0, 1) := by decide +kernel
theorem dX6_errorPosition_2 : decode cX6_errorPosition 2 = .ok (.getfield 26, 3) := by decide +kernel
theorem dX6_errorPosition_5 : decode cX6_errorPosition 5 = .ok (.invokevirtual 81, 3) := by decide +kernel
theorem dX6_errorPosition_8 : decode cX6_errorPosition 8 = .ok (.ireturn, 1) := by decide +kernel
theorem dX6_refusal_0 : decode cX6_refusal 0 = .ok (.aload_n 0, 1) := by decide +kernel
theorem dX6_refusal_1 : decode cX6_refusal 1 = .ok (.getfield 53, 3) := by decide +kernel
theorem dX6_refusal_4 : decode cX6_refusal 4 = .ok (.ifCond .ne 11, 3) := by decide +kernel
theorem dX6_refusal_7 : decode cX6_refusal 7 = .ok (.aload_n 0, 1) := by decide +kernel
theorem dX6_refusal_8 : decode cX6_refusal 8 = .ok (.iconst 1, 1) := by decide +kernel
theorem dX6_refusal_9 : decode cX6_refusal 9 = .ok (.invokevirtual 77, 3) := by decide +kernel
theorem dX6_refusal_12 : decode cX6_refusal 12 = .ok (.goto 22, 3) := by decide +kernel
theorem dX6_refusal_15 : decode cX6_refusal 15 = .ok (.aload_n 0, 1) := by decide +kernel
theorem dX6_refusal_16 : decode cX6_refusal 16 = .ok (.iload_n 1, 1) := by decide +kernel
theorem dX6_refusal_17 : decode cX6_refusal 17 = .ok (.ifCond .eq 10, 3) := by decide +kernel
theorem dX6_refusal_20 : decode cX6_refusal 20 = .ok (.aload_n 0, 1) := by decide +kernel
theorem dX6_refusal_21 : decode cX6_refusal 21 = .ok (.getfield 56, 3) := by decide +kernel
theorem dX6_refusal_24 : decode cX6_refusal 24 = .ok (.goto 7, 3) := by decide +kernel
theorem dX6_refusal_27 : decode cX6_refusal 27 = .ok (.aload_n 0, 1) := by decide +kernel
theorem dX6_refusal_28 : decode cX6_refusal 28 = .ok (.getfield 53, 3) := by decide +kernel
theorem dX6_refusal_31 : decode cX6_refusal 31 = .ok (.invokevirtual 81, 3) := by decide +kernel
theorem dX6_refusal_34 : decode cX6_refusal 34 = .ok (.ireturn, 1) := by decide +kernel
theorem dX6_account_0 : decode cX6_account 0 = .ok (.iload_n 1, 1) := by decide +kernel
theorem dX6_account_1 : decode cX6_account 1 = .ok (.tableswitch 102 0 9 #[55, 64, 73, 73, 73, 73, 73, 73, 84, 93], 55) := by decide +kernel
theorem dX6_account_56 : decode cX6_account 56 = .ok (.aload_n 0, 1) := by decide +kernel
theorem dX6_account_57 : decode cX6_account 57 = .ok (.aload_n 0, 1) := by decide +kernel
theorem dX6_account_58 : decode cX6_account 58 = .ok (.invokevirtual 66, 3) := by decide +kernel
theorem dX6_account_61 : decode cX6_account 61 = .ok (.invokevirtual 81, 3) := by decide +kernel
theorem dX6_account_64 : decode cX6_account 64 = .ok (.ireturn, 1) := by decide +kernel
theorem dX6_account_65 : decode cX6_account 65 = .ok (.aload_n 0, 1) := by decide +kernel
theorem dX6_account_66 : decode cX6_account 66 = .ok (.aload_n 0, 1) := by decide +kernel
theorem dX6_account_67 : decode cX6_account 67 = .ok (.invokevirtual 193, 3) := by decide +kernel
theorem dX6_account_70 : decode cX6_account 70 = .ok (.invokevirtual 81, 3) := by decide +kernel
theorem dX6_account_73 : decode cX6_account 73 = .ok (.ireturn, 1) := by decide +kernel
theorem dX6_account_74 : decode cX6_account 74 = .ok (.aload_n 0, 1) := by decide +kernel
theorem dX6_account_75 : decode cX6_account 75 = .ok (.aload_n 0, 1) := by decide +kernel
theorem dX6_account_76 : decode cX6_account 76 = .ok (.getfield 7, 3) := by decide +kernel
theorem dX6_account_79 : decode cX6_account 79 = .ok (.iload_n 1, 1) := by decide +kernel
theorem dX6_account_80 : decode cX6_account 80 = .ok (.iaload, 1) := by decide +kernel
theorem dX6_account_81 : decode cX6_account 81 = .ok (.invokevirtual 81, 3) := by decide +kernel
theorem dX6_account_84 : decode cX6_account 84 = .ok (.ireturn, 1) := by decide +kernel
theorem dX6_account_85 : decode cX6_account 85 = .ok (.aload_n 0, 1) := by decide +kernel
theorem dX6_account_86 : decode cX6_account 86 = .ok (.aload_n 0, 1) := by decide +kernel
theorem dX6_account_87 : decode cX6_account 87 = .ok (.getfield 232, 3) := by decide +kernel
theorem dX6_account_90 : decode cX6_account 90 = .ok (.invokevirtual 81, 3) := by decide +kernel
theorem dX6_account_93 : decode cX6_account 93 = .ok (.ireturn, 1) := by decide +kernel
theorem dX6_account_94 : decode cX6_account 94 = .ok (.aload_n 0, 1) := by decide +kernel
theorem dX6_account_95 : decode cX6_account 95 = .ok (.aload_n 0, 1) := by decide +kernel
theorem dX6_account_96 : decode cX6_account 96 = .ok (.getfield 63, 3) := by decide +kernel
theorem dX6_account_99 : decode cX6_account 99 = .ok (.invokevirtual 81, 3) := by decide +kernel
theorem dX6_account_102 : decode cX6_account 102 = .ok (.ireturn, 1) := by decide +kernel
theorem dX6_account_103 : decode cX6_account 103 = .ok (.aload_n 0, 1) := by decide +kernel
theorem dX6_account_104 : decode cX6_account 104 = .ok (.iconst 1, 1) := by decide +kernel
theorem dX6_account_105 : decode cX6_account 105 = .ok (.invokevirtual 77, 3) := by decide +kernel
theorem dX6_account_108 : decode cX6_account 108 = .ok (.ireturn, 1) := by decide +kernel
theorem dX6_isWell_0 : decode cX6_isWell 0 = .ok (.aload_n 0, 1) := by decide +kernel
theorem dX6_isWell_1 : decode cX6_isWell 1 = .ok (.iconst 0, 1) := by decide +kernel
theorem dX6_isWell_2 : decode cX6_isWell 2 = .ok (.putfield 46, 3) := by decide +kernel
theorem dX6_isWell_5 : decode cX6_isWell 5 = .ok (.iconst 1, 1) := by decide +kernel
theorem dX6_isWell_6 : decode cX6_isWell 6 = .ok (.ireturn, 1) := by decide +kernel
theorem dX6_farFromHome_0 : decode cX6_farFromHome 0 = .ok (.aload_n 0, 1) := by decide +kernel
theorem dX6_farFromHome_1 : decode cX6_farFromHome 1 = .ok (.getfield 7, 3) := by decide +kernel
theorem dX6_farFromHome_4 : decode cX6_farFromHome 4 = .ok (.bipush 23, 2) := by decide +kernel
theorem dX6_farFromHome_6 : decode cX6_farFromHome 6 = .ok (.iload_n 1, 1) := by decide +kernel
theorem dX6_farFromHome_7 : decode cX6_farFromHome 7 = .ok (.iadd, 1) := by decide +kernel
theorem dX6_farFromHome_8 : decode cX6_farFromHome 8 = .ok (.iaload, 1) := by decide +kernel
theorem dX6_farFromHome_9 : decode cX6_farFromHome 9 = .ok (.istore_n 2, 1) := by decide +kernel
theorem dX6_farFromHome_10 : decode cX6_farFromHome 10 = .ok (.iconst (-1), 1) := by decide +kernel
theorem dX6_farFromHome_11 : decode cX6_farFromHome 11 = .ok (.istore_n 3, 1) := by decide +kernel
theorem dX6_farFromHome_12 : decode cX6_farFromHome 12 = .ok (.iconst 0, 1) := by decide +kernel
theorem dX6_farFromHome_13 : decode cX6_farFromHome 13 = .ok (.istore 4, 2) := by decide +kernel
theorem dX6_farFromHome_15 : decode cX6_farFromHome 15 = .ok (.iload 4, 2) := by decide +kernel
theorem dX6_farFromHome_17 : decode cX6_farFromHome 17 = .ok (.aload_n 0, 1) := by decide +kernel
theorem dX6_farFromHome_18 : decode cX6_farFromHome 18 = .ok (.invokevirtual 66, 3) := by decide +kernel
theorem dX6_farFromHome_21 : decode cX6_farFromHome 21 = .ok (.if_icmp .ge 46, 3) := by decide +kernel
theorem dX6_farFromHome_24 : decode cX6_farFromHome 24 = .ok (.iload_n 2, 1) := by decide +kernel
theorem dX6_farFromHome_25 : decode cX6_farFromHome 25 = .ok (.iconst (-1), 1) := by decide +kernel
theorem dX6_farFromHome_26 : decode cX6_farFromHome 26 = .ok (.if_icmp .eq 33, 3) := by decide +kernel
theorem dX6_farFromHome_29 : decode cX6_farFromHome 29 = .ok (.aload_n 0, 1) := by decide +kernel
theorem dX6_farFromHome_30 : decode cX6_farFromHome 30 = .ok (.getfield 7, 3) := by decide +kernel
theorem dX6_farFromHome_33 : decode cX6_farFromHome 33 = .ok (.bipush 14, 2) := by decide +kernel
theorem dX6_farFromHome_35 : decode cX6_farFromHome 35 = .ok (.iload 4, 2) := by decide +kernel
theorem dX6_farFromHome_37 : decode cX6_farFromHome 37 = .ok (.iadd, 1) := by decide +kernel
theorem dX6_farFromHome_38 : decode cX6_farFromHome 38 = .ok (.iaload, 1) := by decide +kernel
theorem dX6_farFromHome_39 : decode cX6_farFromHome 39 = .ok (.iload_n 2, 1) := by decide +kernel
theorem dX6_farFromHome_40 : decode cX6_farFromHome 40 = .ok (.if_icmp .ne 19, 3) := by decide +kernel
theorem dX6_farFromHome_43 : decode cX6_farFromHome 43 = .ok (.aload_n 0, 1) := by decide +kernel
theorem dX6_farFromHome_44 : decode cX6_farFromHome 44 = .ok (.iload 4, 2) := by decide +kernel
theorem dX6_farFromHome_46 : decode cX6_farFromHome 46 = .ok (.iload_n 1, 1) := by decide +kernel
theorem dX6_farFromHome_47 : decode cX6_farFromHome 47 = .ok (.aload_n 0, 1) := by decide +kernel
theorem dX6_farFromHome_48 : decode cX6_farFromHome 48 = .ok (.getfield 7, 3) := by decide +kernel
theorem dX6_farFromHome_51 : decode cX6_farFromHome 51 = .ok (.iconst 1, 1) := by decide +kernel
theorem dX6_farFromHome_52 : decode cX6_farFromHome 52 = .ok (.iaload, 1) := by decide +kernel
theorem dX6_farFromHome_53 : decode cX6_farFromHome 53 = .ok (.invokevirtual 202, 3) := by decide +kernel
theorem dX6_farFromHome_56 : decode cX6_farFromHome 56 = .ok (.goto 4, 3) := by decide +kernel
theorem dX6_farFromHome_59 : decode cX6_farFromHome 59 = .ok (.iload_n 3, 1) := by decide +kernel
theorem dX6_farFromHome_60 : decode cX6_farFromHome 60 = .ok (.istore_n 3, 1) := by decide +kernel
theorem dX6_farFromHome_61 : decode cX6_farFromHome 61 = .ok (.iinc 4 1, 3) := by decide +kernel
theorem dX6_farFromHome_64 : decode cX6_farFromHome 64 = .ok (.goto (-49), 3) := by decide +kernel
theorem dX6_farFromHome_67 : decode cX6_farFromHome 67 = .ok (.iload_n 2, 1) := by decide +kernel
theorem dX6_farFromHome_68 : decode cX6_farFromHome 68 = .ok (.iconst (-1), 1) := by decide +kernel
theorem dX6_farFromHome_69 : decode cX6_farFromHome 69 = .ok (.if_icmp .eq 18, 3) := by decide +kernel
theorem dX6_farFromHome_72 : decode cX6_farFromHome 72 = .ok (.aload_n 0, 1) := by decide +kernel
theorem dX6_farFromHome_73 : decode cX6_farFromHome 73 = .ok (.bipush 14, 2) := by decide +kernel
theorem dX6_farFromHome_75 : decode cX6_farFromHome 75 = .ok (.iload_n 2, 1) := by decide +kernel
theorem dX6_farFromHome_76 : decode cX6_farFromHome 76 = .ok (.invokevirtual 174, 3) := by decide +kernel
theorem dX6_farFromHome_79 : decode cX6_farFromHome 79 = .ok (.iconst 1, 1) := by decide +kernel
theorem dX6_farFromHome_80 : decode cX6_farFromHome 80 = .ok (.if_icmp .ne 7, 3) := by decide +kernel
theorem dX6_farFromHome_83 : decode cX6_farFromHome 83 = .ok (.iload_n 3, 1) := by decide +kernel
theorem dX6_farFromHome_84 : decode cX6_farFromHome 84 = .ok (.goto 4, 3) := by decide +kernel
theorem dX6_farFromHome_87 : decode cX6_farFromHome 87 = .ok (.iconst (-1), 1) := by decide +kernel
theorem dX6_farFromHome_88 : decode cX6_farFromHome 88 = .ok (.ireturn, 1) := by decide +kernel
theorem dX6_meanFar_0 : decode cX6_meanFar 0 = .ok (.iconst 0, 1) := by decide +kernel
theorem dX6_meanFar_1 : decode cX6_meanFar 1 = .ok (.istore_n 1, 1) := by decide +kernel
theorem dX6_meanFar_2 : decode cX6_meanFar 2 = .ok (.iconst 0, 1) := by decide +kernel
theorem dX6_meanFar_3 : decode cX6_meanFar 3 = .ok (.istore_n 2, 1) := by decide +kernel
theorem dX6_meanFar_4 : decode cX6_meanFar 4 = .ok (.iconst 0, 1) := by decide +kernel
theorem dX6_meanFar_5 : decode cX6_meanFar 5 = .ok (.istore_n 3, 1) := by decide +kernel
theorem dX6_meanFar_6 : decode cX6_meanFar 6 = .ok (.iload_n 3, 1) := by decide +kernel
theorem dX6_meanFar_7 : decode cX6_meanFar 7 = .ok (.aload_n 0, 1) := by decide +kernel
theorem dX6_meanFar_8 : decode cX6_meanFar 8 = .ok (.invokevirtual 66, 3) := by decide +kernel
theorem dX6_meanFar_11 : decode cX6_meanFar 11 = .ok (.if_icmp .ge 45, 3) := by decide +kernel
theorem dX6_meanFar_14 : decode cX6_meanFar 14 = .ok (.aload_n 0, 1) := by decide +kernel
theorem dX6_meanFar_15 : decode cX6_meanFar 15 = .ok (.iload_n 3, 1) := by decide +kernel
theorem dX6_meanFar_16 : decode cX6_meanFar 16 = .ok (.invokevirtual 260, 3) := by decide +kernel
theorem dX6_meanFar_19 : decode cX6_meanFar 19 = .ok (.istore 4, 2) := by decide +kernel
theorem dX6_meanFar_21 : decode cX6_meanFar 21 = .ok (.iload_n 1, 1) := by decide +kernel
theorem dX6_meanFar_22 : decode cX6_meanFar 22 = .ok (.iload 4, 2) := by decide +kernel
theorem dX6_meanFar_24 : decode cX6_meanFar 24 = .ok (.iconst (-1), 1) := by decide +kernel
theorem dX6_meanFar_25 : decode cX6_meanFar 25 = .ok (.if_icmp .ne 7, 3) := by decide +kernel
theorem dX6_meanFar_28 : decode cX6_meanFar 28 = .ok (.iconst 0, 1) := by decide +kernel
theorem dX6_meanFar_29 : decode cX6_meanFar 29 = .ok (.goto 4, 3) := by decide +kernel
theorem dX6_meanFar_32 : decode cX6_meanFar 32 = .ok (.iconst 1, 1) := by decide +kernel
theorem dX6_meanFar_33 : decode cX6_meanFar 33 = .ok (.iadd, 1) := by decide +kernel
theorem dX6_meanFar_34 : decode cX6_meanFar 34 = .ok (.istore_n 1, 1) := by decide +kernel
theorem dX6_meanFar_35 : decode cX6_meanFar 35 = .ok (.iload_n 2, 1) := by decide +kernel
theorem dX6_meanFar_36 : decode cX6_meanFar 36 = .ok (.iload 4, 2) := by decide +kernel
theorem dX6_meanFar_38 : decode cX6_meanFar 38 = .ok (.iconst (-1), 1) := by decide +kernel
theorem dX6_meanFar_39 : decode cX6_meanFar 39 = .ok (.if_icmp .ne 7, 3) := by decide +kernel
theorem dX6_meanFar_42 : decode cX6_meanFar 42 = .ok (.iconst 0, 1) := by decide +kernel
theorem dX6_meanFar_43 : decode cX6_meanFar 43 = .ok (.goto 5, 3) := by decide +kernel
theorem dX6_meanFar_46 : decode cX6_meanFar 46 = .ok (.iload 4, 2) := by decide +kernel
theorem dX6_meanFar_48 : decode cX6_meanFar 48 = .ok (.iadd, 1) := by decide +kernel
theorem dX6_meanFar_49 : decode cX6_meanFar 49 = .ok (.istore_n 2, 1) := by decide +kernel
theorem dX6_meanFar_50 : decode cX6_meanFar 50 = .ok (.iinc 3 1, 3) := by decide +kernel
theorem dX6_meanFar_53 : decode cX6_meanFar 53 = .ok (.goto (-47), 3) := by decide +kernel
theorem dX6_meanFar_56 : decode cX6_meanFar 56 = .ok (.aload_n 0, 1) := by decide +kernel
theorem dX6_meanFar_57 : decode cX6_meanFar 57 = .ok (.iload_n 1, 1) := by decide +kernel
theorem dX6_meanFar_58 : decode cX6_meanFar 58 = .ok (.ifCond .ne 7, 3) := by decide +kernel
theorem dX6_meanFar_61 : decode cX6_meanFar 61 = .ok (.iconst 1, 1) := by decide +kernel
theorem dX6_meanFar_62 : decode cX6_meanFar 62 = .ok (.goto 4, 3) := by decide +kernel
theorem dX6_meanFar_65 : decode cX6_meanFar 65 = .ok (.iconst 0, 1) := by decide +kernel
theorem dX6_meanFar_66 : decode cX6_meanFar 66 = .ok (.putfield 46, 3) := by decide +kernel
theorem dX6_meanFar_69 : decode cX6_meanFar 69 = .ok (.aload_n 0, 1) := by decide +kernel
theorem dX6_meanFar_70 : decode cX6_meanFar 70 = .ok (.getfield 46, 3) := by decide +kernel
theorem dX6_meanFar_73 : decode cX6_meanFar 73 = .ok (.ifCond .ne 11, 3) := by decide +kernel
theorem dX6_meanFar_76 : decode cX6_meanFar 76 = .ok (.iload_n 2, 1) := by decide +kernel
theorem dX6_meanFar_77 : decode cX6_meanFar 77 = .ok (.i2d, 1) := by decide +kernel
theorem dX6_meanFar_78 : decode cX6_meanFar 78 = .ok (.iload_n 1, 1) := by decide +kernel
theorem dX6_meanFar_79 : decode cX6_meanFar 79 = .ok (.i2d, 1) := by decide +kernel
theorem dX6_meanFar_80 : decode cX6_meanFar 80 = .ok (.ddiv, 1) := by decide +kernel
theorem dX6_meanFar_81 : decode cX6_meanFar 81 = .ok (.goto 4, 3) := by decide +kernel
theorem dX6_meanFar_84 : decode cX6_meanFar 84 = .ok (.dconst 0, 1) := by decide +kernel
theorem dX6_meanFar_85 : decode cX6_meanFar 85 = .ok (.dreturn, 1) := by decide +kernel
theorem dX6_homeShare_0 : decode cX6_homeShare 0 = .ok (.aload_n 0, 1) := by decide +kernel
theorem dX6_homeShare_1 : decode cX6_homeShare 1 = .ok (.iconst 0, 1) := by decide +kernel
theorem dX6_homeShare_2 : decode cX6_homeShare 2 = .ok (.putfield 46, 3) := by decide +kernel
theorem dX6_homeShare_5 : decode cX6_homeShare 5 = .ok (.aload_n 0, 1) := by decide +kernel
theorem dX6_homeShare_6 : decode cX6_homeShare 6 = .ok (.invokevirtual 134, 3) := by decide +kernel
theorem dX6_homeShare_9 : decode cX6_homeShare 9 = .ok (.i2f, 1) := by decide +kernel
theorem dX6_homeShare_10 : decode cX6_homeShare 10 = .ok (.aload_n 0, 1) := by decide +kernel
theorem dX6_homeShare_11 : decode cX6_homeShare 11 = .ok (.invokevirtual 66, 3) := by decide +kernel
theorem dX6_homeShare_14 : decode cX6_homeShare 14 = .ok (.i2f, 1) := by decide +kernel
theorem dX6_homeShare_15 : decode cX6_homeShare 15 = .ok (.fdiv, 1) := by decide +kernel
theorem dX6_homeShare_16 : decode cX6_homeShare 16 = .ok (.freturn, 1) := by decide +kernel
theorem dX6_undo_0 : decode cX6_undo 0 = .ok (.aload_n 0, 1) := by decide +kernel
theorem dX6_undo_1 : decode cX6_undo 1 = .ok (.getfield 63, 3) := by decide +kernel
theorem dX6_undo_4 : decode cX6_undo 4 = .ok (.ifCond .ne 9, 3) := by decide +kernel
theorem dX6_undo_7 : decode cX6_undo 7 = .ok (.aload_n 0, 1) := by decide +kernel
theorem dX6_undo_8 : decode cX6_undo 8 = .ok (.iconst 1, 1) := by decide +kernel
theorem dX6_undo_9 : decode cX6_undo 9 = .ok (.invokevirtual 77, 3) := by decide +kernel
theorem dX6_undo_12 : decode cX6_undo 12 = .ok (.ireturn, 1) := by decide +kernel
theorem dX6_undo_13 : decode cX6_undo 13 = .ok (.aload_n 0, 1) := by decide +kernel
theorem dX6_undo_14 : decode cX6_undo 14 = .ok (.dup, 1) := by decide +kernel
theorem dX6_undo_15 : decode cX6_undo 15 = .ok (.getfield 63, 3) := by decide +kernel
theorem dX6_undo_18 : decode cX6_undo 18 = .ok (.iconst 1, 1) := by decide +kernel
theorem dX6_undo_19 : decode cX6_undo 19 = .ok (.isub, 1) := by decide +kernel
theorem dX6_undo_20 : decode cX6_undo 20 = .ok (.putfield 63, 3) := by decide +kernel
theorem dX6_undo_23 : decode cX6_undo 23 = .ok (.aload_n 0, 1) := by decide +kernel
theorem dX6_undo_24 : decode cX6_undo 24 = .ok (.getfield 16, 3) := by decide +kernel
theorem dX6_undo_27 : decode cX6_undo 27 = .ok (.aload_n 0, 1) := by decide +kernel
theorem dX6_undo_28 : decode cX6_undo 28 = .ok (.getfield 63, 3) := by decide +kernel
theorem dX6_undo_31 : decode cX6_undo 31 = .ok (.bipush 32, 2) := by decide +kernel
theorem dX6_undo_33 : decode cX6_undo 33 = .ok (.imul, 1) := by decide +kernel
theorem dX6_undo_34 : decode cX6_undo 34 = .ok (.aload_n 0, 1) := by decide +kernel
theorem dX6_undo_35 : decode cX6_undo 35 = .ok (.getfield 7, 3) := by decide +kernel
theorem dX6_undo_38 : decode cX6_undo 38 = .ok (.iconst 0, 1) := by decide +kernel
theorem dX6_undo_39 : decode cX6_undo 39 = .ok (.invokestatic 59, 3) := by decide +kernel
theorem dX6_undo_42 : decode cX6_undo 42 = .ok (.aload_n 0, 1) := by decide +kernel
theorem dX6_undo_43 : decode cX6_undo 43 = .ok (.aload_n 0, 1) := by decide +kernel
theorem dX6_undo_44 : decode cX6_undo 44 = .ok (.getfield 63, 3) := by decide +kernel
theorem dX6_undo_47 : decode cX6_undo 47 = .ok (.invokevirtual 81, 3) := by decide +kernel
theorem dX6_undo_50 : decode cX6_undo 50 = .ok (.ireturn, 1) := by decide +kernel
theorem dX6_save_0 : decode cX6_save 0 = .ok (.aload_n 0, 1) := by decide +kernel
theorem dX6_save_1 : decode cX6_save 1 = .ok (.getfield 7, 3) := by decide +kernel
theorem dX6_save_4 : decode cX6_save 4 = .ok (.iconst 0, 1) := by decide +kernel
theorem dX6_save_5 : decode cX6_save 5 = .ok (.aload_n 0, 1) := by decide +kernel
theorem dX6_save_6 : decode cX6_save 6 = .ok (.getfield 19, 3) := by decide +kernel
theorem dX6_save_9 : decode cX6_save 9 = .ok (.iconst 0, 1) := by decide +kernel
theorem dX6_save_10 : decode cX6_save 10 = .ok (.invokestatic 59, 3) := by decide +kernel
theorem dX6_save_13 : decode cX6_save 13 = .ok (.aload_n 0, 1) := by decide +kernel
theorem dX6_save_14 : decode cX6_save 14 = .ok (.iconst 1, 1) := by decide +kernel
theorem dX6_save_15 : decode cX6_save 15 = .ok (.putfield 263, 3) := by decide +kernel
theorem dX6_save_18 : decode cX6_save 18 = .ok (.aload_n 0, 1) := by decide +kernel
theorem dX6_save_19 : decode cX6_save 19 = .ok (.aload_n 0, 1) := by decide +kernel
theorem dX6_save_20 : decode cX6_save 20 = .ok (.invokevirtual 134, 3) := by decide +kernel
theorem dX6_save_23 : decode cX6_save 23 = .ok (.invokevirtual 81, 3) := by decide +kernel
theorem dX6_save_26 : decode cX6_save 26 = .ok (.ireturn, 1) := by decide +kernel
theorem dX6_restore_0 : decode cX6_restore 0 = .ok (.aload_n 0, 1) := by decide +kernel
theorem dX6_restore_1 : decode cX6_restore 1 = .ok (.getfield 263, 3) := by decide +kernel
theorem dX6_restore_4 : decode cX6_restore 4 = .ok (.ifCond .ne 9, 3) := by decide +kernel
theorem dX6_restore_7 : decode cX6_restore 7 = .ok (.aload_n 0, 1) := by decide +kernel
theorem dX6_restore_8 : decode cX6_restore 8 = .ok (.iconst 1, 1) := by decide +kernel
theorem dX6_restore_9 : decode cX6_restore 9 = .ok (.invokevirtual 77, 3) := by decide +kernel
theorem dX6_restore_12 : decode cX6_restore 12 = .ok (.ireturn, 1) := by decide +kernel
theorem dX6_restore_13 : decode cX6_restore 13 = .ok (.aload_n 0, 1) := by decide +kernel
theorem dX6_restore_14 : decode cX6_restore 14 = .ok (.getfield 19, 3) := by decide +kernel
theorem dX6_restore_17 : decode cX6_restore 17 = .ok (.iconst 0, 1) := by decide +kernel
theorem dX6_restore_18 : decode cX6_restore 18 = .ok (.aload_n 0, 1) := by decide +kernel
theorem dX6_restore_19 : decode cX6_restore 19 = .ok (.getfield 7, 3) := by decide +kernel
theorem dX6_restore_22 : decode cX6_restore 22 = .ok (.iconst 0, 1) := by decide +kernel
theorem dX6_restore_23 : decode cX6_restore 23 = .ok (.invokestatic 59, 3) := by decide +kernel
theorem dX6_restore_26 : decode cX6_restore 26 = .ok (.aload_n 0, 1) := by decide +kernel
theorem dX6_restore_27 : decode cX6_restore 27 = .ok (.iconst 0, 1) := by decide +kernel
theorem dX6_restore_28 : decode cX6_restore 28 = .ok (.putfield 63, 3) := by decide +kernel
theorem dX6_restore_31 : decode cX6_restore 31 = .ok (.aload_n 0, 1) := by decide +kernel
theorem dX6_restore_32 : decode cX6_restore 32 = .ok (.aload_n 0, 1) := by decide +kernel
theorem dX6_restore_33 : decode cX6_restore 33 = .ok (.invokevirtual 134, 3) := by decide +kernel
theorem dX6_restore_36 : decode cX6_restore 36 = .ok (.invokevirtual 81, 3) := by decide +kernel
theorem dX6_restore_39 : decode cX6_restore 39 = .ok (.ireturn, 1) := by decide +kernel
end
section
/-! THE WORLD: 38 things by number (0 the puzzle, 26 the reference, 36 and 37 the law's own rows); what each holds is a function of numbers -/
abbrev vc : List vw_C := [(RX0, TX0, 11), (RX1, TX1, 8), (RX2, TX2, 3), (RX3, TX3, 2), (RX4, TX4, 7), (RX5, TX5, 13), (RX6, TX6, 21)]
/-- what kind each field is of: 0 a number of 32 bits, 1 of 64, 2 a reference that stays, 3 one that is null at first -/
def kds : Nat → List Nat
  | 0 => [0, 0, 1, 1, 0, 0, 0, 0, 0, 0, 0]
  | 1 => [2, 2, 2, 2, 0, 0, 0, 0]
  | 2 => [2, 0, 0]
  | 3 => [2, 0]
  | 4 => [2, 2, 2, 3, 0, 0, 0]
  | 5 => [2, 2, 2, 2, 2, 2, 2, 2, 0, 0, 0, 0, 0]
  | _ => [2, 2, 2, 0, 2, 0, 2, 0, 0, 0, 0, 0, 2, 0, 0, 2, 2, 0, 0, 0, 2]
/-- a thing's shape: below 7 an object of that class; 10 .. 14 a row of int, long, char, double, boards, with its length -/
def shL : List (Nat × Nat) := [(5, 0), (0, 0), (0, 0), (0, 0), (2, 0), (14, 8), (0, 0), (0, 0), (0, 0), (0, 0), (0, 0), (0, 0), (0, 0), (0, 0), (1, 0), (11, 157), (10, 157), (11, 13), (11, 13), (3, 0), (12, 11), (4, 0), (10, 60), (10, 60), (10, 60), (12, 60), (6, 0), (10, 32), (10, 32), (10, 256), (10, 32), (12, 60), (12, 20), (10, 9), (10, 9), (10, 180), (11, 1), (13, 1)]
def shp (h : Nat) : Nat × Nat := shL.getD h (10, 0)
/-- whom a reference names -/
def rf (h k : Nat) : Nat := match h with
  | 0 => [1, 2, 3, 4, 14, 19, 21, 25].getD k 0
  | 4 => 5
  | 5 => 6 + k
  | 14 => 15 + k
  | 19 => 20
  | 21 => 22 + k
  | 26 => [27, 28, 29, 0, 30, 0, 31, 0, 0, 0, 0, 0, 32, 0, 0, 33, 34, 0, 0, 0, 35].getD k 0
  | _ => 0
abbrev Wo : Type := (Nat → Nat → Int32) × (Nat → Nat → Int64) × (Nat → Nat → UInt64)
def gI (w : Wo) (h k : Nat) : Int32 := w.1 h k
def gL (w : Wo) (h k : Nat) : Int64 := w.2.1 h k
def gD (w : Wo) (h k : Nat) : UInt64 := w.2.2 h k
def pI (w : Wo) (h k : Nat) (v : Int32) : Wo := (fun a b => if a = h ∧ b = k then v else w.1 a b, w.2)
def pL (w : Wo) (h k : Nat) (v : Int64) : Wo := (w.1, fun a b => if a = h ∧ b = k then v else w.2.1 a b, w.2.2)
def pD (w : Wo) (h k : Nat) (v : UInt64) : Wo := (w.1, w.2.1, fun a b => if a = h ∧ b = k then v else w.2.2 a b)
/-- where the world lies: what the tables say of classes, each thing's address, the classes of rows, how many things there are, the heap's size before all, the addresses of texts -/
abbrev Pl : Type := va_G × (Nat → Nat) × (Nat → ClassId) × Nat × Nat × (Nat → Nat)
def vq (ad : Nat → Nat) (w : Wo) (h k q : Nat) : Value := match q with
  | 0 => .int (gI w h k)
  | 1 => .long (gL w h k)
  | 2 => .ref (ad (rf h k))
  | _ => if gI w h k = 0 then .null else .ref (ad (rf h k))
def ce (ad : Nat → Nat) (cA : Nat → ClassId) (w : Wo) (h : Nat) : va_E := match (shp h).1 with
  | 10 => .inl (cA 0, (shp h).2, .inl (gI w h))
  | 11 => .inl (cA 1, (shp h).2, .inr (.inl (gL w h)))
  | 12 => .inl (cA 2, (shp h).2, .inl (gI w h))
  | 13 => .inl (cA 3, (shp h).2, .inr (.inr (.inr (.inl (gD w h)))))
  | 14 => .inl (cA 4, (shp h).2, .inr (.inr (.inr (.inr (fun j => some (ad (rf h j)))))))
  | c => .inr (c, (kds c).mapIdx (fun k q => vq ad w h k q))
def wl (ad : Nat → Nat) (cA : Nat → ClassId) (n : Nat) (w : Wo) : va_W := (List.range n).map (fun h => (ad h, ce ad cA w h))
def tyl (cA : Nat → ClassId) : List (ClassId × FieldType) := [(cA 0, .int), (cA 1, .long), (cA 2, .char), (cA 3, .double), (cA 4, .object "VowelTorus$Board")]
theorem wl_at {ad : Nat → Nat} {cA : Nat → ClassId} {n : Nat} {w : Wo} {h : Nat} (hh : h < n) : (wl ad cA n w)[h]? = some (ad h, ce ad cA w h) := by
  simp [wl, hh]
theorem wl_lt {ad : Nat → Nat} {cA : Nat → ClassId} {n : Nat} {w : Wo} {k : Nat} {q : Nat × va_E} (h : (wl ad cA n w)[k]? = some q) : k < n ∧ q = (ad k, ce ad cA w k) := by
  by_cases hk : k < n
  · rw [wl_at hk] at h
    exact ⟨hk, (Option.some.inj h).symm⟩
  · simp [wl, hk] at h
theorem wl_set {ad : Nat → Nat} {cA : Nat → ClassId} {n : Nat} {w w' : Wo} {h : Nat} {e : va_E} (he : ce ad cA w' h = e) (ho : ∀ j, j ≠ h → ce ad cA w' j = ce ad cA w j) : (wl ad cA n w).set h (ad h, e) = wl ad cA n w' := by
  apply List.ext_getElem?
  intro j
  rw [List.getElem?_set]
  by_cases hj : h = j
  · subst hj
    by_cases hn : h < n
    · rw [if_pos rfl, if_pos (by simpa [wl] using hn), wl_at hn, he]
    · rw [if_pos rfl, if_neg (by simpa [wl] using hn)]
      simp [wl, hn]
  · rw [if_neg hj]
    by_cases hn : j < n
    · rw [wl_at hn, wl_at hn, ho j (fun q => hj q.symm)]
    · simp [wl, hn]
theorem pI_o {ad : Nat → Nat} {cA : Nat → ClassId} {w : Wo} {h k j : Nat} {v : Int32} (hj : j ≠ h) : ce ad cA (pI w h k v) j = ce ad cA w j := by
  have e1 : gI (pI w h k v) j = gI w j := by funext b; simp [gI, pI, hj]
  have e2 : gL (pI w h k v) j = gL w j := by funext b; simp [gL, pI]
  have e3 : gD (pI w h k v) j = gD w j := by funext b; simp [gD, pI]
  have e4 : (fun k2 q => vq ad (pI w h k v) j k2 q) = fun k2 q => vq ad w j k2 q := by funext a b; unfold vq; rw [e1, e2]
  unfold ce
  rw [e1, e2, e3, e4]
theorem pL_o {ad : Nat → Nat} {cA : Nat → ClassId} {w : Wo} {h k j : Nat} {v : Int64} (hj : j ≠ h) : ce ad cA (pL w h k v) j = ce ad cA w j := by
  have e1 : gI (pL w h k v) j = gI w j := by funext b; simp [gI, pL]
  have e2 : gL (pL w h k v) j = gL w j := by funext b; simp [gL, pL, hj]
  have e3 : gD (pL w h k v) j = gD w j := by funext b; simp [gD, pL]
  have e4 : (fun k2 q => vq ad (pL w h k v) j k2 q) = fun k2 q => vq ad w j k2 q := by funext a b; unfold vq; rw [e1, e2]
  unfold ce
  rw [e1, e2, e3, e4]
theorem pD_o {ad : Nat → Nat} {cA : Nat → ClassId} {w : Wo} {h k j : Nat} {v : UInt64} (hj : j ≠ h) : ce ad cA (pD w h k v) j = ce ad cA w j := by
  have e1 : gI (pD w h k v) j = gI w j := by funext b; simp [gI, pD]
  have e2 : gL (pD w h k v) j = gL w j := by funext b; simp [gL, pD]
  have e3 : gD (pD w h k v) j = gD w j := by funext b; simp [gD, pD, hj]
  have e4 : (fun k2 q => vq ad (pD w h k v) j k2 q) = fun k2 q => vq ad w j k2 q := by funext a b; unfold vq; rw [e1, e2]
  unfold ce
  rw [e1, e2, e3, e4]
/-- an object's cell -/
theorem ce_obj {ad : Nat → Nat} {cA : Nat → ClassId} {w : Wo} {h c : Nat} (hs : (shp h).1 = c) (hc : c < 7) : ce ad cA w h = .inr (c, (kds c).mapIdx (fun k q => vq ad w h k q)) := by
  unfold ce
  rw [hs]
  match c, hc with
  | 0, _ => rfl
  | 1, _ => rfl
  | 2, _ => rfl
  | 3, _ => rfl
  | 4, _ => rfl
  | 5, _ => rfl
  | 6, _ => rfl
theorem ce_int {ad : Nat → Nat} {cA : Nat → ClassId} {w : Wo} {h n : Nat} (hs : shp h = (10, n)) : ce ad cA w h = .inl (cA 0, n, .inl (gI w h)) := by unfold ce; rw [hs]; rfl
theorem ce_long {ad : Nat → Nat} {cA : Nat → ClassId} {w : Wo} {h n : Nat} (hs : shp h = (11, n)) : ce ad cA w h = .inl (cA 1, n, .inr (.inl (gL w h))) := by unfold ce; rw [hs]; rfl
theorem ce_char {ad : Nat → Nat} {cA : Nat → ClassId} {w : Wo} {h n : Nat} (hs : shp h = (12, n)) : ce ad cA w h = .inl (cA 2, n, .inl (gI w h)) := by unfold ce; rw [hs]; rfl
theorem ce_dbl {ad : Nat → Nat} {cA : Nat → ClassId} {w : Wo} {h n : Nat} (hs : shp h = (13, n)) : ce ad cA w h = .inl (cA 3, n, .inr (.inr (.inr (.inl (gD w h))))) := by unfold ce; rw [hs]; rfl
theorem ce_ref {ad : Nat → Nat} {cA : Nat → ClassId} {w : Wo} {h n : Nat} (hs : shp h = (14, n)) : ce ad cA w h = .inl (cA 4, n, .inr (.inr (.inr (.inr (fun j => some (ad (rf h j))))))) := by unfold ce; rw [hs]; rfl
theorem mapIdx_set {f g : Nat → Nat → Value} {ks : List Nat} {k q : Nat} {v : Value} (hk : ks[k]? = some q) (hv : g k q = v) (ho : ∀ j x, j ≠ k → g j x = f j x) : (ks.mapIdx f).set k v = ks.mapIdx g := by
  apply List.ext_getElem?
  intro j
  rw [List.getElem?_set, List.getElem?_mapIdx, List.getElem?_mapIdx]
  by_cases hj : k = j
  · subst hj
    have hl : k < ks.length := by
      rcases Nat.lt_or_ge k ks.length with h | h
      · exact h
      · rw [List.getElem?_eq_none h] at hk; cases hk
    rw [if_pos rfl, if_pos (by simpa using hl), hk]
    simp [hv]
  · rw [if_neg hj]
    cases hq : ks[j]? with
    | none => rfl
    | some x => simp [ho j x (fun e => hj e.symm)]
end
section
/-! PLACES AND PREDICATES -/
/-- what the exceptions need: two statics of Throwable, the texts -/
def strs : List (Nat × String) := [(319, "no such place, line or turn"), (321, "a number, letter or text is not as it must be"), (325, "it is refused"), (129, "the goal is more than 3 turns away"), (316, "no such place, line, turn or index"), (176, "what is not from 0 to 6"), (185, "the goal is reached, or more than 3 turns away"), (194, "letters are alike, or the goal has others"), (213, "all lines are barred"), (215, "the times are not from 0 to 99"), (235, "no such place in the order of lines"), (261, "the input is full"), (273, "nothing was refused"), (288, "what is not from 0 to 9"), (298, "no letter of the goal is once on the board"), (301, "no change can be undone"), (309, "there is no snapshot")]
def nests : List (String × Nat × MethodName × String) := [(RX5, 11, yX0_init, RX5), (RX2, 24, yX0_init, RX5), (RX5, 31, yX1_init, RX5), (RX5, 38, yX3_init, RX5), (RX5, 45, yX4_init, RX5), (RX0, 50, yX5_withCode, RX5), (RX0, 98, yX5_codeAt, RX5), (RX0, 147, yX5_signOf, RX5), (RX0, 151, yX5_isVowel, RX5), (RX4, 69, yX5_codeOf, RX5)]
def nocs : List (String × String) := [("java/lang/IllegalArgumentException", "java/lang/IndexOutOfBoundsException"), ("java/lang/UnsupportedOperationException", "java/lang/IndexOutOfBoundsException"), ("java/lang/UnsupportedOperationException", "java/lang/IllegalArgumentException"), ("java/util/NoSuchElementException", "java/lang/UnsupportedOperationException")]
def excs : List String := ["java/lang/IndexOutOfBoundsException", "java/lang/IllegalArgumentException", "java/lang/UnsupportedOperationException", "java/util/NoSuchElementException", "java/lang/IllegalStateException", "java/lang/ArithmeticException"]
def Ab (n0 : Nat) : Nat → Prop := fun q => n0 ≤ q
def Ex (n0 : Nat) (sa : Nat → Nat) (U : State) : Prop := vx_Zq Bundle.tN "UNASSIGNED_STACK" Bundle.steD (Ab n0) U U.heap ∧ vx_Zq Bundle.tN "SUPPRESSED_SENTINEL" Bundle.listD (Ab n0) U U.heap ∧ (∀ q ∈ strs, vk_R RX5 q.1 q.2 (sa q.1) U) ∧ (∀ q ∈ nests, va_Nw (.methodLinkNest q.1 q.2.1 q.2.2.1 q.2.2.2) U) ∧ (∀ q ∈ nocs, va_Nc q.1 q.2 U) ∧ ∀ q ∈ excs, va_Nw (.castable q q) U
/-- the things' addresses are apart, behind n0 -/
def Adr (P : Pl) : Prop := (∀ i j, i < P.2.2.2.1 → j < P.2.2.2.1 → P.2.1 i = P.2.1 j → i = j) ∧ ∀ i, i < P.2.2.2.1 → P.2.2.2.2.1 ≤ P.2.1 i
theorem Adr.D {P : Pl} (h : Adr P) (w : Wo) : va_D (Ab P.2.2.2.2.1) (wl P.2.1 P.2.2.1 P.2.2.2.1 w) := by
  refine ⟨fun i j p q hi hj e => ?_, fun k q hk => ?_⟩
  · obtain ⟨h1, rfl⟩ := wl_lt hi
    obtain ⟨h2, rfl⟩ := wl_lt hj
    exact h.1 i j h1 h2 e
  · obtain ⟨h1, rfl⟩ := wl_lt hk
    exact h.2 k h1
/-- the world w stands at the state U -/
def Wp (P : Pl) (w : Wo) (U : State) : Prop := P.2.2.2.2.1 ≤ U.heap.size ∧ va_P P.1 vc (wl P.2.1 P.2.2.1 P.2.2.2.1 w) U.heap ∧ va_K P.1 vc (tyl P.2.2.1) U ∧ Ex P.2.2.2.2.1 P.2.2.2.2.2 U
/-- the world w stands in the heap H, on the way from s -/
def St (P : Pl) (s : State) (w : Wo) (H : Heap) (locs : List Loc) : Prop := va_P P.1 vc (wl P.2.1 P.2.2.1 P.2.2.2.1 w) H ∧ va_S (Ab P.2.2.2.2.1) s.heap H locs
/-- the world w behind a method -/
def Wq (P : Pl) (w : Wo) (U : State) : Prop := va_P P.1 vc (wl P.2.1 P.2.2.1 P.2.2.2.1 w) U.heap
theorem St.Q {P : Pl} {s : State} {w : Wo} {H : Heap} {locs : List Loc} (h : St P s w H locs) {U : State} (hU : U.heap = H) : Wq P w U := by subst hU; exact h.1
/-- what stays on the way from s -/
def Fx (P : Pl) (s : State) : Prop := P.2.2.2.2.1 ≤ s.heap.size ∧ va_K P.1 vc (tyl P.2.2.1) s ∧ Ex P.2.2.2.2.1 P.2.2.2.2.2 s ∧ Adr P
theorem Ex.warm {n0 : Nat} {sa : Nat → Nat} {s U : State} (h : Ex n0 sa s) (hW : s.WarmedH U.vm) (hk : ∀ q : Nat, q < s.heap.size → ¬ Ab n0 q → U.heap[q]? = s.heap[q]?) : Ex n0 sa U :=
  ⟨vx_Zq.moved hW.alike (h.1.kept hk), vx_Zq.moved hW.alike (h.2.1.kept hk), fun q hq => vk_R.warm hW (h.2.2.1 q hq), fun q hq => va_Nw.warmM hW (h.2.2.2.1 q hq), fun q hq => (h.2.2.2.2.1 q hq).moved hW.alike, fun q hq => va_Nw.warmC hW (h.2.2.2.2.2 q hq)⟩
theorem Ex.same {n0 : Nat} {sa : Nat → Nat} {u U : State} (h : Ex n0 sa u) (hv : U.vm = u.vm) (hh : U.heap = u.heap) : Ex n0 sa U :=
  ⟨by rw [hh]; exact vx_Zq.moved (by rw [hv]; exact Vm.Alike.refl _) h.1, by rw [hh]; exact vx_Zq.moved (by rw [hv]; exact Vm.Alike.refl _) h.2.1, fun q hq => vk_R.same hv (h.2.2.1 q hq), fun q hq => va_Nw.same rfl hv.symm (h.2.2.2.1 q hq), fun q hq => (h.2.2.2.2.1 q hq).moved (by rw [hv]; exact Vm.Alike.refl _), fun q hq => va_Nw.same rfl hv.symm (h.2.2.2.2.2 q hq)⟩
theorem Wp.blind {P : Pl} {w : Wo} {a : Array Value} {U : State} {g : JFrame} {mk : MethodId} (h : Wp P w U) : Wp P w (U.calling g mk a) :=
  ⟨h.1, h.2.1, va_K.moved (Vm.Alike.refl U.vm) h.2.2.1, h.2.2.2.same rfl rfl⟩
/-- at a state on the way whose heap is H -/
theorem St.W {P : Pl} {s : State} {w : Wo} {H : Heap} {locs : List Loc} (hF : Fx P s) (h : St P s w H locs) {U : State} (hU : U.heap = H) (hW : s.WarmedH U.vm) : Wp P w U := by
  subst hU
  exact ⟨Nat.le_trans hF.1 h.2.1, h.1, va_K.moved hW.alike hF.2.1, hF.2.2.1.warm hW h.2.2.1⟩
theorem Wp.fx {P : Pl} {w : Wo} {s : State} (h : Wp P w s) (ha : Adr P) : Fx P s ∧ St P s w s.heap [] := ⟨⟨h.1, h.2.2.1, h.2.2.2, ha⟩, h.2.1, va_S.rf⟩
/-- all words of the tables that a callee may take over -/
def ALLW : List Cond := lw_tbl.filter goodWord
abbrev wsU (y : MethodName) (b : ByteArray) (maxL : Nat) (ret : Option FieldType) : List Cond := Cond.code y b maxL ret :: ALLW
theorem inA {w : Cond} (i : Nat) (h : lw_tbl[i]? = some w) (g : goodWord w = true) : w ∈ ALLW := List.mem_filter.mpr ⟨List.mem_of_getElem? h, g⟩
theorem goodA {ws : List Cond} {c : Cond} (h : ∀ w ∈ ws, w ∈ ALLW) : GoodIn (c :: ALLW) (ws ++ ALLW) := by
  intro w hw
  have hm : w ∈ ALLW := by
    rcases List.mem_append.mp hw with q | q
    · exact h w q
    · exact q
  exact ⟨List.mem_cons_of_mem _ hm, good_of_word (List.mem_filter.mp hm).2⟩
abbrev rmU (d mc ms : Nat) : Room := { frames := d, cells := mc, slots := ms, locals := 40 * d }
section VT
variable {p : Program} {l : Launch} {e : Env} {R : Room} {s : State} {m : MethodId} {args : Array Value} {below : List Frame} {meth : Method} {c : Code} {H : Heap} {locs : List Loc} {cells slots : Nat} {Q : State → Prop}
variable {cc : ByteArray} {pc nL : Nat} {ls : Array Slot} {rest : List Value} {own C : String} {Ts : List Cond} {P : Pl} {w : Wo} {T : u_T} {N ci k index n : Nat}
theorem vt_getI (S : CallFix p m c cc nL s args Ts own) (hF : Fx P s) (hP : St P s w H locs) (h : Nat) (hh : h < P.2.2.2.1) (hs : (shp h).1 = ci) (hc7 : ci < 7) (hc : vc[ci]? = some (C, T, N)) (hk : k < N) (hq : (kds ci)[k]? = some 0) (hin : ∀ w ∈ u_ws C T N, w ∈ Ts) (hlink : Cond.fieldLink own index (T k).1 (T k).2.1 (T k).2.2.1 ∈ Ts) (hdg : decode cc pc = .ok (.getfield index, 3))
    (kk : W p l e R s m args below meth c H locs cells slots Q (F0 m (pc + 3) ls (.int (gI w h k) :: rest))) : W p l e R s m args below meth c H locs cells slots Q (F0 m pc ls (.ref (P.2.1 h) :: rest)) :=
  va_get S.1 S.2.1 S.2.2.2.2 hin S.2.2.2.1 hF.2.1 hP.1 h (by rw [wl_at hh, ce_obj hs hc7]) hc k hk (S.2.2.2.2 _ hlink) (fun _ h9 => h9) (by rw [List.getElem?_mapIdx, hq]; rfl) hdg kk
theorem vt_getL (S : CallFix p m c cc nL s args Ts own) (hF : Fx P s) (hP : St P s w H locs) (h : Nat) (hh : h < P.2.2.2.1) (hs : (shp h).1 = ci) (hc7 : ci < 7) (hc : vc[ci]? = some (C, T, N)) (hk : k < N) (hq : (kds ci)[k]? = some 1) (hin : ∀ w ∈ u_ws C T N, w ∈ Ts) (hlink : Cond.fieldLink own index (T k).1 (T k).2.1 (T k).2.2.1 ∈ Ts) (hdg : decode cc pc = .ok (.getfield index, 3))
    (kk : W p l e R s m args below meth c H locs cells slots Q (F0 m (pc + 3) ls (.long (gL w h k) :: rest))) : W p l e R s m args below meth c H locs cells slots Q (F0 m pc ls (.ref (P.2.1 h) :: rest)) :=
  va_get S.1 S.2.1 S.2.2.2.2 hin S.2.2.2.1 hF.2.1 hP.1 h (by rw [wl_at hh, ce_obj hs hc7]) hc k hk (S.2.2.2.2 _ hlink) (fun _ h9 => h9) (by rw [List.getElem?_mapIdx, hq]; rfl) hdg kk
theorem vt_getR {r : Nat} (S : CallFix p m c cc nL s args Ts own) (hF : Fx P s) (hP : St P s w H locs) (h : Nat) (hh : h < P.2.2.2.1) (hs : (shp h).1 = ci) (hc7 : ci < 7) (hc : vc[ci]? = some (C, T, N)) (hk : k < N) (hq : (kds ci)[k]? = some 2) (hr : rf h k = r) (hin : ∀ w ∈ u_ws C T N, w ∈ Ts) (hlink : Cond.fieldLink own index (T k).1 (T k).2.1 (T k).2.2.1 ∈ Ts) (hdg : decode cc pc = .ok (.getfield index, 3))
    (kk : W p l e R s m args below meth c H locs cells slots Q (F0 m (pc + 3) ls (.ref (P.2.1 r) :: rest))) : W p l e R s m args below meth c H locs cells slots Q (F0 m pc ls (.ref (P.2.1 h) :: rest)) :=
  va_get S.1 S.2.1 S.2.2.2.2 hin S.2.2.2.1 hF.2.1 hP.1 h (by rw [wl_at hh, ce_obj hs hc7]) hc k hk (S.2.2.2.2 _ hlink) (fun _ h9 => h9) (by rw [List.getElem?_mapIdx, hq]; show some (Value.ref (P.2.1 (rf h k))) = _; rw [hr]) hdg kk
/-- a reference that is null at first -/
theorem vt_getN {r : Nat} (S : CallFix p m c cc nL s args Ts own) (hF : Fx P s) (hP : St P s w H locs) (h : Nat) (hh : h < P.2.2.2.1) (hs : (shp h).1 = ci) (hc7 : ci < 7) (hc : vc[ci]? = some (C, T, N)) (hk : k < N) (hq : (kds ci)[k]? = some 3) (hr : rf h k = r) (hin : ∀ w ∈ u_ws C T N, w ∈ Ts) (hlink : Cond.fieldLink own index (T k).1 (T k).2.1 (T k).2.2.1 ∈ Ts) (hdg : decode cc pc = .ok (.getfield index, 3))
    (k0 : gI w h k = 0 → W p l e R s m args below meth c H locs cells slots Q (F0 m (pc + 3) ls (.null :: rest))) (k1 : ¬ gI w h k = 0 → W p l e R s m args below meth c H locs cells slots Q (F0 m (pc + 3) ls (.ref (P.2.1 r) :: rest))) : W p l e R s m args below meth c H locs cells slots Q (F0 m pc ls (.ref (P.2.1 h) :: rest)) := by
  by_cases h0 : gI w h k = 0
  · exact va_get S.1 S.2.1 S.2.2.2.2 hin S.2.2.2.1 hF.2.1 hP.1 h (by rw [wl_at hh, ce_obj hs hc7]) hc k hk (S.2.2.2.2 _ hlink) (fun _ h9 => h9) (by rw [List.getElem?_mapIdx, hq]; show some (vq P.2.1 w h k 3) = some .null; simp [vq, h0]) hdg (k0 h0)
  · exact va_get S.1 S.2.1 S.2.2.2.2 hin S.2.2.2.1 hF.2.1 hP.1 h (by rw [wl_at hh, ce_obj hs hc7]) hc k hk (S.2.2.2.2 _ hlink) (fun _ h9 => h9) (by rw [List.getElem?_mapIdx, hq]; show some (vq P.2.1 w h k 3) = some (.ref (P.2.1 r)); simp [vq, h0, hr]) hdg (k1 h0)
theorem ce_putI {ad : Nat → Nat} {cA : Nat → ClassId} {h : Nat} {v : Int32} (hs : (shp h).1 = ci) (hc7 : ci < 7) (hq : (kds ci)[k]? = some 0) : ce ad cA (pI w h k v) h = .inr (ci, ((kds ci).mapIdx (fun k q => vq ad w h k q)).set k (.int v)) := by
  rw [ce_obj hs hc7]
  congr 2
  refine (mapIdx_set hq (by show Value.int (gI (pI w h k v) h k) = _; simp [gI, pI]) (fun j x hj => ?_)).symm
  have e1 : gI (pI w h k v) h j = gI w h j := by simp [gI, pI, hj]
  have e2 : gL (pI w h k v) h j = gL w h j := rfl
  unfold vq
  rw [e1, e2]
theorem ce_putL {ad : Nat → Nat} {cA : Nat → ClassId} {h : Nat} {v : Int64} (hs : (shp h).1 = ci) (hc7 : ci < 7) (hq : (kds ci)[k]? = some 1) : ce ad cA (pL w h k v) h = .inr (ci, ((kds ci).mapIdx (fun k q => vq ad w h k q)).set k (.long v)) := by
  rw [ce_obj hs hc7]
  congr 2
  refine (mapIdx_set hq (by show Value.long (gL (pL w h k v) h k) = _; simp [gL, pL]) (fun j x hj => ?_)).symm
  have e1 : gI (pL w h k v) h j = gI w h j := rfl
  have e2 : gL (pL w h k v) h j = gL w h j := by simp [gL, pL, hj]
  unfold vq
  rw [e1, e2]
theorem vt_putI {v : Int32} {ty : FieldType} (S : CallFix p m c cc nL s args Ts own) (hF : Fx P s) (hP : St P s w H locs) (h : Nat) (hh : h < P.2.2.2.1) (hs : (shp h).1 = ci) (hc7 : ci < 7) (hc : vc[ci]? = some (C, T, N)) (hk : k < N) (hq : (kds ci)[k]? = some 0) (ty0 : Nat → FieldType) (hty : ∀ k, k < N → parseFieldDescriptor (T k).2.2.1 = some (ty0 k)) (hnm : ∀ a, a < N → ∀ b, b < N → a ≠ b → (T a).2.1 ≠ (T b).2.1) (hfin : (T k).2.2.2 = false) (hd : ty0 k = ty) (hn : narrow ty (.int v) = .int v) (hfit : fits ty (.int v) = true) (hl : k < ((kds ci).length)) (hin : ∀ w ∈ u_ws C T N, w ∈ Ts) (hlink : Cond.fieldLink own index (T k).1 (T k).2.1 (T k).2.2.1 ∈ Ts) (hdg : decode cc pc = .ok (.putfield index, 3))
    (kk : ∀ (H1 : Heap) (locs1 : List Loc), St P s (pI w h k v) H1 locs1 → W p l e R s m args below meth c H1 locs1 cells slots Q (F0 m (pc + 3) ls rest)) : W p l e R s m args below meth c H locs cells slots Q (F0 m pc ls (.int v :: .ref (P.2.1 h) :: rest)) := by
  refine va_put S.1 S.2.1 S.2.2.2.2 hin ty0 hty hnm S.2.2.2.1 hF.2.1 hP.1 (hF.2.2.2.D w) hP.2 h (by rw [wl_at hh, ce_obj hs hc7]) hc k hk (S.2.2.2.2 _ hlink) (fun _ h9 => h9) hfin (by rw [hty k hk, hd]) hn hfit (by rw [List.length_mapIdx]; exact hl) hdg (fun H1 locs1 q1 q2 q3 => kk H1 locs1 ⟨?_, q3⟩)
  rw [← wl_set (ce_putI (v := v) hs hc7 hq) (fun j hj => pI_o hj)]
  exact q1
theorem vt_putL {v : Int64} (S : CallFix p m c cc nL s args Ts own) (hF : Fx P s) (hP : St P s w H locs) (h : Nat) (hh : h < P.2.2.2.1) (hs : (shp h).1 = ci) (hc7 : ci < 7) (hc : vc[ci]? = some (C, T, N)) (hk : k < N) (hq : (kds ci)[k]? = some 1) (ty0 : Nat → FieldType) (hty : ∀ k, k < N → parseFieldDescriptor (T k).2.2.1 = some (ty0 k)) (hnm : ∀ a, a < N → ∀ b, b < N → a ≠ b → (T a).2.1 ≠ (T b).2.1) (hfin : (T k).2.2.2 = false) (hd : ty0 k = .long) (hl : k < ((kds ci).length)) (hin : ∀ w ∈ u_ws C T N, w ∈ Ts) (hlink : Cond.fieldLink own index (T k).1 (T k).2.1 (T k).2.2.1 ∈ Ts) (hdg : decode cc pc = .ok (.putfield index, 3))
    (kk : ∀ (H1 : Heap) (locs1 : List Loc), St P s (pL w h k v) H1 locs1 → W p l e R s m args below meth c H1 locs1 cells slots Q (F0 m (pc + 3) ls rest)) : W p l e R s m args below meth c H locs cells slots Q (F0 m pc ls (.long v :: .ref (P.2.1 h) :: rest)) := by
  refine va_put S.1 S.2.1 S.2.2.2.2 hin ty0 hty hnm S.2.2.2.1 hF.2.1 hP.1 (hF.2.2.2.D w) hP.2 h (by rw [wl_at hh, ce_obj hs hc7]) hc k hk (S.2.2.2.2 _ hlink) (fun _ h9 => h9) hfin (by rw [hty k hk, hd]) rfl rfl (by rw [List.length_mapIdx]; exact hl) hdg (fun H1 locs1 q1 q2 q3 => kk H1 locs1 ⟨?_, q3⟩)
  rw [← wl_set (ce_putL (v := v) hs hc7 hq) (fun j hj => pL_o hj)]
  exact q1
/-! rows -/
theorem vt_iald {h n : Nat} {i : Int32} (S : CallFix p m c cc nL s args Ts own) (hF : Fx P s) (hP : St P s w H locs) (hh : h < P.2.2.2.1) (hs : shp h = (10, n)) (hi : ¬ (i < 0 ∨ n ≤ i.toNatClampNeg)) (hdg : decode cc pc = .ok (.iaload, 1))
    (kk : W p l e R s m args below meth c H locs cells slots Q (F0 m (pc + 1) ls (.int (gI w h i.toNatClampNeg) :: rest))) : W p l e R s m args below meth c H locs cells slots Q (F0 m pc ls (.int i :: .ref (P.2.1 h) :: rest)) :=
  va_iald S.1 S.2.1 hF.2.1 hP.1 h 0 (by rw [wl_at hh, ce_int hs]) rfl hi hdg kk
theorem vt_cald {h n : Nat} {i : Int32} (S : CallFix p m c cc nL s args Ts own) (hF : Fx P s) (hP : St P s w H locs) (hh : h < P.2.2.2.1) (hs : shp h = (12, n)) (hi : ¬ (i < 0 ∨ n ≤ i.toNatClampNeg)) (hdg : decode cc pc = .ok (.caload, 1))
    (kk : W p l e R s m args below meth c H locs cells slots Q (F0 m (pc + 1) ls (.int (gI w h i.toNatClampNeg) :: rest))) : W p l e R s m args below meth c H locs cells slots Q (F0 m pc ls (.int i :: .ref (P.2.1 h) :: rest)) :=
  va_cald S.1 S.2.1 hF.2.1 hP.1 h 2 (by rw [wl_at hh, ce_char hs]) rfl hi hdg kk
theorem vt_lald {h n : Nat} {i : Int32} (S : CallFix p m c cc nL s args Ts own) (hF : Fx P s) (hP : St P s w H locs) (hh : h < P.2.2.2.1) (hs : shp h = (11, n)) (hi : ¬ (i < 0 ∨ n ≤ i.toNatClampNeg)) (hdg : decode cc pc = .ok (.laload, 1))
    (kk : W p l e R s m args below meth c H locs cells slots Q (F0 m (pc + 1) ls (.long (gL w h i.toNatClampNeg) :: rest))) : W p l e R s m args below meth c H locs cells slots Q (F0 m pc ls (.int i :: .ref (P.2.1 h) :: rest)) :=
  va_lald S.1 S.2.1 hF.2.1 hP.1 h 1 (by rw [wl_at hh, ce_long hs]) rfl hi hdg kk
theorem vt_dald {h n : Nat} {i : Int32} (S : CallFix p m c cc nL s args Ts own) (hF : Fx P s) (hP : St P s w H locs) (hh : h < P.2.2.2.1) (hs : shp h = (13, n)) (hi : ¬ (i < 0 ∨ n ≤ i.toNatClampNeg)) (hdg : decode cc pc = .ok (.daload, 1))
    (kk : W p l e R s m args below meth c H locs cells slots Q (F0 m (pc + 1) ls (.double (gD w h i.toNatClampNeg) :: rest))) : W p l e R s m args below meth c H locs cells slots Q (F0 m pc ls (.int i :: .ref (P.2.1 h) :: rest)) :=
  va_dald S.1 S.2.1 hF.2.1 hP.1 h 3 (by rw [wl_at hh, ce_dbl hs]) rfl hi hdg kk
theorem vt_aald {h n : Nat} {i : Int32} (S : CallFix p m c cc nL s args Ts own) (hF : Fx P s) (hP : St P s w H locs) (hh : h < P.2.2.2.1) (hs : shp h = (14, n)) (hi : ¬ (i < 0 ∨ n ≤ i.toNatClampNeg)) (hdg : decode cc pc = .ok (.aaload, 1))
    (kk : W p l e R s m args below meth c H locs cells slots Q (F0 m (pc + 1) ls (.ref (P.2.1 (rf h i.toNatClampNeg)) :: rest))) : W p l e R s m args below meth c H locs cells slots Q (F0 m pc ls (.int i :: .ref (P.2.1 h) :: rest)) :=
  va_aldq (f := fun j => some (P.2.1 (rf h j))) S.1 S.2.1 hF.2.1 hP.1 h 4 (by rw [wl_at hh, ce_ref hs]) rfl hi hdg kk
theorem vt_alen {h n : Nat} {v : Int32} (S : CallFix p m c cc nL s args Ts own) (hF : Fx P s) (hP : St P s w H locs) (hh : h < P.2.2.2.1) {t : Nat} (hs : shp h = (t, n)) (ht : 10 ≤ t ∧ t ≤ 14) (hv : Int32.ofNat n = v) (hdg : decode cc pc = .ok (.arraylength, 1))
    (kk : W p l e R s m args below meth c H locs cells slots Q (F0 m (pc + 1) ls (.int v :: rest))) : W p l e R s m args below meth c H locs cells slots Q (F0 m pc ls (.ref (P.2.1 h) :: rest)) := by
  have h5 : t = 10 ∨ t = 11 ∨ t = 12 ∨ t = 13 ∨ t = 14 := by omega
  rcases h5 with rfl | rfl | rfl | rfl | rfl
  · exact va_alen S.1 S.2.1 hF.2.1 hP.1 h 0 (by rw [wl_at hh, ce_int hs]) rfl hv hdg kk
  · exact va_alen S.1 S.2.1 hF.2.1 hP.1 h 1 (by rw [wl_at hh, ce_long hs]) rfl hv hdg kk
  · exact va_alen S.1 S.2.1 hF.2.1 hP.1 h 2 (by rw [wl_at hh, ce_char hs]) rfl hv hdg kk
  · exact va_alen S.1 S.2.1 hF.2.1 hP.1 h 3 (by rw [wl_at hh, ce_dbl hs]) rfl hv hdg kk
  · exact va_alen S.1 S.2.1 hF.2.1 hP.1 h 4 (by rw [wl_at hh, ce_ref hs]) rfl hv hdg kk
theorem upd_gI {h i : Nat} {x : Int32} : upd (gI w h) i x = gI (pI w h i x) h := by
  funext j
  by_cases hj : j = i <;> simp [upd, gI, pI, hj]
theorem upd_gL {h i : Nat} {x : Int64} : vp_updL (gL w h) i x = gL (pL w h i x) h := by
  funext j
  by_cases hj : j = i <;> simp [vp_updL, gL, pL, hj]
theorem vt_iast {h n : Nat} {i x : Int32} (S : CallFix p m c cc nL s args Ts own) (hF : Fx P s) (hP : St P s w H locs) (hh : h < P.2.2.2.1) (hs : shp h = (10, n)) (hi : ¬ (i < 0 ∨ n ≤ i.toNatClampNeg)) (hdg : decode cc pc = .ok (.iastore, 1))
    (kk : ∀ (H1 : Heap) (locs1 : List Loc), St P s (pI w h i.toNatClampNeg x) H1 locs1 → W p l e R s m args below meth c H1 locs1 cells slots Q (F0 m (pc + 1) ls rest)) : W p l e R s m args below meth c H locs cells slots Q (F0 m pc ls (.int x :: .int i :: .ref (P.2.1 h) :: rest)) := by
  refine va_iast S.1 S.2.1 hF.2.1 hP.1 (hF.2.2.2.D w) hP.2 h 0 (by rw [wl_at hh, ce_int hs]) rfl hi hdg (fun H1 locs1 q1 q2 q3 => kk H1 locs1 ⟨?_, q3⟩)
  rw [← wl_set (h := h) (e := .inl (P.2.2.1 0, n, .inl (upd (gI w h) i.toNatClampNeg x))) (by rw [ce_int hs, upd_gI]) (fun j hj => pI_o hj)]
  exact q1
theorem vt_cast {h n : Nat} {i x : Int32} (S : CallFix p m c cc nL s args Ts own) (hF : Fx P s) (hP : St P s w H locs) (hh : h < P.2.2.2.1) (hs : shp h = (12, n)) (hi : ¬ (i < 0 ∨ n ≤ i.toNatClampNeg)) (hdg : decode cc pc = .ok (.castore, 1))
    (kk : ∀ (H1 : Heap) (locs1 : List Loc), St P s (pI w h i.toNatClampNeg (vp_nar .char x)) H1 locs1 → W p l e R s m args below meth c H1 locs1 cells slots Q (F0 m (pc + 1) ls rest)) : W p l e R s m args below meth c H locs cells slots Q (F0 m pc ls (.int x :: .int i :: .ref (P.2.1 h) :: rest)) := by
  refine va_cast S.1 S.2.1 hF.2.1 hP.1 (hF.2.2.2.D w) hP.2 h 2 (by rw [wl_at hh, ce_char hs]) rfl hi hdg (fun H1 locs1 q1 q2 q3 => kk H1 locs1 ⟨?_, q3⟩)
  rw [← wl_set (h := h) (e := .inl (P.2.2.1 2, n, .inl (upd (gI w h) i.toNatClampNeg (vp_nar .char x)))) (by rw [ce_char hs, upd_gI]) (fun j hj => pI_o hj)]
  exact q1
theorem vt_last {h n : Nat} {i : Int32} {x : Int64} (S : CallFix p m c cc nL s args Ts own) (hF : Fx P s) (hP : St P s w H locs) (hh : h < P.2.2.2.1) (hs : shp h = (11, n)) (hi : ¬ (i < 0 ∨ n ≤ i.toNatClampNeg)) (hdg : decode cc pc = .ok (.lastore, 1))
    (kk : ∀ (H1 : Heap) (locs1 : List Loc), St P s (pL w h i.toNatClampNeg x) H1 locs1 → W p l e R s m args below meth c H1 locs1 cells slots Q (F0 m (pc + 1) ls rest)) : W p l e R s m args below meth c H locs cells slots Q (F0 m pc ls (.long x :: .int i :: .ref (P.2.1 h) :: rest)) := by
  refine va_last S.1 S.2.1 hF.2.1 hP.1 (hF.2.2.2.D w) hP.2 h 1 (by rw [wl_at hh, ce_long hs]) rfl hi hdg (fun H1 locs1 q1 q2 q3 => kk H1 locs1 ⟨?_, q3⟩)
  rw [← wl_set (h := h) (e := .inl (P.2.2.1 1, n, .inr (.inl (vp_updL (gL w h) i.toNatClampNeg x)))) (by rw [ce_long hs, upd_gL]) (fun j hj => pL_o hj)]
  exact q1
end VT
end
section
/-- an answer of a narrow type is in its range -/
def okR (ret : Option FieldType) (v : Int32) : Prop := match ret with
  | some t => narrow t (.int v) = .int v
  | none => True
/-! CONTRACTS AND CALLS. A method that throws nothing: its answer and the world behind it -/
abbrev CtI (l : Launch) (P : Pl) (y : MethodName) (b : ByteArray) (mL : Nat) (ret : Option FieldType) (d : Nat) (As : List Value) (w : Wo) (v : Int32) (w' : Wo) : Prop := Met l y (wsU y b mL ret) (rmU d 0 0) (va_Pc As (Wp P w)) (va_Qi (fun (r : Int32) (u : Wo) => r = v ∧ u = w' ∧ okR ret v) (Wq P) (Ab P.2.2.2.2.1)) 0 0 (Ab P.2.2.2.2.1)
abbrev CtL (l : Launch) (P : Pl) (y : MethodName) (b : ByteArray) (mL : Nat) (ret : Option FieldType) (d : Nat) (As : List Value) (w : Wo) (v : Int64) (w' : Wo) : Prop := Met l y (wsU y b mL ret) (rmU d 0 0) (va_Pc As (Wp P w)) (va_Ql (fun (r : Int64) (u : Wo) => r = v ∧ u = w') (Wq P) (Ab P.2.2.2.2.1)) 0 0 (Ab P.2.2.2.2.1)
abbrev CtF (l : Launch) (P : Pl) (y : MethodName) (b : ByteArray) (mL : Nat) (ret : Option FieldType) (d : Nat) (As : List Value) (w : Wo) (v : UInt32) (w' : Wo) : Prop := Met l y (wsU y b mL ret) (rmU d 0 0) (va_Pc As (Wp P w)) (va_Qf (fun (r : UInt32) (u : Wo) => r = v ∧ u = w') (Wq P) (Ab P.2.2.2.2.1)) 0 0 (Ab P.2.2.2.2.1)
abbrev CtD (l : Launch) (P : Pl) (y : MethodName) (b : ByteArray) (mL : Nat) (ret : Option FieldType) (d : Nat) (As : List Value) (w : Wo) (v : UInt64) (w' : Wo) : Prop := Met l y (wsU y b mL ret) (rmU d 0 0) (va_Pc As (Wp P w)) (va_Qd (fun (r : UInt64) (u : Wo) => r = v ∧ u = w') (Wq P) (Ab P.2.2.2.2.1)) 0 0 (Ab P.2.2.2.2.1)
abbrev CtV (l : Launch) (P : Pl) (y : MethodName) (b : ByteArray) (mL : Nat) (ret : Option FieldType) (d : Nat) (As : List Value) (w : Wo) (w' : Wo) : Prop := Met l y (wsU y b mL ret) (rmU d 0 0) (va_Pc As (Wp P w)) (va_Qv (fun (u : Wo) => u = w') (Wq P) (Ab P.2.2.2.2.1)) 0 0 (Ab P.2.2.2.2.1)
/-- an answer that is the thing v -/
abbrev CtR (l : Launch) (P : Pl) (y : MethodName) (b : ByteArray) (mL : Nat) (ret : Option FieldType) (d : Nat) (As : List Value) (w : Wo) (v : Nat) (w' : Wo) : Prop := Met l y (wsU y b mL ret) (rmU d 0 0) (va_Pc As (Wp P w)) (va_Qr (fun (u : Wo) => u = w') (fun u a t => a = P.2.1 v ∧ Wq P u t) (Ab P.2.2.2.2.1)) 0 0 (Ab P.2.2.2.2.1)
/-- the exceptions by number -/
def exN : Nat → String
  | 1 => "java/lang/IndexOutOfBoundsException"
  | 2 => "java/lang/IllegalArgumentException"
  | 3 => "java/lang/UnsupportedOperationException"
  | 4 => "java/util/NoSuchElementException"
  | 5 => "java/lang/IllegalStateException"
  | _ => "java/lang/ArithmeticException"
abbrev exX (P : Pl) {α : Type} (o : (Nat × Wo) ⊕ α) : String → State → State → Prop := vx_X (fun (u : Nat × Wo) => o = .inl u) (fun E u t => E = exN u.1 ∧ Wq P u.2 t) (Ab P.2.2.2.2.1)
/-- a method that may throw: the number of what it throws and the world, or its answer and the world -/
abbrev CxI (l : Launch) (P : Pl) (y : MethodName) (b : ByteArray) (mL : Nat) (ret : Option FieldType) (d mc : Nat) (As : List Value) (w : Wo) (o : (Nat × Wo) ⊕ (Int32 × Wo)) : Prop := vx_Met l y (wsU y b mL ret) (rmU d mc (6 * mc)) (va_Pc As (Wp P w)) (va_Qi (fun (r : Int32) (u : Wo) => o = .inr (r, u)) (Wq P) (Ab P.2.2.2.2.1)) (exX P o) mc (6 * mc) (Ab P.2.2.2.2.1)
abbrev CxD (l : Launch) (P : Pl) (y : MethodName) (b : ByteArray) (mL : Nat) (ret : Option FieldType) (d mc : Nat) (As : List Value) (w : Wo) (o : (Nat × Wo) ⊕ (UInt64 × Wo)) : Prop := vx_Met l y (wsU y b mL ret) (rmU d mc (6 * mc)) (va_Pc As (Wp P w)) (va_Qd (fun (r : UInt64) (u : Wo) => o = .inr (r, u)) (Wq P) (Ab P.2.2.2.2.1)) (exX P o) mc (6 * mc) (Ab P.2.2.2.2.1)
abbrev CxV (l : Launch) (P : Pl) (y : MethodName) (b : ByteArray) (mL : Nat) (ret : Option FieldType) (d mc : Nat) (As : List Value) (w : Wo) (o : (Nat × Wo) ⊕ Wo) : Prop := vx_Met l y (wsU y b mL ret) (rmU d mc (6 * mc)) (va_Pc As (Wp P w)) (va_Qv (fun (u : Wo) => o = .inr u) (Wq P) (Ab P.2.2.2.2.1)) (exX P o) mc (6 * mc) (Ab P.2.2.2.2.1)
/-- what the tables say of a method that is called -/
abbrev okV (y : MethodName) (b : ByteArray) (mL : Nat) (ret : Option FieldType) (n : Nat) : Prop := Cond.instanceMethod y ∈ ALLW ∧ Cond.selects y.cls y y ∈ ALLW ∧ Cond.initialized y.cls ∈ ALLW ∧ Cond.code y b mL ret ∈ ALLW ∧ y.cls ≠ "java/lang/invoke/MethodHandle" ∧ y.cls ≠ "java/lang/invoke/VarHandle" ∧ (parseMethodDescriptor y.desc).map (fun d => d.parameters.length) = some n
abbrev okS (y : MethodName) (b : ByteArray) (mL : Nat) (ret : Option FieldType) (n : Nat) : Prop := Cond.static y ∈ ALLW ∧ Cond.initialized y.cls ∈ ALLW ∧ Cond.code y b mL ret ∈ ALLW ∧ y.cls ≠ "java/lang/invoke/MethodHandle" ∧ y.cls ≠ "java/lang/invoke/VarHandle" ∧ (parseMethodDescriptor y.desc).map (fun d => d.parameters.length) = some n
abbrev okI (y : MethodName) (b : ByteArray) (mL : Nat) (n : Nat) : Prop := Cond.instanceMethod y ∈ ALLW ∧ Cond.initialized y.cls ∈ ALLW ∧ Cond.code y b mL none ∈ ALLW ∧ y.cls ≠ "java/lang/invoke/MethodHandle" ∧ y.cls ≠ "java/lang/invoke/VarHandle" ∧ (parseMethodDescriptor y.desc).map (fun d => d.parameters.length) = some n ∧ y.name = "<init>"
theorem allG {c : Cond} : GoodIn (c :: ALLW) ALLW := fun _ hw => ⟨List.mem_cons_of_mem _ hw, good_of_word (List.mem_filter.mp hw).2⟩
theorem consG {c a : Cond} {ws : List Cond} (ha : a ∈ ALLW) (h : GoodIn (c :: ALLW) ws) : GoodIn (c :: ALLW) (a :: ws) := by
  intro w hw
  rcases List.mem_cons.mp hw with rfl | q
  · exact ⟨List.mem_cons_of_mem _ ha, good_of_word (List.mem_filter.mp ha).2⟩
  · exact h w q
section VU
variable {p : Program} {l : Launch} {e : Env} {R : Room} {s : State} {m : MethodId} {args : Array Value} {below : List Frame} {meth : Method} {c : Code} {H : Heap} {locs : List Loc} {cells slots : Nat} {Q : State → Prop}
variable {cc b : ByteArray} {pc nL mL : Nat} {ls : Array Slot} {rest st0 As : List Value} {own C host : String} {P : Pl} {w : Wo} {T : u_T} {N ci k index n d mc ms : Nat} {c0 : Cond} {y : MethodName} {ret : Option FieldType}
variable {Qc : Array Value → State → Outcome → State → Prop} {XC : String → State → State → Prop} {free : Addr → Prop}
theorem vu_blind {As : List Value} {w : Wo} : FrameBlind (va_Pc As (Wp P w)) := fun _ _ _ _ q => ⟨q.1, q.2.blind⟩
theorem vu_preS (hF : Fx P s) (hP : St P s w H locs) : PreS s H (va_Pc As (Wp P w)) As := ⟨vu_blind, fun _ hU hW => ⟨rfl, hP.W hF hU hW⟩⟩
theorem vu_preV (hF : Fx P s) (hP : St P s w H locs) {h : Nat} (hh : h < P.2.2.2.1) (hs : (shp h).1 = ci) (hc7 : ci < 7) (hc : vc[ci]? = some (C, T, N)) : PreV s H C (P.2.1 h) (va_Pc (.ref (P.2.1 h) :: As) (Wp P w)) As :=
  ⟨vu_blind, va_recv (q := (C, T, N)) hF.2.1 hP.1 hc (by rw [wl_at hh, ce_obj hs hc7]), fun _ hU hW => ⟨rfl, hP.W hF hU hW⟩⟩
/-- a virtual call of a method that throws nothing: how it runs -/
theorem vu_V (S : CallFix p m c cc nL s args (c0 :: ALLW) own) (hF : Fx P s) (hP : St P s w H locs) {h : Nat} (hh : h < P.2.2.2.1) (hs : (shp h).1 = ci) (hc7 : ci < 7) (hc : vc[ci]? = some (y.cls, T, N)) (hM : Met l y (wsU y b mL ret) (rmU d mc ms) (va_Pc (.ref (P.2.1 h) :: As) (Wp P w)) Qc mc ms free) (ok : okV y b mL ret n) (hl : Cond.methodLink own index y ∈ ALLW)
    (hR : d + 1 ≤ R.frames ∧ 8 + (mL + 11) + 40 * d ≤ R.locals) (hn : As.length = n) (hsize : ls.size = nL) (hst : st0 = As.reverse ++ .ref (P.2.1 h) :: rest) (hW : (rest.map fun v => v.category).sum ≤ 8) (hdg : decode cc pc = .ok (.invokevirtual index, 3)) (hf : cells + mc ≤ R.cells ∧ slots + ms ≤ R.slots) :
    va_Run p l e R s m args below meth c H locs cells slots mc ms (F0 m pc ls st0) rest (Qc (Value.ref (P.2.1 h) :: As).toArray) free :=
  va_runV S hM (cwV (C := y.cls) n S.2.2.2.2 (consG hl (consG ok.1 (consG ok.2.1 (consG ok.2.2.1 (consG ok.2.2.2.1 allG))))) rfl rfl rfl ⟨rfl, ok.2.2.2.2.1, ok.2.2.2.2.2.1, ok.2.2.2.2.2.2⟩ hR) (vu_preV hF hP hh hs hc7 hc) rfl hn hsize hst (lv_room hW) hdg hf
theorem vu_VX (S : CallFix p m c cc nL s args (c0 :: ALLW) own) (hF : Fx P s) (hP : St P s w H locs) {h : Nat} (hh : h < P.2.2.2.1) (hs : (shp h).1 = ci) (hc7 : ci < 7) (hc : vc[ci]? = some (y.cls, T, N)) (hM : vx_Met l y (wsU y b mL ret) (rmU d mc ms) (va_Pc (.ref (P.2.1 h) :: As) (Wp P w)) Qc XC mc ms free) (ok : okV y b mL ret n) (hl : Cond.methodLink own index y ∈ ALLW)
    (hR : d + 1 ≤ R.frames ∧ 8 + (mL + 11) + 40 * d ≤ R.locals) (hn : As.length = n) (hsize : ls.size = nL) (hst : st0 = As.reverse ++ .ref (P.2.1 h) :: rest) (hW : (rest.map fun v => v.category).sum ≤ 8) (hdg : decode cc pc = .ok (.invokevirtual index, 3)) (hf : cells + mc ≤ R.cells ∧ slots + ms ≤ R.slots) :
    vx_Run p l e R s m args below meth c H locs cells slots mc ms (F0 m pc ls st0) rest (Qc (Value.ref (P.2.1 h) :: As).toArray) XC free :=
  vx_runV S hM (cwV (C := y.cls) n S.2.2.2.2 (consG hl (consG ok.1 (consG ok.2.1 (consG ok.2.2.1 (consG ok.2.2.2.1 allG))))) rfl rfl rfl ⟨rfl, ok.2.2.2.2.1, ok.2.2.2.2.2.1, ok.2.2.2.2.2.2⟩ hR) (vu_preV hF hP hh hs hc7 hc) rfl hn hsize hst (lv_room hW) hdg hf
theorem vu_S (S : CallFix p m c cc nL s args (c0 :: ALLW) own) (hF : Fx P s) (hP : St P s w H locs) (hM : Met l y (wsU y b mL ret) (rmU d mc ms) (va_Pc As (Wp P w)) Qc mc ms free) (ok : okS y b mL ret n) (hl : Cond.methodLink own index y ∈ ALLW)
    (hR : d + 1 ≤ R.frames ∧ 8 + (mL + 11) + 40 * d ≤ R.locals) (hn : As.length = n) (hsize : ls.size = nL) (hst : st0 = As.reverse ++ rest) (hW : (rest.map fun v => v.category).sum ≤ 8) (hdg : decode cc pc = .ok (.invokestatic index, 3)) (hf : cells + mc ≤ R.cells ∧ slots + ms ≤ R.slots) :
    va_Run p l e R s m args below meth c H locs cells slots mc ms (F0 m pc ls st0) rest (Qc As.toArray) free :=
  va_runS S hM (va_cwS n S.2.2.2.2 (consG hl (consG ok.1 (consG ok.2.1 (consG ok.2.2.1 allG)))) rfl rfl rfl ⟨ok.2.2.2.1, ok.2.2.2.2.1, ok.2.2.2.2.2⟩ hR) (vu_preS hF hP) rfl hn hsize hst (lv_room hW) hdg hf
theorem vu_SX (S : CallFix p m c cc nL s args (c0 :: ALLW) own) (hF : Fx P s) (hP : St P s w H locs) (hM : vx_Met l y (wsU y b mL ret) (rmU d mc ms) (va_Pc As (Wp P w)) Qc XC mc ms free) (ok : okS y b mL ret n) (hl : Cond.methodLink own index y ∈ ALLW)
    (hR : d + 1 ≤ R.frames ∧ 8 + (mL + 11) + 40 * d ≤ R.locals) (hn : As.length = n) (hsize : ls.size = nL) (hst : st0 = As.reverse ++ rest) (hW : (rest.map fun v => v.category).sum ≤ 8) (hdg : decode cc pc = .ok (.invokestatic index, 3)) (hf : cells + mc ≤ R.cells ∧ slots + ms ≤ R.slots) :
    vx_Run p l e R s m args below meth c H locs cells slots mc ms (F0 m pc ls st0) rest (Qc As.toArray) XC free :=
  vx_runS S hM (va_cwS n S.2.2.2.2 (consG hl (consG ok.1 (consG ok.2.1 (consG ok.2.2.1 allG)))) rfl rfl rfl ⟨ok.2.2.2.1, ok.2.2.2.2.1, ok.2.2.2.2.2⟩ hR) (vu_preS hF hP) rfl hn hsize hst (lv_room hW) hdg hf
/-- a static call of a private method of a nest mate -/
theorem vu_SN (S : CallFix p m c cc nL s args (c0 :: ALLW) own) (hF : Fx P s) (hP : St P s w H locs) (hM : Met l y (wsU y b mL ret) (rmU d mc ms) (va_Pc As (Wp P w)) Qc mc ms free) (ok : okS y b mL ret n) (hl : (own, index, y, host) ∈ nests)
    (hR : d + 1 ≤ R.frames ∧ 8 + (mL + 11) + 40 * d ≤ R.locals) (hn : As.length = n) (hsize : ls.size = nL) (hst : st0 = As.reverse ++ rest) (hW : (rest.map fun v => v.category).sum ≤ 8) (hdg : decode cc pc = .ok (.invokestatic index, 3)) (hf : cells + mc ≤ R.cells ∧ slots + ms ≤ R.slots) :
    va_Run p l e R s m args below meth c H locs cells slots mc ms (F0 m pc ls st0) rest (Qc As.toArray) free :=
  va_runSN S hM ⟨va_cnB n S.2.2.2.2 (consG ok.2.2.1 allG) rfl rfl rfl (hF.2.2.1.2.2.2.1 _ hl) (S.2.2.2.2 _ (List.mem_cons_of_mem _ ok.2.1)) ⟨ok.2.2.2.1, ok.2.2.2.2.1, ok.2.2.2.2.2⟩ hR, S.2.2.2.2 _ (List.mem_cons_of_mem _ ok.1), trivial⟩ (vu_preS hF hP) rfl hn hsize hst (lv_room hW) hdg hf
section Ends
variable {a : Array Value} {w' : Wo}
theorem vu_i {v : Int32} (hP : St P s w H locs) (hr : va_Run p l e R s m args below meth c H locs cells slots 0 0 (F0 m pc ls st0) rest (va_Qi (fun (r : Int32) (u : Wo) => r = v ∧ u = w' ∧ okR ret v) (Wq P) (Ab P.2.2.2.2.1) a) (Ab P.2.2.2.2.1))
    (kk : ∀ (H1 : Heap) (locs1 : List Loc), okR ret v → St P s w' H1 locs1 → W p l e R s m args below meth c H1 locs1 cells slots Q (F0 m (pc + 3) ls (.int v :: rest))) : W p l e R s m args below meth c H locs cells slots Q (F0 m pc ls st0) := by
  refine va_calli hr hP.2 (fun _ _ h => h) (fun _ h => h) (fun r u t H1 locs1 ht _ hw hB _ _ hS => ?_)
  obtain ⟨rfl, rfl, ho⟩ := hw
  subst ht
  exact kk _ _ ho ⟨hB, hS⟩
theorem vu_l {v : Int64} (hP : St P s w H locs) (hr : va_Run p l e R s m args below meth c H locs cells slots 0 0 (F0 m pc ls st0) rest (va_Ql (fun (r : Int64) (u : Wo) => r = v ∧ u = w') (Wq P) (Ab P.2.2.2.2.1) a) (Ab P.2.2.2.2.1))
    (kk : ∀ (H1 : Heap) (locs1 : List Loc), St P s w' H1 locs1 → W p l e R s m args below meth c H1 locs1 cells slots Q (F0 m (pc + 3) ls (.long v :: rest))) : W p l e R s m args below meth c H locs cells slots Q (F0 m pc ls st0) := by
  refine va_calll hr hP.2 (fun _ _ h => h) (fun _ h => h) (fun r u t H1 locs1 ht _ hw hB _ _ hS => ?_)
  obtain ⟨rfl, rfl⟩ := hw
  subst ht
  exact kk _ _ ⟨hB, hS⟩
theorem vu_f {v : UInt32} (hP : St P s w H locs) (hr : va_Run p l e R s m args below meth c H locs cells slots 0 0 (F0 m pc ls st0) rest (va_Qf (fun (r : UInt32) (u : Wo) => r = v ∧ u = w') (Wq P) (Ab P.2.2.2.2.1) a) (Ab P.2.2.2.2.1))
    (kk : ∀ (H1 : Heap) (locs1 : List Loc), St P s w' H1 locs1 → W p l e R s m args below meth c H1 locs1 cells slots Q (F0 m (pc + 3) ls (.float v :: rest))) : W p l e R s m args below meth c H locs cells slots Q (F0 m pc ls st0) := by
  refine va_callf hr hP.2 (fun _ _ h => h) (fun _ h => h) (fun r u t H1 locs1 ht _ hw hB _ _ hS => ?_)
  obtain ⟨rfl, rfl⟩ := hw
  subst ht
  exact kk _ _ ⟨hB, hS⟩
theorem vu_d {v : UInt64} (hP : St P s w H locs) (hr : va_Run p l e R s m args below meth c H locs cells slots 0 0 (F0 m pc ls st0) rest (va_Qd (fun (r : UInt64) (u : Wo) => r = v ∧ u = w') (Wq P) (Ab P.2.2.2.2.1) a) (Ab P.2.2.2.2.1))
    (kk : ∀ (H1 : Heap) (locs1 : List Loc), St P s w' H1 locs1 → W p l e R s m args below meth c H1 locs1 cells slots Q (F0 m (pc + 3) ls (.double v :: rest))) : W p l e R s m args below meth c H locs cells slots Q (F0 m pc ls st0) := by
  refine va_calld hr hP.2 (fun _ _ h => h) (fun _ h => h) (fun r u t H1 locs1 ht _ hw hB _ _ hS => ?_)
  obtain ⟨rfl, rfl⟩ := hw
  subst ht
  exact kk _ _ ⟨hB, hS⟩
theorem vu_v (hP : St P s w H locs) (hr : va_Run p l e R s m args below meth c H locs cells slots 0 0 (F0 m pc ls st0) rest (va_Qv (fun (u : Wo) => u = w') (Wq P) (Ab P.2.2.2.2.1) a) (Ab P.2.2.2.2.1))
    (kk : ∀ (H1 : Heap) (locs1 : List Loc), St P s w' H1 locs1 → W p l e R s m args below meth c H1 locs1 cells slots Q (F0 m (pc + 3) ls rest)) : W p l e R s m args below meth c H locs cells slots Q (F0 m pc ls st0) := by
  refine va_callv hr hP.2 (fun _ _ h => h) (fun _ h => h) (fun u t H1 locs1 ht _ hw hB _ _ hS => ?_)
  subst hw
  subst ht
  exact kk _ _ ⟨hB, hS⟩
theorem vu_r {v : Nat} (hP : St P s w H locs) (hr : va_Run p l e R s m args below meth c H locs cells slots 0 0 (F0 m pc ls st0) rest (va_Qr (fun (u : Wo) => u = w') (fun u a t => a = P.2.1 v ∧ Wq P u t) (Ab P.2.2.2.2.1) a) (Ab P.2.2.2.2.1))
    (kk : ∀ (H1 : Heap) (locs1 : List Loc), St P s w' H1 locs1 → W p l e R s m args below meth c H1 locs1 cells slots Q (F0 m (pc + 3) ls (.ref (P.2.1 v) :: rest))) : W p l e R s m args below meth c H locs cells slots Q (F0 m pc ls st0) := by
  refine va_callr hr hP.2 (fun _ _ h => h) (fun _ h => h) (fun u ra t H1 locs1 ht _ hw hB _ _ hS => ?_)
  obtain ⟨rfl, hB⟩ := hB
  subst hw
  subst ht
  exact kk _ _ ⟨hB, hS⟩
theorem vu_xi {o : (Nat × Wo) ⊕ (Int32 × Wo)} (hP : St P s w H locs) (hr : vx_Run p l e R s m args below meth c H locs cells slots mc ms (F0 m pc ls st0) rest (va_Qi (fun (r : Int32) (u : Wo) => o = .inr (r, u)) (Wq P) (Ab P.2.2.2.2.1) a) (exX P o) (Ab P.2.2.2.2.1))
    (kx : ∀ (H1 : Heap) (locs1 : List Loc) (u : Nat × Wo) (ce : Cell) (q9 : Addr), o = .inl u → St P s u.2 H1 locs1 → H1[q9]? = some ce → ce.vm = .none → s.vm.findClass (exN u.1) = some ce.cls → vx_W p l e R s m args below meth c H1 locs1 (cells + mc) (slots + ms) Q (F0 m pc ls rest) q9)
    (kk : ∀ (H1 : Heap) (locs1 : List Loc) (r : Int32) (u : Wo), o = .inr (r, u) → St P s u H1 locs1 → W p l e R s m args below meth c H1 locs1 (cells + mc) (slots + ms) Q (F0 m (pc + 3) ls (.int r :: rest))) : W p l e R s m args below meth c H locs cells slots Q (F0 m pc ls st0) := by
  refine vx_calli hr hP.2 (fun _ _ h => h) (fun _ h => h) (fun _ _ h => h) (fun E ce q9 u t H1 locs1 ht _ hw hB _ _ hS h1 h2 h3 => ?_) (fun r u t H1 locs1 ht _ hw hB _ _ hS => ?_)
  · obtain ⟨rfl, hB⟩ := hB
    subst ht
    exact kx _ _ u ce q9 hw ⟨hB, hS⟩ h1 h2 h3
  · subst ht
    exact kk _ _ r u hw ⟨hB, hS⟩
theorem vu_xd {o : (Nat × Wo) ⊕ (UInt64 × Wo)} (hP : St P s w H locs) (hr : vx_Run p l e R s m args below meth c H locs cells slots mc ms (F0 m pc ls st0) rest (va_Qd (fun (r : UInt64) (u : Wo) => o = .inr (r, u)) (Wq P) (Ab P.2.2.2.2.1) a) (exX P o) (Ab P.2.2.2.2.1))
    (kx : ∀ (H1 : Heap) (locs1 : List Loc) (u : Nat × Wo) (ce : Cell) (q9 : Addr), o = .inl u → St P s u.2 H1 locs1 → H1[q9]? = some ce → ce.vm = .none → s.vm.findClass (exN u.1) = some ce.cls → vx_W p l e R s m args below meth c H1 locs1 (cells + mc) (slots + ms) Q (F0 m pc ls rest) q9)
    (kk : ∀ (H1 : Heap) (locs1 : List Loc) (r : UInt64) (u : Wo), o = .inr (r, u) → St P s u H1 locs1 → W p l e R s m args below meth c H1 locs1 (cells + mc) (slots + ms) Q (F0 m (pc + 3) ls (.double r :: rest))) : W p l e R s m args below meth c H locs cells slots Q (F0 m pc ls st0) := by
  refine vx_calld hr hP.2 (fun _ _ h => h) (fun _ h => h) (fun _ _ h => h) (fun E ce q9 u t H1 locs1 ht _ hw hB _ _ hS h1 h2 h3 => ?_) (fun r u t H1 locs1 ht _ hw hB _ _ hS => ?_)
  · obtain ⟨rfl, hB⟩ := hB
    subst ht
    exact kx _ _ u ce q9 hw ⟨hB, hS⟩ h1 h2 h3
  · subst ht
    exact kk _ _ r u hw ⟨hB, hS⟩
theorem vu_xv {o : (Nat × Wo) ⊕ Wo} (hP : St P s w H locs) (hr : vx_Run p l e R s m args below meth c H locs cells slots mc ms (F0 m pc ls st0) rest (va_Qv (fun (u : Wo) => o = .inr u) (Wq P) (Ab P.2.2.2.2.1) a) (exX P o) (Ab P.2.2.2.2.1))
    (kx : ∀ (H1 : Heap) (locs1 : List Loc) (u : Nat × Wo) (ce : Cell) (q9 : Addr), o = .inl u → St P s u.2 H1 locs1 → H1[q9]? = some ce → ce.vm = .none → s.vm.findClass (exN u.1) = some ce.cls → vx_W p l e R s m args below meth c H1 locs1 (cells + mc) (slots + ms) Q (F0 m pc ls rest) q9)
    (kk : ∀ (H1 : Heap) (locs1 : List Loc) (u : Wo), o = .inr u → St P s u H1 locs1 → W p l e R s m args below meth c H1 locs1 (cells + mc) (slots + ms) Q (F0 m (pc + 3) ls rest)) : W p l e R s m args below meth c H locs cells slots Q (F0 m pc ls st0) := by
  refine vx_callv hr hP.2 (fun _ _ h => h) (fun _ h => h) (fun _ _ h => h) (fun E ce q9 u t H1 locs1 ht _ hw hB _ _ hS h1 h2 h3 => ?_) (fun u t H1 locs1 ht _ hw hB _ _ hS => ?_)
  · obtain ⟨rfl, hB⟩ := hB
    subst ht
    exact kx _ _ u ce q9 hw ⟨hB, hS⟩ h1 h2 h3
  · subst ht
    exact kk _ _ u hw ⟨hB, hS⟩
end Ends
end VU
end
section
/-! HOW A METHOD BEGINS AND ENDS -/
theorem gI_pI {w : Wo} {h k a b : Nat} {v : Int32} : gI (pI w h k v) a b = if a = h ∧ b = k then v else gI w a b := rfl
theorem gL_pI {w : Wo} {h k a b : Nat} {v : Int32} : gL (pI w h k v) a b = gL w a b := rfl
theorem gD_pI {w : Wo} {h k a b : Nat} {v : Int32} : gD (pI w h k v) a b = gD w a b := rfl
theorem gI_pL {w : Wo} {h k a b : Nat} {v : Int64} : gI (pL w h k v) a b = gI w a b := rfl
theorem gL_pL {w : Wo} {h k a b : Nat} {v : Int64} : gL (pL w h k v) a b = if a = h ∧ b = k then v else gL w a b := rfl
theorem gD_pL {w : Wo} {h k a b : Nat} {v : Int64} : gD (pL w h k v) a b = gD w a b := rfl
/-- a loop: at most n rounds -/
def jl1 {A ρ : Type} (f : (A → Option ρ) → A → Option ρ) : Nat → A → Option ρ
  | 0 => fun _ => none
  | n + 1 => f (jl1 f n)
def jl2 {A B ρ : Type} (f : (A → B → Option ρ) → A → B → Option ρ) : Nat → A → B → Option ρ
  | 0 => fun _ _ => none
  | n + 1 => f (jl2 f n)
def jl3 {A B C ρ : Type} (f : (A → B → C → Option ρ) → A → B → C → Option ρ) : Nat → A → B → C → Option ρ
  | 0 => fun _ _ _ => none
  | n + 1 => f (jl3 f n)
def jl4 {A B C D ρ : Type} (f : (A → B → C → D → Option ρ) → A → B → C → D → Option ρ) : Nat → A → B → C → D → Option ρ
  | 0 => fun _ _ _ _ => none
  | n + 1 => f (jl4 f n)
def jl5 {A B C D E ρ : Type} (f : (A → B → C → D → E → Option ρ) → A → B → C → D → E → Option ρ) : Nat → A → B → C → D → E → Option ρ
  | 0 => fun _ _ _ _ _ => none
  | n + 1 => f (jl5 f n)
/-- how many rounds a loop may take: far more than any does -/
def fu : Nat := 4000
theorem ob {α β : Type} {o : Option α} {f : α → Option β} {b : β} (h : o.bind f = some b) : ∃ a, o = some a ∧ f a = some b := Option.bind_eq_some_iff.mp h
theorem nar_c {v : Int32} (h : (v.toUInt32 % 65536).toInt32 = v) : narrow .char (.int v) = .int v := by
  rw [← h]
  exact pk_nc v
theorem nar_z {v : Int32} (h : v = 0 ∨ v = 1) : narrow .boolean (.int v) = .int v := by
  rcases h with rfl | rfl <;> rfl
theorem fit_z {v : Int32} (h : v = 0 ∨ v = 1) : fits .boolean (.int v) = true := by
  rcases h with rfl | rfl <;> rfl
section VS
variable {l : Launch} {P : Pl} {y : MethodName} {b : ByteArray} {nL : Nat} {ret : Option FieldType} {d mc ms : Nat} {As : List Value} {w : Wo}
variable {Qc : Array Value → State → Outcome → State → Prop} {XC : String → State → State → Prop} {free : Addr → Prop}
/-- a body that throws nothing -/
theorem vs_met (hA : Adr P) (hpl : plainName y.cls = true) (hlen : (lg_sl As).length ≤ nL)
    (body : ∀ (p : Program) (e : Env) (s : State) (m : MethodId) (below : List Frame) (meth : Method) (c : Code) (ls : Array Slot), CallFix p m c b nL s As.toArray (wsU y b nL ret) y.cls → Fx P s → St P s w s.heap [] → lv_has ls nL (lv_args 0 As) → meth.sig.returnType = ret → meth.locks = false →
      W p l e (rmU d mc ms) s m As.toArray below meth c s.heap [] 0 0 (MQ below Qc As.toArray s mc ms free) (F0 m 0 ls [])) :
    Met l y (wsU y b nL ret) (rmU d mc ms) (va_Pc As (Wp P w)) Qc mc ms free := by
  refine Met.ofW (cc := b) (maxL := nL) (ret := ret) hpl rfl ?_
  intro p e s m args below meth c s₁ B hml hv
  obtain ⟨rfl, hW⟩ := hv
  obtain ⟨hF, hP⟩ := hW.fx hA
  rw [lg_entry_eq]
  exact body p e s m below meth c _ ⟨B.exec, B.bytes, hml, findClass_of_methodNamed B.named, atoms_spec (ws := wsU y b nL ret) B.pre⟩ hF hP (lv_entry As hlen) B.returns B.notSynchronized
/-- a body that may throw -/
theorem vs_vx (hA : Adr P) (hpl : plainName y.cls = true) (hlen : (lg_sl As).length ≤ nL)
    (body : ∀ (p : Program) (e : Env) (s : State) (m : MethodId) (below : List Frame) (meth : Method) (c : Code) (ls : Array Slot), CallFix p m c b nL s As.toArray (wsU y b nL ret) y.cls → Fx P s → St P s w s.heap [] → lv_has ls nL (lv_args 0 As) → meth.sig.returnType = ret → meth.locks = false → (∀ x ∈ c.exceptionTable.toList, False) →
      W p l e (rmU d mc ms) s m As.toArray below meth c s.heap [] 0 0 (vx_MQ below Qc XC As.toArray s mc ms free) (F0 m 0 ls [])) :
    vx_Met l y (wsU y b nL ret) (rmU d mc ms) (va_Pc As (Wp P w)) Qc XC mc ms free := by
  refine vx_ofW (cc := b) (maxL := nL) (ret := ret) hpl rfl ?_
  intro p e s m args below meth c s₁ B hml hx hv
  obtain ⟨rfl, hW⟩ := hv
  obtain ⟨hF, hP⟩ := hW.fx hA
  rw [lg_entry_eq]
  exact body p e s m below meth c _ ⟨B.exec, B.bytes, hml, findClass_of_methodNamed B.named, atoms_spec (ws := wsU y b nL ret) B.pre⟩ hF hP (lv_entry As hlen) B.returns B.notSynchronized hx
end VS
section VE
variable {p : Program} {l : Launch} {e : Env} {R : Room} {s : State} {m : MethodId} {args : Array Value} {below : List Frame} {meth : Method} {c : Code} {H : Heap} {locs : List Loc} {cells slots mc ms : Nat}
variable {cc : ByteArray} {pc nL : Nat} {ls : Array Slot} {own : String} {Ts : List Cond} {P : Pl} {w : Wo} {ret : Option FieldType}
theorem ve_i {v : Int32} {ty : FieldType} (S : CallFix p m c cc nL s args Ts own) (hF : Fx P s) (hP : St P s w H locs) (hr : meth.sig.returnType = some ty) (hlocks : meth.locks = false) (hn : narrow ty (.int v) = .int v) (hdg : decode cc pc = .ok (.ireturn, 1)) :
    W p l e R s m args below meth c H locs cells slots (MQ below (va_Qi (fun (r : Int32) (u : Wo) => r = v ∧ u = w ∧ okR (some ty) v) (Wq P) (Ab P.2.2.2.2.1)) args s cells slots (Ab P.2.2.2.2.1)) (F0 m pc ls [.int v]) :=
  W.zret S.1 S.2.1 hr hn (fun _ ht _ => ⟨⟨v, w, rfl, ⟨rfl, rfl, hn⟩, hP.Q ht⟩, hP.2.F ht⟩) hP.2.2.2 hdg hlocks
theorem ve_l {v : Int64} (S : CallFix p m c cc nL s args Ts own) (hF : Fx P s) (hP : St P s w H locs) (hr : meth.sig.returnType = some .long) (hlocks : meth.locks = false) (hdg : decode cc pc = .ok (.lreturn, 1)) :
    W p l e R s m args below meth c H locs cells slots (MQ below (va_Ql (fun (r : Int64) (u : Wo) => r = v ∧ u = w) (Wq P) (Ab P.2.2.2.2.1)) args s cells slots (Ab P.2.2.2.2.1)) (F0 m pc ls [.long v]) :=
  W.lret S.1 S.2.1 hr (fun _ ht _ => ⟨⟨v, w, rfl, ⟨rfl, rfl⟩, hP.Q ht⟩, hP.2.F ht⟩) hP.2.2.2 hdg hlocks
theorem ve_f {v : UInt32} (S : CallFix p m c cc nL s args Ts own) (hF : Fx P s) (hP : St P s w H locs) (hr : meth.sig.returnType = some .float) (hlocks : meth.locks = false) (hdg : decode cc pc = .ok (.freturn, 1)) :
    W p l e R s m args below meth c H locs cells slots (MQ below (va_Qf (fun (r : UInt32) (u : Wo) => r = v ∧ u = w) (Wq P) (Ab P.2.2.2.2.1)) args s cells slots (Ab P.2.2.2.2.1)) (F0 m pc ls [.float v]) :=
  W.fret S.1 S.2.1 hr (fun _ ht _ => ⟨⟨v, w, rfl, ⟨rfl, rfl⟩, hP.Q ht⟩, hP.2.F ht⟩) hP.2.2.2 hdg hlocks
theorem ve_d {v : UInt64} (S : CallFix p m c cc nL s args Ts own) (hF : Fx P s) (hP : St P s w H locs) (hr : meth.sig.returnType = some .double) (hlocks : meth.locks = false) (hdg : decode cc pc = .ok (.dreturn, 1)) :
    W p l e R s m args below meth c H locs cells slots (MQ below (va_Qd (fun (r : UInt64) (u : Wo) => r = v ∧ u = w) (Wq P) (Ab P.2.2.2.2.1)) args s cells slots (Ab P.2.2.2.2.1)) (F0 m pc ls [.double v]) :=
  W.dret S.1 S.2.1 hr (fun _ ht _ => ⟨⟨v, w, rfl, ⟨rfl, rfl⟩, hP.Q ht⟩, hP.2.F ht⟩) hP.2.2.2 hdg hlocks
theorem ve_v (S : CallFix p m c cc nL s args Ts own) (hF : Fx P s) (hP : St P s w H locs) (hr : meth.sig.returnType = none) (hlocks : meth.locks = false) (hdg : decode cc pc = .ok (.return_, 1)) :
    W p l e R s m args below meth c H locs cells slots (MQ below (va_Qv (fun (u : Wo) => u = w) (Wq P) (Ab P.2.2.2.2.1)) args s cells slots (Ab P.2.2.2.2.1)) (F0 m pc ls []) :=
  W.vret S.1 S.2.1 hr (fun _ ht _ => ⟨⟨w, rfl, rfl, hP.Q ht⟩, hP.2.F ht⟩) hP.2.2.2 hdg hlocks
theorem ve_r {v : Nat} {C : String} (S : CallFix p m c cc nL s args Ts own) (hF : Fx P s) (hP : St P s w H locs) (hr : meth.sig.returnType = some (.object C)) (hlocks : meth.locks = false) (hdg : decode cc pc = .ok (.areturn, 1)) :
    W p l e R s m args below meth c H locs cells slots (MQ below (va_Qr (fun (u : Wo) => u = w) (fun u a t => a = P.2.1 v ∧ Wq P u t) (Ab P.2.2.2.2.1)) args s cells slots (Ab P.2.2.2.2.1)) (F0 m pc ls [.ref (P.2.1 v)]) :=
  W.aret S.1 S.2.1 hr (Or.inl ⟨_, rfl⟩) (Or.inr ⟨_, rfl⟩) (fun _ ht _ => ⟨⟨w, P.2.1 v, rfl, rfl, rfl, hP.Q ht⟩, hP.2.F ht⟩) hP.2.2.2 hdg hlocks
/-! ends of bodies that may throw -/
theorem ve_xi {v : Int32} {ty : FieldType} {XC : String → State → State → Prop} (S : CallFix p m c cc nL s args Ts own) (hF : Fx P s) (hP : St P s w H locs) (hr : meth.sig.returnType = some ty) (hlocks : meth.locks = false) (hn : narrow ty (.int v) = .int v) (hc : cells ≤ mc) (hs : slots ≤ ms) (hdg : decode cc pc = .ok (.ireturn, 1)) :
    W p l e R s m args below meth c H locs cells slots (vx_MQ below (va_Qi (fun (r : Int32) (u : Wo) => (Sum.inr (v, w) : (Nat × Wo) ⊕ (Int32 × Wo)) = .inr (r, u)) (Wq P) (Ab P.2.2.2.2.1)) XC args s mc ms (Ab P.2.2.2.2.1)) (F0 m pc ls [.int v]) := by
  refine W.widen hc hs (vx_ret ?_)
  exact W.zret S.1 S.2.1 hr hn (fun _ ht _ => ⟨⟨v, w, rfl, rfl, hP.Q ht⟩, hP.2.F ht⟩) hP.2.2.2 hdg hlocks
theorem ve_xd {v : UInt64} {XC : String → State → State → Prop} (S : CallFix p m c cc nL s args Ts own) (hF : Fx P s) (hP : St P s w H locs) (hr : meth.sig.returnType = some .double) (hlocks : meth.locks = false) (hc : cells ≤ mc) (hs : slots ≤ ms) (hdg : decode cc pc = .ok (.dreturn, 1)) :
    W p l e R s m args below meth c H locs cells slots (vx_MQ below (va_Qd (fun (r : UInt64) (u : Wo) => (Sum.inr (v, w) : (Nat × Wo) ⊕ (UInt64 × Wo)) = .inr (r, u)) (Wq P) (Ab P.2.2.2.2.1)) XC args s mc ms (Ab P.2.2.2.2.1)) (F0 m pc ls [.double v]) := by
  refine W.widen hc hs (vx_ret ?_)
  exact W.dret S.1 S.2.1 hr (fun _ ht _ => ⟨⟨v, w, rfl, rfl, hP.Q ht⟩, hP.2.F ht⟩) hP.2.2.2 hdg hlocks
theorem ve_xv {XC : String → State → State → Prop} (S : CallFix p m c cc nL s args Ts own) (hF : Fx P s) (hP : St P s w H locs) (hr : meth.sig.returnType = none) (hlocks : meth.locks = false) (hc : cells ≤ mc) (hs : slots ≤ ms) (hdg : decode cc pc = .ok (.return_, 1)) :
    W p l e R s m args below meth c H locs cells slots (vx_MQ below (va_Qv (fun (u : Wo) => (Sum.inr w : (Nat × Wo) ⊕ Wo) = .inr u) (Wq P) (Ab P.2.2.2.2.1)) XC args s mc ms (Ab P.2.2.2.2.1)) (F0 m pc ls []) := by
  refine W.widen hc hs (vx_ret ?_)
  exact W.vret S.1 S.2.1 hr (fun _ ht _ => ⟨⟨w, rfl, rfl, hP.Q ht⟩, hP.2.F ht⟩) hP.2.2.2 hdg hlocks
/-- a callee's exception goes on to the caller -/
theorem ve_out {α : Type} {Qc : Array Value → State → Outcome → State → Prop} {u : Nat × Wo} {ce : Cell} {q9 : Addr} {rest : List Value} (hF : Fx P s) (hP : St P s u.2 H locs) (hlocks : meth.locks = false) (hx : ∀ x ∈ c.exceptionTable.toList, False) (h1 : H[q9]? = some ce) (h2 : ce.vm = .none) (h3 : s.vm.findClass (exN u.1) = some ce.cls) (hc : cells ≤ mc) (hs : slots ≤ ms) :
    vx_W p l e R s m args below meth c H locs cells slots (vx_MQ below Qc (exX P (α := α) (.inl u)) args s mc ms (Ab P.2.2.2.2.1)) (F0 m pc ls rest) q9 := by
  refine vx_out (E := exN u.1) (ce := ce) (fun x h => (hx x h).elim) hlocks h1 h2 h3 (fun t ht _ => ?_) hP.2.2.2 hc hs
  exact ⟨u, rfl, ⟨rfl, hP.Q ht⟩, hP.2.F ht⟩
/-- 'throw new E("text")' -/
theorem ve_thr {Qc : Array Value → State → Outcome → State → Prop} {rest : List Value} {α : Type} {ik is ic j : Nat} {cls text : String} (hl : l.stackTraces = false) (S : CallFix p m c cc nL s args Ts RX5) (hF : Fx P s) (hP : St P s w H locs) (hTs : ∀ w ∈ ALLW, w ∈ Ts) (hj : exN j = cls) (hcls : cls ∈ excs) (hfit : Bundle.fit cls = true) (hk : Cond.classLink RX5 ik cls ∈ ALLW) (hini : Cond.initialized cls ∈ ALLW) (hq : (is, text) ∈ strs)
    (hat : ∀ w ∈ vx_atS RX5 ic cls ["java/lang/RuntimeException", "java/lang/Exception"], w = .castable cls cls ∨ w ∈ ALLW) (hot : (vx_atS RX5 ic cls ["java/lang/RuntimeException", "java/lang/Exception"]).all vx_ot = true) (hsz : ls.size = nL) (hlocks : meth.locks = false) (hx : ∀ x ∈ c.exceptionTable.toList, False)
    (d0 : decode cc pc = .ok (.new ik, 3)) (d3 : decode cc (pc + 3) = .ok (.dup, 1)) (d4 : decode cc (pc + 4) = .ok (.ldc is, 2)) (d6 : decode cc (pc + 6) = .ok (.invokespecial ic, 3)) (d9 : decode cc (pc + 9) = .ok (.athrow, 1))
    (hR : 6 ≤ R.frames ∧ (rest.map fun v => v.category).sum + 82 ≤ R.locals ∧ cells + 1 ≤ R.cells ∧ slots + 6 ≤ R.slots) (hc : cells + 1 ≤ mc) (hs : slots + 6 ≤ ms) :
    W p l e R s m args below meth c H locs cells slots (vx_MQ below Qc (exX P (α := α) (.inl (j, w))) args s mc ms (Ab P.2.2.2.2.1)) (F0 m pc ls rest) := by
  refine vx_throwS S.1 S.2.1 hl S.2.2.2.1 hfit (names := ["java/lang/RuntimeException", "java/lang/Exception"]) (by decide +kernel) (S.2.2.2.2 _ (hTs _ hk)) (S.2.2.2.2 _ (hTs _ hini)) (hF.2.2.1.2.2.1 _ hq) (fun w hw => ?_) (fun w hw => ?_) hF.2.2.1.1 hF.2.2.1.2.1 hP.2 (hsz.trans S.2.2.1.symm) d0 d3 d4 d6 d9 (fun x h => (hx x h).elim) hR.1 hR.2.1 hR.2.2.1 hR.2.2.2 hlocks (fun t _ hz hkp => ?_) hP.2.2.2 hc hs
  · rcases hat w hw with rfl | h
    · exact va_Nw.use rfl (hF.2.2.1.2.2.2.2.2 _ hcls)
    · exact S.2.2.2.2 _ (hTs _ h)
  · rcases List.mem_cons.mp hw with rfl | hw
    · rfl
    rcases List.mem_cons.mp hw with rfl | hw
    · rfl
    exact List.all_eq_true.mp hot w hw
  · refine ⟨(j, w), rfl, ⟨hj.symm, hP.1.kept (fun k q hk => hkp _ (hP.1 k q hk).lt)⟩, ?_⟩
    exact ⟨Nat.le_trans hP.2.1 hz, fun q h1 h2 => by rw [hkp q (Nat.lt_of_lt_of_le h1 hP.2.1)]; exact hP.2.2.1 q h1 h2⟩
theorem ve_thrW {Qc : Array Value → State → Outcome → State → Prop} {rest : List Value} {α : Type} {ik is ic j : Nat} {cls text : String} (hl : l.stackTraces = false) (S : CallFix p m c cc nL s args Ts RX5) (hF : Fx P s) (hP : St P s w H locs) (hTs : ∀ w ∈ ALLW, w ∈ Ts) (hj : exN j = cls) (hcls : cls ∈ excs) (hfit : Bundle.fit cls = true) (hk : Cond.classLink RX5 ik cls ∈ ALLW) (hini : Cond.initialized cls ∈ ALLW) (hq : (is, text) ∈ strs)
    (hat : ∀ w ∈ vx_atS RX5 ic cls ["java/lang/RuntimeException", "java/lang/Exception"], w = .castable cls cls ∨ w ∈ ALLW) (hot : (vx_atS RX5 ic cls ["java/lang/RuntimeException", "java/lang/Exception"]).all vx_ot = true) (hsz : ls.size = nL) (hlocks : meth.locks = false) (hx : ∀ x ∈ c.exceptionTable.toList, False)
    (d0 : decode cc pc = .ok (.new ik, 3)) (d3 : decode cc (pc + 3) = .ok (.dup, 1)) (d4 : decode cc (pc + 4) = .ok (.ldc_w is, 3)) (d6 : decode cc (pc + 7) = .ok (.invokespecial ic, 3)) (d9 : decode cc (pc + 10) = .ok (.athrow, 1))
    (hR : 6 ≤ R.frames ∧ (rest.map fun v => v.category).sum + 82 ≤ R.locals ∧ cells + 1 ≤ R.cells ∧ slots + 6 ≤ R.slots) (hc : cells + 1 ≤ mc) (hs : slots + 6 ≤ ms) :
    W p l e R s m args below meth c H locs cells slots (vx_MQ below Qc (exX P (α := α) (.inl (j, w))) args s mc ms (Ab P.2.2.2.2.1)) (F0 m pc ls rest) := by
  refine vx_throwSW S.1 S.2.1 hl S.2.2.2.1 hfit (names := ["java/lang/RuntimeException", "java/lang/Exception"]) (by decide +kernel) (S.2.2.2.2 _ (hTs _ hk)) (S.2.2.2.2 _ (hTs _ hini)) (hF.2.2.1.2.2.1 _ hq) (fun w hw => ?_) (fun w hw => ?_) hF.2.2.1.1 hF.2.2.1.2.1 hP.2 (hsz.trans S.2.2.1.symm) d0 d3 d4 d6 d9 (fun x h => (hx x h).elim) hR.1 hR.2.1 hR.2.2.1 hR.2.2.2 hlocks (fun t _ hz hkp => ?_) hP.2.2.2 hc hs
  · rcases hat w hw with rfl | h
    · exact va_Nw.use rfl (hF.2.2.1.2.2.2.2.2 _ hcls)
    · exact S.2.2.2.2 _ (hTs _ h)
  · rcases List.mem_cons.mp hw with rfl | hw
    · rfl
    rcases List.mem_cons.mp hw with rfl | hw
    · rfl
    exact List.all_eq_true.mp hot w hw
  · refine ⟨(j, w), rfl, ⟨hj.symm, hP.1.kept (fun k q hk => hkp _ (hP.1 k q hk).lt)⟩, ?_⟩
    exact ⟨Nat.le_trans hP.2.1 hz, fun q h1 h2 => by rw [hkp q (Nat.lt_of_lt_of_le h1 hP.2.1)]; exact hP.2.2.1 q h1 h2⟩
end VE
end
