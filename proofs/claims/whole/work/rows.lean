section
-- ===== PART A: goes FIRST, ahead of the names: the tables' words, and 'selects' of the private methods out of them =====
/-- a private method of a class that the tables say can be made, by its rows of tables_1 -/
def lw_okq (q : MethodName × Nat) : Prop := (q.1.cls ≠ "java/lang/invoke/MethodHandle" ∧ q.1.cls ≠ "java/lang/invoke/VarHandle") ∧ Cond.instantiable q.1.cls q.2 ∈ tables_1 ∧ Cond.privateMethod q.1 ∈ tables_1 ∧ Cond.instanceMethod q.1 ∈ tables_1
theorem lw_p0 : lw_okq (⟨"NightDitch", "finding", "(I)I"⟩, 8) := ⟨⟨by decide +kernel, by decide +kernel⟩, List.mem_of_getElem? (i := 13) (by decide +kernel), List.mem_of_getElem? (i := 316) (by decide +kernel), List.mem_of_getElem? (i := 317) (by decide +kernel)⟩
theorem lw_p1 : lw_okq (⟨"NightDitch$Text", "push", "(I)V"⟩, 4) := ⟨⟨by decide +kernel, by decide +kernel⟩, List.mem_of_getElem? (i := 29) (by decide +kernel), List.mem_of_getElem? (i := 370) (by decide +kernel), List.mem_of_getElem? (i := 371) (by decide +kernel)⟩
theorem lw_p2 : lw_okq (⟨"NightDitch$Text", "work", "(I)V"⟩, 4) := ⟨⟨by decide +kernel, by decide +kernel⟩, List.mem_of_getElem? (i := 29) (by decide +kernel), List.mem_of_getElem? (i := 380) (by decide +kernel), List.mem_of_getElem? (i := 381) (by decide +kernel)⟩
theorem lw_p3 : lw_okq (⟨"NightDitch$Text", "pop", "()I"⟩, 4) := ⟨⟨by decide +kernel, by decide +kernel⟩, List.mem_of_getElem? (i := 29) (by decide +kernel), List.mem_of_getElem? (i := 384) (by decide +kernel), List.mem_of_getElem? (i := 385) (by decide +kernel)⟩
theorem lw_p4 : lw_okq (⟨"NightDitch$Ditch", "digit", "(II)I"⟩, 12) := ⟨⟨by decide +kernel, by decide +kernel⟩, List.mem_of_getElem? (i := 21) (by decide +kernel), List.mem_of_getElem? (i := 467) (by decide +kernel), List.mem_of_getElem? (i := 468) (by decide +kernel)⟩
theorem lw_p5 : lw_okq (⟨"NightDitch$Orders", "fillPays", "(LNightDitch$Ditch;)V"⟩, 7) := ⟨⟨by decide +kernel, by decide +kernel⟩, List.mem_of_getElem? (i := 198) (by decide +kernel), List.mem_of_getElem? (i := 492) (by decide +kernel), List.mem_of_getElem? (i := 493) (by decide +kernel)⟩
theorem lw_p6 : lw_okq (⟨"NightDitch$Orders", "fillLost", "(LNightDitch$Ditch;II)V"⟩, 7) := ⟨⟨by decide +kernel, by decide +kernel⟩, List.mem_of_getElem? (i := 198) (by decide +kernel), List.mem_of_getElem? (i := 497) (by decide +kernel), List.mem_of_getElem? (i := 498) (by decide +kernel)⟩
theorem lw_p7 : lw_okq (⟨"NightDitch$Meet", "putChances", "(IIII)V"⟩, 13) := ⟨⟨by decide +kernel, by decide +kernel⟩, List.mem_of_getElem? (i := 88) (by decide +kernel), List.mem_of_getElem? (i := 511) (by decide +kernel), List.mem_of_getElem? (i := 512) (by decide +kernel)⟩
theorem lw_p8 : lw_okq (⟨"NightDitch$Orders", "layFirst", "(I)V"⟩, 7) := ⟨⟨by decide +kernel, by decide +kernel⟩, List.mem_of_getElem? (i := 198) (by decide +kernel), List.mem_of_getElem? (i := 536) (by decide +kernel), List.mem_of_getElem? (i := 537) (by decide +kernel)⟩
theorem lw_p9 : lw_okq (⟨"NightDitch$Orders", "layFrom", "(IIJI)V"⟩, 7) := ⟨⟨by decide +kernel, by decide +kernel⟩, List.mem_of_getElem? (i := 198) (by decide +kernel), List.mem_of_getElem? (i := 540) (by decide +kernel), List.mem_of_getElem? (i := 541) (by decide +kernel)⟩
theorem lw_p10 : lw_okq (⟨"NightDitch$Orders", "closeRing", "(JI)V"⟩, 7) := ⟨⟨by decide +kernel, by decide +kernel⟩, List.mem_of_getElem? (i := 198) (by decide +kernel), List.mem_of_getElem? (i := 544) (by decide +kernel), List.mem_of_getElem? (i := 545) (by decide +kernel)⟩
theorem lw_p11 : lw_okq (⟨"NightDitch$Tape", "isSum", "(I)Z"⟩, 4) := ⟨⟨by decide +kernel, by decide +kernel⟩, List.mem_of_getElem? (i := 231) (by decide +kernel), List.mem_of_getElem? (i := 660) (by decide +kernel), List.mem_of_getElem? (i := 661) (by decide +kernel)⟩
theorem lw_p12 : lw_okq (⟨"NightDitch$Tape", "isProduct", "(I)Z"⟩, 4) := ⟨⟨by decide +kernel, by decide +kernel⟩, List.mem_of_getElem? (i := 231) (by decide +kernel), List.mem_of_getElem? (i := 664) (by decide +kernel), List.mem_of_getElem? (i := 665) (by decide +kernel)⟩
theorem lw_p13 : lw_okq (⟨"NightDitch$Tape", "isFactor", "(I)Z"⟩, 4) := ⟨⟨by decide +kernel, by decide +kernel⟩, List.mem_of_getElem? (i := 231) (by decide +kernel), List.mem_of_getElem? (i := 668) (by decide +kernel), List.mem_of_getElem? (i := 669) (by decide +kernel)⟩
theorem lw_p14 : lw_okq (⟨"NightDitch$Tape", "next", "()I"⟩, 4) := ⟨⟨by decide +kernel, by decide +kernel⟩, List.mem_of_getElem? (i := 231) (by decide +kernel), List.mem_of_getElem? (i := 672) (by decide +kernel), List.mem_of_getElem? (i := 673) (by decide +kernel)⟩
theorem lw_p15 : lw_okq (⟨"NightDitch$Tape", "takeNumber", "()V"⟩, 4) := ⟨⟨by decide +kernel, by decide +kernel⟩, List.mem_of_getElem? (i := 231) (by decide +kernel), List.mem_of_getElem? (i := 680) (by decide +kernel), List.mem_of_getElem? (i := 681) (by decide +kernel)⟩
def lw_privs_1 : List (MethodName × Nat) := [(⟨"NightDitch", "finding", "(I)I"⟩, 8), (⟨"NightDitch$Text", "push", "(I)V"⟩, 4), (⟨"NightDitch$Text", "work", "(I)V"⟩, 4), (⟨"NightDitch$Text", "pop", "()I"⟩, 4), (⟨"NightDitch$Ditch", "digit", "(II)I"⟩, 12), (⟨"NightDitch$Orders", "fillPays", "(LNightDitch$Ditch;)V"⟩, 7), (⟨"NightDitch$Orders", "fillLost", "(LNightDitch$Ditch;II)V"⟩, 7), (⟨"NightDitch$Meet", "putChances", "(IIII)V"⟩, 13), (⟨"NightDitch$Orders", "layFirst", "(I)V"⟩, 7), (⟨"NightDitch$Orders", "layFrom", "(IIJI)V"⟩, 7), (⟨"NightDitch$Orders", "closeRing", "(JI)V"⟩, 7), (⟨"NightDitch$Tape", "isSum", "(I)Z"⟩, 4), (⟨"NightDitch$Tape", "isProduct", "(I)Z"⟩, 4), (⟨"NightDitch$Tape", "isFactor", "(I)Z"⟩, 4), (⟨"NightDitch$Tape", "next", "()I"⟩, 4), (⟨"NightDitch$Tape", "takeNumber", "()V"⟩, 4)]
theorem lw_r1 : ∀ q ∈ lw_privs_1, lw_okq q := List.forall_mem_cons.mpr ⟨lw_p0, List.forall_mem_cons.mpr ⟨lw_p1, List.forall_mem_cons.mpr ⟨lw_p2, List.forall_mem_cons.mpr ⟨lw_p3, List.forall_mem_cons.mpr ⟨lw_p4, List.forall_mem_cons.mpr ⟨lw_p5, List.forall_mem_cons.mpr ⟨lw_p6, List.forall_mem_cons.mpr ⟨lw_p7, List.forall_mem_cons.mpr ⟨lw_p8, List.forall_mem_cons.mpr ⟨lw_p9, List.forall_mem_cons.mpr ⟨lw_p10, List.forall_mem_cons.mpr ⟨lw_p11, List.forall_mem_cons.mpr ⟨lw_p12, List.forall_mem_cons.mpr ⟨lw_p13, List.forall_mem_cons.mpr ⟨lw_p14, List.forall_mem_cons.mpr ⟨lw_p15, fun _ h => absurd h List.not_mem_nil⟩⟩⟩⟩⟩⟩⟩⟩⟩⟩⟩⟩⟩⟩⟩⟩
theorem lw_p16 : lw_okq (⟨"NightDitch$Tape", "isNext", "(II)Z"⟩, 4) := ⟨⟨by decide +kernel, by decide +kernel⟩, List.mem_of_getElem? (i := 231) (by decide +kernel), List.mem_of_getElem? (i := 689) (by decide +kernel), List.mem_of_getElem? (i := 690) (by decide +kernel)⟩
theorem lw_p17 : lw_okq (⟨"NightDitch$Tape", "isNegated", "(I)Z"⟩, 4) := ⟨⟨by decide +kernel, by decide +kernel⟩, List.mem_of_getElem? (i := 231) (by decide +kernel), List.mem_of_getElem? (i := 693) (by decide +kernel), List.mem_of_getElem? (i := 694) (by decide +kernel)⟩
theorem lw_p18 : lw_okq (⟨"NightDitch$Tape", "isBracket", "(I)Z"⟩, 4) := ⟨⟨by decide +kernel, by decide +kernel⟩, List.mem_of_getElem? (i := 231) (by decide +kernel), List.mem_of_getElem? (i := 697) (by decide +kernel), List.mem_of_getElem? (i := 698) (by decide +kernel)⟩
theorem lw_p19 : lw_okq (⟨"NightDitch$Tape", "passes", "(I)Z"⟩, 4) := ⟨⟨by decide +kernel, by decide +kernel⟩, List.mem_of_getElem? (i := 231) (by decide +kernel), List.mem_of_getElem? (i := 701) (by decide +kernel), List.mem_of_getElem? (i := 702) (by decide +kernel)⟩
theorem lw_p20 : lw_okq (⟨"NightDitch$Ditch", "passMeet", "(LNightDitch$Meet;)V"⟩, 12) := ⟨⟨by decide +kernel, by decide +kernel⟩, List.mem_of_getElem? (i := 21) (by decide +kernel), List.mem_of_getElem? (i := 728) (by decide +kernel), List.mem_of_getElem? (i := 729) (by decide +kernel)⟩
theorem lw_p21 : lw_okq (⟨"NightDitch$Ditch", "draw", "()I"⟩, 12) := ⟨⟨by decide +kernel, by decide +kernel⟩, List.mem_of_getElem? (i := 21) (by decide +kernel), List.mem_of_getElem? (i := 732) (by decide +kernel), List.mem_of_getElem? (i := 733) (by decide +kernel)⟩
theorem lw_p22 : lw_okq (⟨"NightDitchModel", "finds", "(I)I"⟩, 39) := ⟨⟨by decide +kernel, by decide +kernel⟩, List.mem_of_getElem? (i := 825) (by decide +kernel), List.mem_of_getElem? (i := 958) (by decide +kernel), List.mem_of_getElem? (i := 959) (by decide +kernel)⟩
theorem lw_p23 : lw_okq (⟨"NightDitchModel", "put", "(III)V"⟩, 39) := ⟨⟨by decide +kernel, by decide +kernel⟩, List.mem_of_getElem? (i := 825) (by decide +kernel), List.mem_of_getElem? (i := 963) (by decide +kernel), List.mem_of_getElem? (i := 964) (by decide +kernel)⟩
theorem lw_p24 : lw_okq (⟨"NightDitchModel", "isFarm", "(I)Z"⟩, 39) := ⟨⟨by decide +kernel, by decide +kernel⟩, List.mem_of_getElem? (i := 825) (by decide +kernel), List.mem_of_getElem? (i := 971) (by decide +kernel), List.mem_of_getElem? (i := 972) (by decide +kernel)⟩
theorem lw_p25 : lw_okq (⟨"NightDitchModel", "get", "(II)I"⟩, 39) := ⟨⟨by decide +kernel, by decide +kernel⟩, List.mem_of_getElem? (i := 825) (by decide +kernel), List.mem_of_getElem? (i := 975) (by decide +kernel), List.mem_of_getElem? (i := 976) (by decide +kernel)⟩
theorem lw_p26 : lw_okq (⟨"NightDitchModel", "placeOf", "(I)I"⟩, 39) := ⟨⟨by decide +kernel, by decide +kernel⟩, List.mem_of_getElem? (i := 825) (by decide +kernel), List.mem_of_getElem? (i := 983) (by decide +kernel), List.mem_of_getElem? (i := 984) (by decide +kernel)⟩
theorem lw_p27 : lw_okq (⟨"NightDitchModel", "paysAt", "(II)I"⟩, 39) := ⟨⟨by decide +kernel, by decide +kernel⟩, List.mem_of_getElem? (i := 825) (by decide +kernel), List.mem_of_getElem? (i := 987) (by decide +kernel), List.mem_of_getElem? (i := 988) (by decide +kernel)⟩
theorem lw_p28 : lw_okq (⟨"NightDitchModel", "says", "(II)I"⟩, 39) := ⟨⟨by decide +kernel, by decide +kernel⟩, List.mem_of_getElem? (i := 825) (by decide +kernel), List.mem_of_getElem? (i := 991) (by decide +kernel), List.mem_of_getElem? (i := 992) (by decide +kernel)⟩
theorem lw_p29 : lw_okq (⟨"NightDitchModel", "factOf", "(III)I"⟩, 39) := ⟨⟨by decide +kernel, by decide +kernel⟩, List.mem_of_getElem? (i := 825) (by decide +kernel), List.mem_of_getElem? (i := 995) (by decide +kernel), List.mem_of_getElem? (i := 996) (by decide +kernel)⟩
theorem lw_p30 : lw_okq (⟨"NightDitchModel", "wantsBy", "(II)I"⟩, 39) := ⟨⟨by decide +kernel, by decide +kernel⟩, List.mem_of_getElem? (i := 825) (by decide +kernel), List.mem_of_getElem? (i := 1005) (by decide +kernel), List.mem_of_getElem? (i := 1006) (by decide +kernel)⟩
theorem lw_p31 : lw_okq (⟨"NightDitchModel", "minds", "(I)I"⟩, 39) := ⟨⟨by decide +kernel, by decide +kernel⟩, List.mem_of_getElem? (i := 825) (by decide +kernel), List.mem_of_getElem? (i := 1012) (by decide +kernel), List.mem_of_getElem? (i := 1013) (by decide +kernel)⟩
def lw_privs_2 : List (MethodName × Nat) := [(⟨"NightDitch$Tape", "isNext", "(II)Z"⟩, 4), (⟨"NightDitch$Tape", "isNegated", "(I)Z"⟩, 4), (⟨"NightDitch$Tape", "isBracket", "(I)Z"⟩, 4), (⟨"NightDitch$Tape", "passes", "(I)Z"⟩, 4), (⟨"NightDitch$Ditch", "passMeet", "(LNightDitch$Meet;)V"⟩, 12), (⟨"NightDitch$Ditch", "draw", "()I"⟩, 12), (⟨"NightDitchModel", "finds", "(I)I"⟩, 39), (⟨"NightDitchModel", "put", "(III)V"⟩, 39), (⟨"NightDitchModel", "isFarm", "(I)Z"⟩, 39), (⟨"NightDitchModel", "get", "(II)I"⟩, 39), (⟨"NightDitchModel", "placeOf", "(I)I"⟩, 39), (⟨"NightDitchModel", "paysAt", "(II)I"⟩, 39), (⟨"NightDitchModel", "says", "(II)I"⟩, 39), (⟨"NightDitchModel", "factOf", "(III)I"⟩, 39), (⟨"NightDitchModel", "wantsBy", "(II)I"⟩, 39), (⟨"NightDitchModel", "minds", "(I)I"⟩, 39)]
theorem lw_r2 : ∀ q ∈ lw_privs_2, lw_okq q := List.forall_mem_cons.mpr ⟨lw_p16, List.forall_mem_cons.mpr ⟨lw_p17, List.forall_mem_cons.mpr ⟨lw_p18, List.forall_mem_cons.mpr ⟨lw_p19, List.forall_mem_cons.mpr ⟨lw_p20, List.forall_mem_cons.mpr ⟨lw_p21, List.forall_mem_cons.mpr ⟨lw_p22, List.forall_mem_cons.mpr ⟨lw_p23, List.forall_mem_cons.mpr ⟨lw_p24, List.forall_mem_cons.mpr ⟨lw_p25, List.forall_mem_cons.mpr ⟨lw_p26, List.forall_mem_cons.mpr ⟨lw_p27, List.forall_mem_cons.mpr ⟨lw_p28, List.forall_mem_cons.mpr ⟨lw_p29, List.forall_mem_cons.mpr ⟨lw_p30, List.forall_mem_cons.mpr ⟨lw_p31, fun _ h => absurd h List.not_mem_nil⟩⟩⟩⟩⟩⟩⟩⟩⟩⟩⟩⟩⟩⟩⟩⟩
theorem lw_p32 : lw_okq (⟨"NightDitchModel", "findBest", "()V"⟩, 39) := ⟨⟨by decide +kernel, by decide +kernel⟩, List.mem_of_getElem? (i := 825) (by decide +kernel), List.mem_of_getElem? (i := 1058) (by decide +kernel), List.mem_of_getElem? (i := 1059) (by decide +kernel)⟩
theorem lw_p33 : lw_okq (⟨"NightDitchModel", "findLost", "()V"⟩, 39) := ⟨⟨by decide +kernel, by decide +kernel⟩, List.mem_of_getElem? (i := 825) (by decide +kernel), List.mem_of_getElem? (i := 1062) (by decide +kernel), List.mem_of_getElem? (i := 1063) (by decide +kernel)⟩
theorem lw_p34 : lw_okq (⟨"NightDitchModel", "findRest", "(III)V"⟩, 39) := ⟨⟨by decide +kernel, by decide +kernel⟩, List.mem_of_getElem? (i := 825) (by decide +kernel), List.mem_of_getElem? (i := 1066) (by decide +kernel), List.mem_of_getElem? (i := 1067) (by decide +kernel)⟩
theorem lw_p35 : lw_okq (⟨"NightDitchModel", "lostThere", "()J"⟩, 39) := ⟨⟨by decide +kernel, by decide +kernel⟩, List.mem_of_getElem? (i := 825) (by decide +kernel), List.mem_of_getElem? (i := 1075) (by decide +kernel), List.mem_of_getElem? (i := 1076) (by decide +kernel)⟩
theorem lw_p36 : lw_okq (⟨"NightDitchModel", "tryRow", "()V"⟩, 39) := ⟨⟨by decide +kernel, by decide +kernel⟩, List.mem_of_getElem? (i := 825) (by decide +kernel), List.mem_of_getElem? (i := 1080) (by decide +kernel), List.mem_of_getElem? (i := 1081) (by decide +kernel)⟩
theorem lw_p37 : lw_okq (⟨"NightDitchModel", "hoursAll", "()I"⟩, 39) := ⟨⟨by decide +kernel, by decide +kernel⟩, List.mem_of_getElem? (i := 825) (by decide +kernel), List.mem_of_getElem? (i := 1088) (by decide +kernel), List.mem_of_getElem? (i := 1089) (by decide +kernel)⟩
theorem lw_p38 : lw_okq (⟨"NightDitchModel", "meets", "()I"⟩, 39) := ⟨⟨by decide +kernel, by decide +kernel⟩, List.mem_of_getElem? (i := 825) (by decide +kernel), List.mem_of_getElem? (i := 1096) (by decide +kernel), List.mem_of_getElem? (i := 1097) (by decide +kernel)⟩
theorem lw_p39 : lw_okq (⟨"NightDitchModel", "findMeet", "(I)V"⟩, 39) := ⟨⟨by decide +kernel, by decide +kernel⟩, List.mem_of_getElem? (i := 825) (by decide +kernel), List.mem_of_getElem? (i := 1100) (by decide +kernel), List.mem_of_getElem? (i := 1101) (by decide +kernel)⟩
theorem lw_p40 : lw_okq (⟨"NightDitchModel", "lostAll", "()J"⟩, 39) := ⟨⟨by decide +kernel, by decide +kernel⟩, List.mem_of_getElem? (i := 825) (by decide +kernel), List.mem_of_getElem? (i := 1108) (by decide +kernel), List.mem_of_getElem? (i := 1109) (by decide +kernel)⟩
theorem lw_p41 : lw_okq (⟨"NightDitchModel", "mostTaking", "()J"⟩, 39) := ⟨⟨by decide +kernel, by decide +kernel⟩, List.mem_of_getElem? (i := 825) (by decide +kernel), List.mem_of_getElem? (i := 1117) (by decide +kernel), List.mem_of_getElem? (i := 1118) (by decide +kernel)⟩
theorem lw_p42 : lw_okq (⟨"NightDitchModel", "operand", "()Z"⟩, 39) := ⟨⟨by decide +kernel, by decide +kernel⟩, List.mem_of_getElem? (i := 825) (by decide +kernel), List.mem_of_getElem? (i := 1150) (by decide +kernel), List.mem_of_getElem? (i := 1151) (by decide +kernel)⟩
theorem lw_p43 : lw_okq (⟨"NightDitchModel", "emit", "(I)V"⟩, 39) := ⟨⟨by decide +kernel, by decide +kernel⟩, List.mem_of_getElem? (i := 825) (by decide +kernel), List.mem_of_getElem? (i := 1157) (by decide +kernel), List.mem_of_getElem? (i := 1158) (by decide +kernel)⟩
theorem lw_p44 : lw_okq (⟨"NightDitchModel", "ends", "()Z"⟩, 39) := ⟨⟨by decide +kernel, by decide +kernel⟩, List.mem_of_getElem? (i := 825) (by decide +kernel), List.mem_of_getElem? (i := 1161) (by decide +kernel), List.mem_of_getElem? (i := 1162) (by decide +kernel)⟩
theorem lw_p45 : lw_okq (⟨"NightDitchModel", "waits", "(I)V"⟩, 39) := ⟨⟨by decide +kernel, by decide +kernel⟩, List.mem_of_getElem? (i := 825) (by decide +kernel), List.mem_of_getElem? (i := 1168) (by decide +kernel), List.mem_of_getElem? (i := 1169) (by decide +kernel)⟩
theorem lw_p46 : lw_okq (⟨"NightDitchModel", "operator", "()Z"⟩, 39) := ⟨⟨by decide +kernel, by decide +kernel⟩, List.mem_of_getElem? (i := 825) (by decide +kernel), List.mem_of_getElem? (i := 1172) (by decide +kernel), List.mem_of_getElem? (i := 1173) (by decide +kernel)⟩
theorem lw_p47 : lw_okq (⟨"NightDitchModel", "settles", "(I)V"⟩, 39) := ⟨⟨by decide +kernel, by decide +kernel⟩, List.mem_of_getElem? (i := 825) (by decide +kernel), List.mem_of_getElem? (i := 1176) (by decide +kernel), List.mem_of_getElem? (i := 1177) (by decide +kernel)⟩
def lw_privs_3 : List (MethodName × Nat) := [(⟨"NightDitchModel", "findBest", "()V"⟩, 39), (⟨"NightDitchModel", "findLost", "()V"⟩, 39), (⟨"NightDitchModel", "findRest", "(III)V"⟩, 39), (⟨"NightDitchModel", "lostThere", "()J"⟩, 39), (⟨"NightDitchModel", "tryRow", "()V"⟩, 39), (⟨"NightDitchModel", "hoursAll", "()I"⟩, 39), (⟨"NightDitchModel", "meets", "()I"⟩, 39), (⟨"NightDitchModel", "findMeet", "(I)V"⟩, 39), (⟨"NightDitchModel", "lostAll", "()J"⟩, 39), (⟨"NightDitchModel", "mostTaking", "()J"⟩, 39), (⟨"NightDitchModel", "operand", "()Z"⟩, 39), (⟨"NightDitchModel", "emit", "(I)V"⟩, 39), (⟨"NightDitchModel", "ends", "()Z"⟩, 39), (⟨"NightDitchModel", "waits", "(I)V"⟩, 39), (⟨"NightDitchModel", "operator", "()Z"⟩, 39), (⟨"NightDitchModel", "settles", "(I)V"⟩, 39)]
theorem lw_r3 : ∀ q ∈ lw_privs_3, lw_okq q := List.forall_mem_cons.mpr ⟨lw_p32, List.forall_mem_cons.mpr ⟨lw_p33, List.forall_mem_cons.mpr ⟨lw_p34, List.forall_mem_cons.mpr ⟨lw_p35, List.forall_mem_cons.mpr ⟨lw_p36, List.forall_mem_cons.mpr ⟨lw_p37, List.forall_mem_cons.mpr ⟨lw_p38, List.forall_mem_cons.mpr ⟨lw_p39, List.forall_mem_cons.mpr ⟨lw_p40, List.forall_mem_cons.mpr ⟨lw_p41, List.forall_mem_cons.mpr ⟨lw_p42, List.forall_mem_cons.mpr ⟨lw_p43, List.forall_mem_cons.mpr ⟨lw_p44, List.forall_mem_cons.mpr ⟨lw_p45, List.forall_mem_cons.mpr ⟨lw_p46, List.forall_mem_cons.mpr ⟨lw_p47, fun _ h => absurd h List.not_mem_nil⟩⟩⟩⟩⟩⟩⟩⟩⟩⟩⟩⟩⟩⟩⟩⟩
theorem lw_p48 : lw_okq (⟨"NightDitchModel", "top", "()I"⟩, 39) := ⟨⟨by decide +kernel, by decide +kernel⟩, List.mem_of_getElem? (i := 825) (by decide +kernel), List.mem_of_getElem? (i := 1180) (by decide +kernel), List.mem_of_getElem? (i := 1181) (by decide +kernel)⟩
theorem lw_p49 : lw_okq (⟨"NightDitchModel", "goesOn", "(I)I"⟩, 39) := ⟨⟨by decide +kernel, by decide +kernel⟩, List.mem_of_getElem? (i := 825) (by decide +kernel), List.mem_of_getElem? (i := 1200) (by decide +kernel), List.mem_of_getElem? (i := 1201) (by decide +kernel)⟩
theorem lw_p50 : lw_okq (⟨"NightDitchModel", "night", "()V"⟩, 39) := ⟨⟨by decide +kernel, by decide +kernel⟩, List.mem_of_getElem? (i := 825) (by decide +kernel), List.mem_of_getElem? (i := 1204) (by decide +kernel), List.mem_of_getElem? (i := 1205) (by decide +kernel)⟩
theorem lw_p51 : lw_okq (⟨"NightDitchModel", "meet", "(I)V"⟩, 39) := ⟨⟨by decide +kernel, by decide +kernel⟩, List.mem_of_getElem? (i := 825) (by decide +kernel), List.mem_of_getElem? (i := 1208) (by decide +kernel), List.mem_of_getElem? (i := 1209) (by decide +kernel)⟩
theorem lw_p52 : lw_okq (⟨"NightDitchModel", "draw", "()I"⟩, 39) := ⟨⟨by decide +kernel, by decide +kernel⟩, List.mem_of_getElem? (i := 825) (by decide +kernel), List.mem_of_getElem? (i := 1212) (by decide +kernel), List.mem_of_getElem? (i := 1213) (by decide +kernel)⟩
theorem lw_p53 : lw_okq (⟨"NightDitchModel", "has", "(III)Z"⟩, 39) := ⟨⟨by decide +kernel, by decide +kernel⟩, List.mem_of_getElem? (i := 825) (by decide +kernel), List.mem_of_getElem? (i := 1242) (by decide +kernel), List.mem_of_getElem? (i := 1243) (by decide +kernel)⟩
def lw_privs_4 : List (MethodName × Nat) := [(⟨"NightDitchModel", "top", "()I"⟩, 39), (⟨"NightDitchModel", "goesOn", "(I)I"⟩, 39), (⟨"NightDitchModel", "night", "()V"⟩, 39), (⟨"NightDitchModel", "meet", "(I)V"⟩, 39), (⟨"NightDitchModel", "draw", "()I"⟩, 39), (⟨"NightDitchModel", "has", "(III)Z"⟩, 39)]
theorem lw_r4 : ∀ q ∈ lw_privs_4, lw_okq q := List.forall_mem_cons.mpr ⟨lw_p48, List.forall_mem_cons.mpr ⟨lw_p49, List.forall_mem_cons.mpr ⟨lw_p50, List.forall_mem_cons.mpr ⟨lw_p51, List.forall_mem_cons.mpr ⟨lw_p52, List.forall_mem_cons.mpr ⟨lw_p53, fun _ h => absurd h List.not_mem_nil⟩⟩⟩⟩⟩⟩
def lw_privs : List (MethodName × Nat) := lw_privs_1 ++ (lw_privs_2 ++ (lw_privs_3 ++ (lw_privs_4)))
def lw_tbl : List Cond := k2_sels lw_privs ++ tables_1
theorem lw_privs_ok : ∀ q ∈ lw_privs, lw_okq q := by
  show ∀ q ∈ lw_privs_1 ++ (lw_privs_2 ++ (lw_privs_3 ++ (lw_privs_4))), lw_okq q
  exact List.forall_mem_append.mpr ⟨lw_r1, List.forall_mem_append.mpr ⟨lw_r2, List.forall_mem_append.mpr ⟨lw_r3, lw_r4⟩⟩⟩
end
section
def RX0 : String := "NightDitch$Ditch"
def TX0 : u_T := fun k => match k with
  | 0 => ("NightDitch$Ditch", "farms", "[LNightDitch$Farm;", true)
  | 1 => ("NightDitch$Ditch", "order", "[I", true)
  | 2 => ("NightDitch$Ditch", "rules", "[I", true)
  | 3 => ("NightDitch$Ditch", "said", "LNightDitch$Text;", true)
  | 4 => ("NightDitch$Ditch", "count", "I", false)
  | 5 => ("NightDitch$Ditch", "year", "I", false)
  | 6 => ("NightDitch$Ditch", "dry", "I", false)
  | 7 => ("NightDitch$Ditch", "z", "I", false)
  | 8 => ("NightDitch$Ditch", "taken", "I", false)
  | 9 => ("NightDitch$Ditch", "seen", "I", false)
  | 10 => ("NightDitch$Ditch", "meets", "[LNightDitch$Meet;", true)
  | _ => ("NightDitch$Ditch", "pays", "[I", true)
def tyX0 : Nat → FieldType := fun k => match k with
  | 0 => .array (.object "NightDitch$Farm")
  | 1 => .array .int
  | 2 => .array .int
  | 3 => .object "NightDitch$Text"
  | 4 => .int
  | 5 => .int
  | 6 => .int
  | 7 => .int
  | 8 => .int
  | 9 => .int
  | 10 => .array (.object "NightDitch$Meet")
  | _ => .array .int
theorem nmX0 : ∀ a, a < 12 → ∀ b, b < 12 → a ≠ b → (TX0 a).2.1 ≠ (TX0 b).2.1 := by decide +kernel
theorem tyX0_ok : ∀ k, k < 12 → parseFieldDescriptor (TX0 k).2.2.1 = some (tyX0 k) := by decide +kernel
def RX1 : String := "NightDitch$Farm"
def TX1 : u_T := fun k => match k with
  | 0 => ("NightDitch$Farm", "kind", "I", false)
  | 1 => ("NightDitch$Farm", "hours", "I", false)
  | 2 => ("NightDitch$Farm", "worth", "I", false)
  | 3 => ("NightDitch$Farm", "sleep", "I", false)
  | 4 => ("NightDitch$Farm", "sees", "I", false)
  | 5 => ("NightDitch$Farm", "purse", "I", false)
  | _ => ("NightDitch$Farm", "anger", "I", false)
def tyX1 : Nat → FieldType := fun k => match k with
  | 0 => .int
  | 1 => .int
  | 2 => .int
  | 3 => .int
  | 4 => .int
  | 5 => .int
  | _ => .int
theorem nmX1 : ∀ a, a < 7 → ∀ b, b < 7 → a ≠ b → (TX1 a).2.1 ≠ (TX1 b).2.1 := by decide +kernel
theorem tyX1_ok : ∀ k, k < 7 → parseFieldDescriptor (TX1 k).2.2.1 = some (tyX1 k) := by decide +kernel
def RX2 : String := "NightDitch$Meet"
def TX2 : u_T := fun k => match k with
  | 0 => ("NightDitch$Meet", "owner", "I", false)
  | 1 => ("NightDitch$Meet", "taker", "I", false)
  | 2 => ("NightDitch$Meet", "wants", "I", false)
  | 3 => ("NightDitch$Meet", "pays", "I", false)
  | 4 => ("NightDitch$Meet", "given", "I", false)
  | 5 => ("NightDitch$Meet", "minds", "I", false)
  | 6 => ("NightDitch$Meet", "sight", "I", false)
  | 7 => ("NightDitch$Meet", "takesAbove", "I", false)
  | 8 => ("NightDitch$Meet", "takesBelow", "I", false)
  | 9 => ("NightDitch$Meet", "watchesAbove", "I", false)
  | 10 => ("NightDitch$Meet", "watchesBelow", "I", false)
  | 11 => ("NightDitch$Meet", "takes", "I", false)
  | _ => ("NightDitch$Meet", "watches", "I", false)
def tyX2 : Nat → FieldType := fun k => match k with
  | 0 => .int
  | 1 => .int
  | 2 => .int
  | 3 => .int
  | 4 => .int
  | 5 => .int
  | 6 => .int
  | 7 => .int
  | 8 => .int
  | 9 => .int
  | 10 => .int
  | 11 => .int
  | _ => .int
theorem nmX2 : ∀ a, a < 13 → ∀ b, b < 13 → a ≠ b → (TX2 a).2.1 ≠ (TX2 b).2.1 := by decide +kernel
theorem tyX2_ok : ∀ k, k < 13 → parseFieldDescriptor (TX2 k).2.2.1 = some (tyX2 k) := by decide +kernel
def RX3 : String := "NightDitch$Orders"
def TX3 : u_T := fun k => match k with
  | 0 => ("NightDitch$Orders", "pays", "[I", true)
  | 1 => ("NightDitch$Orders", "lost", "[J", true)
  | 2 => ("NightDitch$Orders", "laid", "[I", true)
  | 3 => ("NightDitch$Orders", "meet", "LNightDitch$Meet;", true)
  | 4 => ("NightDitch$Orders", "count", "I", false)
  | 5 => ("NightDitch$Orders", "leastLost", "J", false)
  | _ => ("NightDitch$Orders", "leastNumber", "I", false)
def tyX3 : Nat → FieldType := fun k => match k with
  | 0 => .array .int
  | 1 => .array .long
  | 2 => .array .int
  | 3 => .object "NightDitch$Meet"
  | 4 => .int
  | 5 => .long
  | _ => .int
theorem nmX3 : ∀ a, a < 7 → ∀ b, b < 7 → a ≠ b → (TX3 a).2.1 ≠ (TX3 b).2.1 := by decide +kernel
theorem tyX3_ok : ∀ k, k < 7 → parseFieldDescriptor (TX3 k).2.2.1 = some (tyX3 k) := by decide +kernel
def RX4 : String := "NightDitch$Sheets"
def TX4 : u_T := fun k => match k with
  | 0 => ("NightDitch$Sheets", "rows", "[[J", true)
  | 1 => ("NightDitch$Sheets", "widths", "[I", true)
  | _ => ("NightDitch$Sheets", "sizes", "[I", true)
def tyX4 : Nat → FieldType := fun k => match k with
  | 0 => .array (.array .long)
  | 1 => .array .int
  | _ => .array .int
theorem nmX4 : ∀ a, a < 3 → ∀ b, b < 3 → a ≠ b → (TX4 a).2.1 ≠ (TX4 b).2.1 := by decide +kernel
theorem tyX4_ok : ∀ k, k < 3 → parseFieldDescriptor (TX4 k).2.2.1 = some (tyX4 k) := by decide +kernel
def RX5 : String := "NightDitch$Tape"
def TX5 : u_T := fun k => match k with
  | 0 => ("NightDitch$Tape", "bytes", "[I", true)
  | 1 => ("NightDitch$Tape", "draft", "LNightDitch$Text;", true)
  | 2 => ("NightDitch$Tape", "length", "I", false)
  | _ => ("NightDitch$Tape", "at", "I", false)
def tyX5 : Nat → FieldType := fun k => match k with
  | 0 => .array .int
  | 1 => .object "NightDitch$Text"
  | 2 => .int
  | _ => .int
theorem nmX5 : ∀ a, a < 4 → ∀ b, b < 4 → a ≠ b → (TX5 a).2.1 ≠ (TX5 b).2.1 := by decide +kernel
theorem tyX5_ok : ∀ k, k < 4 → parseFieldDescriptor (TX5 k).2.2.1 = some (tyX5 k) := by decide +kernel
def RX6 : String := "NightDitch$Text"
def TX6 : u_T := fun k => match k with
  | 0 => ("NightDitch$Text", "code", "[I", true)
  | 1 => ("NightDitch$Text", "stack", "[I", true)
  | 2 => ("NightDitch$Text", "top", "I", false)
  | _ => ("NightDitch$Text", "length", "I", false)
def tyX6 : Nat → FieldType := fun k => match k with
  | 0 => .array .int
  | 1 => .array .int
  | 2 => .int
  | _ => .int
theorem nmX6 : ∀ a, a < 4 → ∀ b, b < 4 → a ≠ b → (TX6 a).2.1 ≠ (TX6 b).2.1 := by decide +kernel
theorem tyX6_ok : ∀ k, k < 4 → parseFieldDescriptor (TX6 k).2.2.1 = some (tyX6 k) := by decide +kernel
def RX7 : String := "NightDitch"
def TX7 : u_T := fun k => match k with
  | 0 => ("NightDitch", "now", "LNightDitch$Ditch;", true)
  | 1 => ("NightDitch", "kept", "LNightDitch$Ditch;", true)
  | 2 => ("NightDitch", "trial", "LNightDitch$Ditch;", true)
  | 3 => ("NightDitch", "orders", "LNightDitch$Orders;", true)
  | 4 => ("NightDitch", "tape", "LNightDitch$Tape;", true)
  | 5 => ("NightDitch", "sheets", "LNightDitch$Sheets;", true)
  | 6 => ("NightDitch", "findings", "[I", true)
  | _ => ("NightDitch", "isKept", "Z", false)
def tyX7 : Nat → FieldType := fun k => match k with
  | 0 => .object "NightDitch$Ditch"
  | 1 => .object "NightDitch$Ditch"
  | 2 => .object "NightDitch$Ditch"
  | 3 => .object "NightDitch$Orders"
  | 4 => .object "NightDitch$Tape"
  | 5 => .object "NightDitch$Sheets"
  | 6 => .array .int
  | _ => .boolean
theorem nmX7 : ∀ a, a < 8 → ∀ b, b < 8 → a ≠ b → (TX7 a).2.1 ≠ (TX7 b).2.1 := by decide +kernel
theorem tyX7_ok : ∀ k, k < 8 → parseFieldDescriptor (TX7 k).2.2.1 = some (tyX7 k) := by decide +kernel
def RX8 : String := "NightDitchModel"
def TX8 : u_T := fun k => match k with
  | 0 => ("NightDitchModel", "now", "[I", true)
  | 1 => ("NightDitchModel", "kept", "[I", true)
  | 2 => ("NightDitchModel", "aside", "[I", true)
  | 3 => ("NightDitchModel", "isKept", "Z", false)
  | 4 => ("NightDitchModel", "found", "[I", true)
  | 5 => ("NightDitchModel", "foundAll", "I", false)
  | 6 => ("NightDitchModel", "digits", "[I", true)
  | 7 => ("NightDitchModel", "takesAbove", "I", false)
  | 8 => ("NightDitchModel", "takesBelow", "I", false)
  | 9 => ("NightDitchModel", "watchesAbove", "I", false)
  | 10 => ("NightDitchModel", "watchesBelow", "I", false)
  | 11 => ("NightDitchModel", "taking", "J", false)
  | 12 => ("NightDitchModel", "watching", "J", false)
  | 13 => ("NightDitchModel", "open", "J", false)
  | 14 => ("NightDitchModel", "wants", "I", false)
  | 15 => ("NightDitchModel", "pays", "I", false)
  | 16 => ("NightDitchModel", "gets", "I", false)
  | 17 => ("NightDitchModel", "sleep", "I", false)
  | 18 => ("NightDitchModel", "sees", "I", false)
  | 19 => ("NightDitchModel", "lostBy", "[J", true)
  | 20 => ("NightDitchModel", "row", "[I", true)
  | 21 => ("NightDitchModel", "isIn", "[Z", true)
  | 22 => ("NightDitchModel", "bestRow", "I", false)
  | 23 => ("NightDitchModel", "leastLost", "J", false)
  | 24 => ("NightDitchModel", "tape", "[I", true)
  | 25 => ("NightDitchModel", "taped", "I", false)
  | 26 => ("NightDitchModel", "fresh", "[I", true)
  | 27 => ("NightDitchModel", "freshMany", "I", false)
  | 28 => ("NightDitchModel", "waits", "[I", true)
  | 29 => ("NightDitchModel", "held", "I", false)
  | 30 => ("NightDitchModel", "opened", "I", false)
  | 31 => ("NightDitchModel", "at", "I", false)
  | 32 => ("NightDitchModel", "isFault", "Z", false)
  | 33 => ("NightDitchModel", "pile", "[I", true)
  | 34 => ("NightDitchModel", "asItBegins", "[I", true)
  | 35 => ("NightDitchModel", "widths", "[I", true)
  | 36 => ("NightDitchModel", "sizes", "[I", true)
  | 37 => ("NightDitchModel", "cells", "[J", true)
  | _ => ("NightDitchModel", "moved", "[J", true)
def tyX8 : Nat → FieldType := fun k => match k with
  | 0 => .array .int
  | 1 => .array .int
  | 2 => .array .int
  | 3 => .boolean
  | 4 => .array .int
  | 5 => .int
  | 6 => .array .int
  | 7 => .int
  | 8 => .int
  | 9 => .int
  | 10 => .int
  | 11 => .long
  | 12 => .long
  | 13 => .long
  | 14 => .int
  | 15 => .int
  | 16 => .int
  | 17 => .int
  | 18 => .int
  | 19 => .array .long
  | 20 => .array .int
  | 21 => .array .boolean
  | 22 => .int
  | 23 => .long
  | 24 => .array .int
  | 25 => .int
  | 26 => .array .int
  | 27 => .int
  | 28 => .array .int
  | 29 => .int
  | 30 => .int
  | 31 => .int
  | 32 => .boolean
  | 33 => .array .int
  | 34 => .array .int
  | 35 => .array .int
  | 36 => .array .int
  | 37 => .array .long
  | _ => .array .long
theorem nmX8 : ∀ a, a < 39 → ∀ b, b < 39 → a ≠ b → (TX8 a).2.1 ≠ (TX8 b).2.1 := by decide +kernel
theorem tyX8_ok : ∀ k, k < 39 → parseFieldDescriptor (TX8 k).2.2.1 = some (tyX8 k) := by decide +kernel
abbrev Mt : Type := MethodName × ByteArray × Nat × Option FieldType
def mt_N_init : Mt := (⟨"NightDitch", "<init>", "()V"⟩, prog_1_method_1_code, 1, none)
def mt_N_farm : Mt := (⟨"NightDitch", "farm", "(III)I"⟩, prog_1_method_2_code, 4, some .int)
def mt_N_set : Mt := (⟨"NightDitch", "set", "(III)I"⟩, prog_1_method_3_code, 4, some .int)
def mt_N_of : Mt := (⟨"NightDitch", "of", "(II)I"⟩, prog_1_method_4_code, 3, some .int)
def mt_N_as : Mt := (⟨"NightDitch", "as", "(II)I"⟩, prog_1_method_5_code, 3, some .int)
def mt_N_rule : Mt := (⟨"NightDitch", "rule", "(II)I"⟩, prog_1_method_6_code, 4, some .int)
def mt_N_dry : Mt := (⟨"NightDitch", "dry", "(I)I"⟩, prog_1_method_7_code, 3, some .int)
def mt_N_year : Mt := (⟨"NightDitch", "year", "()I"⟩, prog_1_method_8_code, 1, some .int)
def mt_N_turn : Mt := (⟨"NightDitch", "turn", "(I)I"⟩, prog_1_method_9_code, 2, some .int)
def mt_N_swap : Mt := (⟨"NightDitch", "swap", "(II)I"⟩, prog_1_method_10_code, 4, some .int)
def mt_N_turns : Mt := (⟨"NightDitch", "turns", "(I)I"⟩, prog_1_method_11_code, 2, some .int)
def mt_N_told : Mt := (⟨"NightDitch", "told", "()I"⟩, prog_1_method_12_code, 1, some .int)
def mt_N_best : Mt := (⟨"NightDitch", "best", "(I)J"⟩, prog_1_method_13_code, 2, some .long)
def mt_N_share : Mt := (⟨"NightDitch", "share", "(I)I"⟩, prog_1_method_14_code, 3, some .int)
def mt_N_rest : Mt := (⟨"NightDitch", "rest", "(II)I"⟩, prog_1_method_15_code, 3, some .int)
def mt_N_lost : Mt := (⟨"NightDitch", "lost", "(I)J"⟩, prog_1_method_16_code, 2, some .long)
def mt_N_least : Mt := (⟨"NightDitch", "least", "(I)I"⟩, prog_1_method_17_code, 6, some .int)
def mt_N_hire : Mt := (⟨"NightDitch", "hire", "(I)J"⟩, prog_1_method_18_code, 2, some .long)
def mt_N_breaks : Mt := (⟨"NightDitch", "breaks", "(I)I"⟩, prog_1_method_19_code, 3, some .int)
def mt_N_blame : Mt := (⟨"NightDitch", "blame", "(I)I"⟩, prog_1_method_20_code, 4, some .int)
def mt_N_always : Mt := (⟨"NightDitch", "always", "()I"⟩, prog_1_method_21_code, 3, some .int)
def mt_N_feed : Mt := (⟨"NightDitch", "feed", "(II)I"⟩, prog_1_method_22_code, 4, some .int)
def mt_N_wipe : Mt := (⟨"NightDitch", "wipe", "()I"⟩, prog_1_method_23_code, 2, some .int)
def mt_N_text : Mt := (⟨"NightDitch", "text", "()I"⟩, prog_1_method_24_code, 1, some .int)
def mt_N_plain : Mt := (⟨"NightDitch", "plain", "()I"⟩, prog_1_method_25_code, 2, some .int)
def mt_N_gives : Mt := (⟨"NightDitch", "gives", "(I)I"⟩, prog_1_method_26_code, 2, some .int)
def mt_N_seed : Mt := (⟨"NightDitch", "seed", "(I)I"⟩, prog_1_method_27_code, 3, some .int)
def mt_N_nights : Mt := (⟨"NightDitch", "nights", "(I)I"⟩, prog_1_method_28_code, 3, some .int)
def mt_N_ahead : Mt := (⟨"NightDitch", "ahead", "(II)I"⟩, prog_1_method_29_code, 3, some .int)
def mt_N_purse : Mt := (⟨"NightDitch", "purse", "(I)I"⟩, prog_1_method_30_code, 2, some .int)
def mt_N_sheet : Mt := (⟨"NightDitch", "sheet", "(III)I"⟩, prog_1_method_31_code, 4, some .int)
def mt_N_write : Mt := (⟨"NightDitch", "write", "(IIJ)J"⟩, prog_1_method_32_code, 5, some .long)
def mt_N_copy : Mt := (⟨"NightDitch", "copy", "(IIIII)I"⟩, prog_1_method_33_code, 6, some .int)
def mt_N_worths : Mt := (⟨"NightDitch", "worths", "(I)I"⟩, prog_1_method_34_code, 6, some .int)
def mt_N_read : Mt := (⟨"NightDitch", "read", "(I)I"⟩, prog_1_method_35_code, 3, some .int)
def mt_N_image : Mt := (⟨"NightDitch", "image", "()I"⟩, prog_1_method_36_code, 1, some .int)
def mt_N_undo : Mt := (⟨"NightDitch", "undo", "()I"⟩, prog_1_method_37_code, 1, some .int)
def mt_N_tear : Mt := (⟨"NightDitch", "tear", "()I"⟩, prog_1_method_38_code, 2, some .int)
def mt_N_count : Mt := (⟨"NightDitch", "count", "(I)I"⟩, prog_1_method_39_code, 2, some .int)
def mt_N_status : Mt := (⟨"NightDitch", "status", "(I)I"⟩, prog_1_method_40_code, 7, some .int)
def mt_N_finding : Mt := (⟨"NightDitch", "finding", "(I)I"⟩, prog_1_method_41_code, 3, some .int)
def mt_N_isWithin : Mt := (⟨"NightDitch", "isWithin", "(III)Z"⟩, prog_1_method_42_code, 3, some .boolean)
def mt_N_isPart : Mt := (⟨"NightDitch", "isPart", "(II)Z"⟩, prog_1_method_43_code, 2, some .boolean)
def mt_N_millionths : Mt := (⟨"NightDitch", "millionths", "(JJ)I"⟩, prog_1_method_44_code, 4, some .int)
def mt_R_init : Mt := (⟨"NightDitchModel", "<init>", "()V"⟩, prog_10_method_1_code, 1, none)
def mt_R_finds : Mt := (⟨"NightDitchModel", "finds", "(I)I"⟩, prog_10_method_2_code, 2, some .int)
def mt_R_in : Mt := (⟨"NightDitchModel", "in", "(III)Z"⟩, prog_10_method_3_code, 3, some .boolean)
def mt_R_within : Mt := (⟨"NightDitchModel", "within", "(III)I"⟩, prog_10_method_4_code, 3, some .int)
def mt_R_isFarm : Mt := (⟨"NightDitchModel", "isFarm", "(I)Z"⟩, prog_10_method_5_code, 2, some .boolean)
def mt_R_get : Mt := (⟨"NightDitchModel", "get", "(II)I"⟩, prog_10_method_6_code, 3, some .int)
def mt_R_put : Mt := (⟨"NightDitchModel", "put", "(III)V"⟩, prog_10_method_7_code, 4, none)
def mt_R_farm : Mt := (⟨"NightDitchModel", "farm", "(III)I"⟩, prog_10_method_8_code, 6, some .int)
def mt_R_set : Mt := (⟨"NightDitchModel", "set", "(III)I"⟩, prog_10_method_9_code, 5, some .int)
def mt_R_placeOf : Mt := (⟨"NightDitchModel", "placeOf", "(I)I"⟩, prog_10_method_10_code, 3, some .int)
def mt_R_paysAt : Mt := (⟨"NightDitchModel", "paysAt", "(II)I"⟩, prog_10_method_11_code, 5, some .int)
def mt_R_wantsBy : Mt := (⟨"NightDitchModel", "wantsBy", "(II)I"⟩, prog_10_method_12_code, 3, some .int)
def mt_R_minds : Mt := (⟨"NightDitchModel", "minds", "(I)I"⟩, prog_10_method_13_code, 4, some .int)
def mt_R_of : Mt := (⟨"NightDitchModel", "of", "(II)I"⟩, prog_10_method_14_code, 4, some .int)
def mt_R_isUnder : Mt := (⟨"NightDitchModel", "isUnder", "(II)Z"⟩, prog_10_method_15_code, 2, some .boolean)
def mt_R_as : Mt := (⟨"NightDitchModel", "as", "(II)I"⟩, prog_10_method_16_code, 3, some .int)
def mt_R_rule : Mt := (⟨"NightDitchModel", "rule", "(II)I"⟩, prog_10_method_17_code, 4, some .int)
def mt_R_dry : Mt := (⟨"NightDitchModel", "dry", "(I)I"⟩, prog_10_method_18_code, 3, some .int)
def mt_R_year : Mt := (⟨"NightDitchModel", "year", "()I"⟩, prog_10_method_19_code, 2, some .int)
def mt_R_turn : Mt := (⟨"NightDitchModel", "turn", "(I)I"⟩, prog_10_method_20_code, 2, some .int)
def mt_R_swap : Mt := (⟨"NightDitchModel", "swap", "(II)I"⟩, prog_10_method_21_code, 4, some .int)
def mt_R_turns : Mt := (⟨"NightDitchModel", "turns", "(I)I"⟩, prog_10_method_22_code, 5, some .int)
def mt_R_told : Mt := (⟨"NightDitchModel", "told", "()I"⟩, prog_10_method_23_code, 3, some .int)
def mt_R_divisor : Mt := (⟨"NightDitchModel", "divisor", "(II)I"⟩, prog_10_method_24_code, 5, some .int)
def mt_R_findRest : Mt := (⟨"NightDitchModel", "findRest", "(III)V"⟩, prog_10_method_25_code, 11, none)
def mt_R_findMeet : Mt := (⟨"NightDitchModel", "findMeet", "(I)V"⟩, prog_10_method_26_code, 3, none)
def mt_R_lostThere : Mt := (⟨"NightDitchModel", "lostThere", "()J"⟩, prog_10_method_27_code, 1, some .long)
def mt_R_meets : Mt := (⟨"NightDitchModel", "meets", "()I"⟩, prog_10_method_28_code, 1, some .int)
def mt_R_lostAll : Mt := (⟨"NightDitchModel", "lostAll", "()J"⟩, prog_10_method_29_code, 4, some .long)
def mt_R_findLost : Mt := (⟨"NightDitchModel", "findLost", "()V"⟩, prog_10_method_30_code, 6, none)
def mt_R_tryRow : Mt := (⟨"NightDitchModel", "tryRow", "()V"⟩, prog_10_method_31_code, 6, none)
def mt_R_findBest : Mt := (⟨"NightDitchModel", "findBest", "()V"⟩, prog_10_method_32_code, 3, none)
def mt_R_best : Mt := (⟨"NightDitchModel", "best", "(I)J"⟩, prog_10_method_33_code, 2, some .long)
def mt_R_hoursAll : Mt := (⟨"NightDitchModel", "hoursAll", "()I"⟩, prog_10_method_34_code, 3, some .int)
def mt_R_share : Mt := (⟨"NightDitchModel", "share", "(I)I"⟩, prog_10_method_35_code, 2, some .int)
def mt_R_rest : Mt := (⟨"NightDitchModel", "rest", "(II)I"⟩, prog_10_method_36_code, 3, some .int)
def mt_R_lost : Mt := (⟨"NightDitchModel", "lost", "(I)J"⟩, prog_10_method_37_code, 2, some .long)
def mt_R_mostTaking : Mt := (⟨"NightDitchModel", "mostTaking", "()J"⟩, prog_10_method_38_code, 4, some .long)
def mt_R_least : Mt := (⟨"NightDitchModel", "least", "(I)I"⟩, prog_10_method_39_code, 7, some .int)
def mt_R_hire : Mt := (⟨"NightDitchModel", "hire", "(I)J"⟩, prog_10_method_40_code, 6, some .long)
def mt_R_breaks : Mt := (⟨"NightDitchModel", "breaks", "(I)I"⟩, prog_10_method_41_code, 5, some .int)
def mt_R_blame : Mt := (⟨"NightDitchModel", "blame", "(I)I"⟩, prog_10_method_42_code, 4, some .int)
def mt_R_always : Mt := (⟨"NightDitchModel", "always", "()I"⟩, prog_10_method_43_code, 3, some .int)
def mt_R_feed : Mt := (⟨"NightDitchModel", "feed", "(II)I"⟩, prog_10_method_44_code, 4, some .int)
def mt_R_wipe : Mt := (⟨"NightDitchModel", "wipe", "()I"⟩, prog_10_method_45_code, 2, some .int)
def mt_R_emit : Mt := (⟨"NightDitchModel", "emit", "(I)V"⟩, prog_10_method_46_code, 2, none)
def mt_R_settles : Mt := (⟨"NightDitchModel", "settles", "(I)V"⟩, prog_10_method_47_code, 2, none)
def mt_R_waits : Mt := (⟨"NightDitchModel", "waits", "(I)V"⟩, prog_10_method_48_code, 2, none)
def mt_R_nameOf : Mt := (⟨"NightDitchModel", "nameOf", "(I)I"⟩, prog_10_method_49_code, 1, some .int)
def mt_R_isDigit : Mt := (⟨"NightDitchModel", "isDigit", "(I)Z"⟩, prog_10_method_50_code, 1, some .boolean)
def mt_R_ends : Mt := (⟨"NightDitchModel", "ends", "()Z"⟩, prog_10_method_51_code, 1, some .boolean)
def mt_R_operand : Mt := (⟨"NightDitchModel", "operand", "()Z"⟩, prog_10_method_52_code, 4, some .boolean)
def mt_R_top : Mt := (⟨"NightDitchModel", "top", "()I"⟩, prog_10_method_53_code, 1, some .int)
def mt_R_operator : Mt := (⟨"NightDitchModel", "operator", "()Z"⟩, prog_10_method_54_code, 2, some .boolean)
def mt_R_text : Mt := (⟨"NightDitchModel", "text", "()I"⟩, prog_10_method_55_code, 3, some .int)
def mt_R_plain : Mt := (⟨"NightDitchModel", "plain", "()I"⟩, prog_10_method_56_code, 2, some .int)
def mt_R_factOf : Mt := (⟨"NightDitchModel", "factOf", "(III)I"⟩, prog_10_method_57_code, 4, some .int)
def mt_R_done : Mt := (⟨"NightDitchModel", "done", "(III)I"⟩, prog_10_method_58_code, 3, some .int)
def mt_R_says : Mt := (⟨"NightDitchModel", "says", "(II)I"⟩, prog_10_method_59_code, 6, some .int)
def mt_R_gives : Mt := (⟨"NightDitchModel", "gives", "(I)I"⟩, prog_10_method_60_code, 2, some .int)
def mt_R_seed : Mt := (⟨"NightDitchModel", "seed", "(I)I"⟩, prog_10_method_61_code, 3, some .int)
def mt_R_draw : Mt := (⟨"NightDitchModel", "draw", "()I"⟩, prog_10_method_62_code, 1, some .int)
def mt_R_meet : Mt := (⟨"NightDitchModel", "meet", "(I)V"⟩, prog_10_method_63_code, 7, none)
def mt_R_night : Mt := (⟨"NightDitchModel", "night", "()V"⟩, prog_10_method_64_code, 2, none)
def mt_R_goesOn : Mt := (⟨"NightDitchModel", "goesOn", "(I)I"⟩, prog_10_method_65_code, 4, some .int)
def mt_R_nights : Mt := (⟨"NightDitchModel", "nights", "(I)I"⟩, prog_10_method_66_code, 2, some .int)
def mt_R_ahead : Mt := (⟨"NightDitchModel", "ahead", "(II)I"⟩, prog_10_method_67_code, 6, some .int)
def mt_R_purse : Mt := (⟨"NightDitchModel", "purse", "(I)I"⟩, prog_10_method_68_code, 5, some .int)
def mt_R_isSheet : Mt := (⟨"NightDitchModel", "isSheet", "(I)Z"⟩, prog_10_method_69_code, 1, some .boolean)
def mt_R_sheet : Mt := (⟨"NightDitchModel", "sheet", "(III)I"⟩, prog_10_method_70_code, 5, some .int)
def mt_R_write : Mt := (⟨"NightDitchModel", "write", "(IIJ)J"⟩, prog_10_method_71_code, 7, some .long)
def mt_R_has : Mt := (⟨"NightDitchModel", "has", "(III)Z"⟩, prog_10_method_72_code, 4, some .boolean)
def mt_R_copy : Mt := (⟨"NightDitchModel", "copy", "(IIIII)I"⟩, prog_10_method_73_code, 7, some .int)
def mt_R_worths : Mt := (⟨"NightDitchModel", "worths", "(I)I"⟩, prog_10_method_74_code, 6, some .int)
def mt_R_read : Mt := (⟨"NightDitchModel", "read", "(I)I"⟩, prog_10_method_75_code, 3, some .int)
def mt_R_image : Mt := (⟨"NightDitchModel", "image", "()I"⟩, prog_10_method_76_code, 2, some .int)
def mt_R_undo : Mt := (⟨"NightDitchModel", "undo", "()I"⟩, prog_10_method_77_code, 2, some .int)
def mt_R_tear : Mt := (⟨"NightDitchModel", "tear", "()I"⟩, prog_10_method_78_code, 2, some .int)
def mt_R_count : Mt := (⟨"NightDitchModel", "count", "(I)I"⟩, prog_10_method_79_code, 2, some .int)
def mt_R_status : Mt := (⟨"NightDitchModel", "status", "(I)I"⟩, prog_10_method_80_code, 2, some .int)
def mt_D_init : Mt := (⟨"NightDitch$Ditch", "<init>", "()V"⟩, prog_2_method_1_code, 2, none)
def mt_D_become : Mt := (⟨"NightDitch$Ditch", "become", "(LNightDitch$Ditch;)V"⟩, prog_2_method_2_code, 3, none)
def mt_D_hasFarm : Mt := (⟨"NightDitch$Ditch", "hasFarm", "(I)Z"⟩, prog_2_method_3_code, 2, some .boolean)
def mt_D_settleFarm : Mt := (⟨"NightDitch$Ditch", "settleFarm", "(III)I"⟩, prog_2_method_4_code, 5, some .int)
def mt_D_passYear : Mt := (⟨"NightDitch$Ditch", "passYear", "()V"⟩, prog_2_method_5_code, 2, none)
def mt_D_allHours : Mt := (⟨"NightDitch$Ditch", "allHours", "()I"⟩, prog_2_method_6_code, 3, some .int)
def mt_D_placeOf : Mt := (⟨"NightDitch$Ditch", "placeOf", "(I)I"⟩, prog_2_method_7_code, 3, some .int)
def mt_D_isOrder : Mt := (⟨"NightDitch$Ditch", "isOrder", "(I)Z"⟩, prog_2_method_8_code, 4, some .boolean)
def mt_D_putOrder : Mt := (⟨"NightDitch$Ditch", "putOrder", "(I)V"⟩, prog_2_method_9_code, 3, none)
def mt_D_digit : Mt := (⟨"NightDitch$Ditch", "digit", "(II)I"⟩, prog_2_method_10_code, 3, some .int)
def mt_D_orderNumber : Mt := (⟨"NightDitch$Ditch", "orderNumber", "()I"⟩, prog_2_method_11_code, 3, some .int)
def mt_D_paysOf : Mt := (⟨"NightDitch$Ditch", "paysOf", "(I)I"⟩, prog_2_method_12_code, 2, some .int)
def mt_D_wantsOf : Mt := (⟨"NightDitch$Ditch", "wantsOf", "(I)I"⟩, prog_2_method_13_code, 2, some .int)
def mt_D_paysAt : Mt := (⟨"NightDitch$Ditch", "paysAt", "(II)I"⟩, prog_2_method_14_code, 5, some .int)
def mt_D_meetCount : Mt := (⟨"NightDitch$Ditch", "meetCount", "()I"⟩, prog_2_method_15_code, 1, some .int)
def mt_D_weigh : Mt := (⟨"NightDitch$Ditch", "weigh", "()V"⟩, prog_2_method_16_code, 3, none)
def mt_D_weighMeet : Mt := (⟨"NightDitch$Ditch", "weighMeet", "(LNightDitch$Meet;IIII)V"⟩, prog_2_method_17_code, 6, none)
def mt_D_loses : Mt := (⟨"NightDitch$Ditch", "loses", "()J"⟩, prog_2_method_18_code, 4, some .long)
def mt_D_greatestTakes : Mt := (⟨"NightDitch$Ditch", "greatestTakes", "()I"⟩, prog_2_method_19_code, 3, some .int)
def mt_D_takesAtMost : Mt := (⟨"NightDitch$Ditch", "takesAtMost", "(I)I"⟩, prog_2_method_20_code, 2, some .int)
def mt_D_passNights : Mt := (⟨"NightDitch$Ditch", "passNights", "(I)V"⟩, prog_2_method_21_code, 4, none)
def mt_D_passMeet : Mt := (⟨"NightDitch$Ditch", "passMeet", "(LNightDitch$Meet;)V"⟩, prog_2_method_22_code, 7, none)
def mt_D_draw : Mt := (⟨"NightDitch$Ditch", "draw", "()I"⟩, prog_2_method_23_code, 1, some .int)
def mt_D_richest : Mt := (⟨"NightDitch$Ditch", "richest", "()I"⟩, prog_2_method_24_code, 3, some .int)
def mt_D_poorest : Mt := (⟨"NightDitch$Ditch", "poorest", "()I"⟩, prog_2_method_25_code, 3, some .int)
def mt_F_init : Mt := (⟨"NightDitch$Farm", "<init>", "()V"⟩, prog_3_method_1_code, 1, none)
def mt_F_begin : Mt := (⟨"NightDitch$Farm", "begin", "(III)V"⟩, prog_3_method_2_code, 4, none)
def mt_F_become : Mt := (⟨"NightDitch$Farm", "become", "(LNightDitch$Farm;)V"⟩, prog_3_method_3_code, 2, none)
def mt_F_tell : Mt := (⟨"NightDitch$Farm", "tell", "(I)I"⟩, prog_3_method_4_code, 2, some .int)
def mt_F_change : Mt := (⟨"NightDitch$Farm", "change", "(II)I"⟩, prog_3_method_5_code, 4, some .int)
def mt_F_isOf : Mt := (⟨"NightDitch$Farm", "isOf", "(I)Z"⟩, prog_3_method_6_code, 4, some .boolean)
def mt_F_wants : Mt := (⟨"NightDitch$Farm", "wants", "(II)I"⟩, prog_3_method_7_code, 3, some .int)
def mt_F_minds : Mt := (⟨"NightDitch$Farm", "minds", "()I"⟩, prog_3_method_8_code, 1, some .int)
def mt_M_init : Mt := (⟨"NightDitch$Meet", "<init>", "()V"⟩, prog_4_method_1_code, 1, none)
def mt_M_settle : Mt := (⟨"NightDitch$Meet", "settle", "(I)V"⟩, prog_4_method_2_code, 6, none)
def mt_M_putChances : Mt := (⟨"NightDitch$Meet", "putChances", "(IIII)V"⟩, prog_4_method_3_code, 5, none)
def mt_M_open : Mt := (⟨"NightDitch$Meet", "open", "()I"⟩, prog_4_method_4_code, 1, some .int)
def mt_M_loses : Mt := (⟨"NightDitch$Meet", "loses", "(I)J"⟩, prog_4_method_5_code, 2, some .long)
def mt_M_tell : Mt := (⟨"NightDitch$Meet", "tell", "(I)I"⟩, prog_4_method_6_code, 2, some .int)
def mt_M_common : Mt := (⟨"NightDitch$Meet", "common", "(II)I"⟩, prog_4_method_7_code, 6, some .int)
def mt_O_init : Mt := (⟨"NightDitch$Orders", "<init>", "()V"⟩, prog_5_method_1_code, 1, none)
def mt_O_search : Mt := (⟨"NightDitch$Orders", "search", "(LNightDitch$Ditch;)V"⟩, prog_5_method_2_code, 4, none)
def mt_O_layFirst : Mt := (⟨"NightDitch$Orders", "layFirst", "(I)V"⟩, prog_5_method_3_code, 3, none)
def mt_O_fillPays : Mt := (⟨"NightDitch$Orders", "fillPays", "(LNightDitch$Ditch;)V"⟩, prog_5_method_4_code, 4, none)
def mt_O_fillLost : Mt := (⟨"NightDitch$Orders", "fillLost", "(LNightDitch$Ditch;II)V"⟩, prog_5_method_5_code, 8, none)
def mt_O_index : Mt := (⟨"NightDitch$Orders", "index", "(III)I"⟩, prog_5_method_6_code, 3, some .int)
def mt_O_layFrom : Mt := (⟨"NightDitch$Orders", "layFrom", "(IIJI)V"⟩, prog_5_method_7_code, 9, none)
def mt_O_closeRing : Mt := (⟨"NightDitch$Orders", "closeRing", "(JI)V"⟩, prog_5_method_8_code, 6, none)
def mt_S_init : Mt := (⟨"NightDitch$Sheets", "<init>", "()V"⟩, prog_6_method_1_code, 1, none)
def mt_S_has : Mt := (⟨"NightDitch$Sheets", "has", "(I)Z"⟩, prog_6_method_2_code, 2, some .boolean)
def mt_S_isWidth : Mt := (⟨"NightDitch$Sheets", "isWidth", "(I)Z"⟩, prog_6_method_3_code, 2, some .boolean)
def mt_S_isMissing : Mt := (⟨"NightDitch$Sheets", "isMissing", "(I)Z"⟩, prog_6_method_4_code, 2, some .boolean)
def mt_S_lay : Mt := (⟨"NightDitch$Sheets", "lay", "(III)I"⟩, prog_6_method_5_code, 5, some .int)
def mt_S_put : Mt := (⟨"NightDitch$Sheets", "put", "(IIJ)J"⟩, prog_6_method_6_code, 7, some .long)
def mt_S_lowest : Mt := (⟨"NightDitch$Sheets", "lowest", "(IJ)J"⟩, prog_6_method_7_code, 3, some .long)
def mt_S_holds : Mt := (⟨"NightDitch$Sheets", "holds", "(III)Z"⟩, prog_6_method_8_code, 4, some .boolean)
def mt_P_init : Mt := (⟨"NightDitch$Tape", "<init>", "()V"⟩, prog_7_method_1_code, 1, none)
def mt_P_append : Mt := (⟨"NightDitch$Tape", "append", "(I)V"⟩, prog_7_method_2_code, 2, none)
def mt_P_parse : Mt := (⟨"NightDitch$Tape", "parse", "()Z"⟩, prog_7_method_3_code, 1, some .boolean)
def mt_P_isSum : Mt := (⟨"NightDitch$Tape", "isSum", "(I)Z"⟩, prog_7_method_4_code, 5, some .boolean)
def mt_P_isProduct : Mt := (⟨"NightDitch$Tape", "isProduct", "(I)Z"⟩, prog_7_method_5_code, 5, some .boolean)
def mt_P_isFactor : Mt := (⟨"NightDitch$Tape", "isFactor", "(I)Z"⟩, prog_7_method_6_code, 3, some .boolean)
def mt_P_isNegated : Mt := (⟨"NightDitch$Tape", "isNegated", "(I)Z"⟩, prog_7_method_7_code, 3, some .boolean)
def mt_P_isBracket : Mt := (⟨"NightDitch$Tape", "isBracket", "(I)Z"⟩, prog_7_method_8_code, 3, some .boolean)
def mt_P_takeNumber : Mt := (⟨"NightDitch$Tape", "takeNumber", "()V"⟩, prog_7_method_9_code, 3, none)
def mt_P_isDigit : Mt := (⟨"NightDitch$Tape", "isDigit", "(I)Z"⟩, prog_7_method_10_code, 1, some .boolean)
def mt_P_passes : Mt := (⟨"NightDitch$Tape", "passes", "(I)Z"⟩, prog_7_method_11_code, 3, some .boolean)
def mt_P_isNext : Mt := (⟨"NightDitch$Tape", "isNext", "(II)Z"⟩, prog_7_method_12_code, 3, some .boolean)
def mt_P_next : Mt := (⟨"NightDitch$Tape", "next", "()I"⟩, prog_7_method_13_code, 1, some .int)
def mt_T_init : Mt := (⟨"NightDitch$Text", "<init>", "()V"⟩, prog_8_method_1_code, 1, none)
def mt_T_isThere : Mt := (⟨"NightDitch$Text", "isThere", "()Z"⟩, prog_8_method_2_code, 1, some .boolean)
def mt_T_become : Mt := (⟨"NightDitch$Text", "become", "(LNightDitch$Text;)V"⟩, prog_8_method_3_code, 2, none)
def mt_T_append : Mt := (⟨"NightDitch$Text", "append", "(I)V"⟩, prog_8_method_4_code, 2, none)
def mt_T_asksPlace : Mt := (⟨"NightDitch$Text", "asksPlace", "()Z"⟩, prog_8_method_5_code, 2, some .boolean)
def mt_T_valueFor : Mt := (⟨"NightDitch$Text", "valueFor", "(LNightDitch$Ditch;II)I"⟩, prog_8_method_6_code, 6, some .int)
def mt_T_isName : Mt := (⟨"NightDitch$Text", "isName", "(I)Z"⟩, prog_8_method_7_code, 1, some .boolean)
def mt_T_named : Mt := (⟨"NightDitch$Text", "named", "(ILNightDitch$Ditch;II)I"⟩, prog_8_method_8_code, 4, some .int)
def mt_T_work : Mt := (⟨"NightDitch$Text", "work", "(I)V"⟩, prog_8_method_9_code, 5, none)
def mt_T_joined : Mt := (⟨"NightDitch$Text", "joined", "(III)I"⟩, prog_8_method_10_code, 3, some .int)
def mt_T_push : Mt := (⟨"NightDitch$Text", "push", "(I)V"⟩, prog_8_method_11_code, 2, none)
def mt_T_pop : Mt := (⟨"NightDitch$Text", "pop", "()I"⟩, prog_8_method_12_code, 1, some .int)
def mt_L_law : Mt := (⟨"NightDitchLaw", "law", "([I)Z"⟩, code, 4, some .boolean)
def mt_J_maxI : Mt := (⟨"java/lang/Math", "max", "(II)I"⟩, prog_11_method_65_code, 2, some .int)
def mt_J_maxJ : Mt := (⟨"java/lang/Math", "max", "(JJ)J"⟩, prog_11_method_66_code, 4, some .long)
def mt_J_minI : Mt := (⟨"java/lang/Math", "min", "(II)I"⟩, prog_11_method_69_code, 2, some .int)
def mt_J_minJ : Mt := (⟨"java/lang/Math", "min", "(JJ)J"⟩, prog_11_method_70_code, 4, some .long)
abbrev q_cls : List vw_C := [(RX0, TX0, 12), (RX1, TX1, 7), (RX2, TX2, 13), (RX3, TX3, 7), (RX4, TX4, 3), (RX5, TX5, 4), (RX6, TX6, 4), (RX7, TX7, 8), (RX8, TX8, 39)]
/-- what a field holds: 0 an int, 1 a long, 2 a reference -/
def q_ft (k j : Nat) : Nat := match k with
  | 0 => ([2, 2, 2, 2, 0, 0, 0, 0, 0, 0, 2, 2] : List Nat).getD j 2
  | 1 => ([0, 0, 0, 0, 0, 0, 0] : List Nat).getD j 2
  | 2 => ([0, 0, 0, 0, 0, 0, 0, 0, 0, 0, 0, 0, 0] : List Nat).getD j 2
  | 3 => ([2, 2, 2, 2, 0, 1, 0] : List Nat).getD j 2
  | 4 => ([2, 2, 2] : List Nat).getD j 2
  | 5 => ([2, 2, 0, 0] : List Nat).getD j 2
  | 6 => ([2, 2, 0, 0] : List Nat).getD j 2
  | 7 => ([2, 2, 2, 2, 2, 2, 2, 0] : List Nat).getD j 2
  | 8 => ([2, 2, 2, 0, 2, 0, 2, 0, 0, 0, 0, 1, 1, 1, 0, 0, 0, 0, 0, 2, 2, 2, 0, 1, 2, 0, 2, 0, 2, 0, 0, 0, 0, 2, 2, 2, 2, 2, 2] : List Nat).getD j 2
  | _ => 2
end
section
/-! THE ABSTRACT WORLD: all cells that the law makes, by numbers 0, 1, ..; what they hold as three functions; references by numbers (from 1000 on: the four static arrays and the script) -/
abbrev Gx : Type := Launch × Nat × (Nat → Nat) × va_G × (Nat → ClassId) × (Nat → Int32) × Nat
abbrev Rf : Type := Nat → Nat → Option Nat
abbrev Rn : Type := Nat → Nat → Int32
abbrev Rl : Type := Nat → Nat → Int64
abbrev Shp : Type := List (Nat × Nat)
def u2 {α : Type} (f : Nat → Nat → α) (i j : Nat) (v : α) : Nat → Nat → α := fun a b => if a = i ∧ b = j then v else f a b
def q_clr {α : Type} (f : Nat → Nat → α) (i : Nat) (v : α) : Nat → Nat → α := fun a b => if a = i then v else f a b
theorem u2_row {α : Type} {f : Nat → Nat → α} {i j a : Nat} {v : α} (h : a ≠ i) : u2 f i j v a = f a := by
  funext b
  unfold u2
  rw [if_neg (fun q => h q.1)]
theorem u2_self {α : Type} {f : Nat → Nat → α} {i j : Nat} {v : α} : u2 f i j v i j = v := if_pos ⟨rfl, rfl⟩
theorem u2_ne {α : Type} {f : Nat → Nat → α} {i j a b : Nat} {v : α} (h : a ≠ i ∨ b ≠ j) : u2 f i j v a b = f a b := if_neg (fun q => h.elim (fun e => e q.1) (fun e => e q.2))
theorem q_clr_row {α : Type} {f : Nat → Nat → α} {i a : Nat} {v : α} (h : a ≠ i) : q_clr f i v a = f a := by
  funext b
  unfold q_clr
  rw [if_neg h]
def q_ad (G : Gx) (i : Nat) : Nat := if i < 1000 then G.2.1 + i else G.2.2.1 (i - 1000)
def q_cv (G : Gx) (v : Value) : Value := match v with
  | .ref i => .ref (q_ad G i)
  | .int x => .int x
  | .long x => .long x
  | .float x => .float x
  | .double x => .double x
  | .null => .null
  | .retAddr x => .retAddr x
theorem q_cv_cat (G : Gx) (v : Value) : (q_cv G v).category = v.category := by cases v <;> rfl
theorem q_cv_rf (G : Gx) (r : Option Nat) : q_cv G (va_rf r) = va_rf (r.map (q_ad G)) := by cases r <;> rfl
/-- what an array of a kind holds -/
def q_aty (k : Nat) : Nat := if k = 20 ∨ k = 22 then 0 else if k = 21 then 1 else 2
def q_val (G : Gx) (R : Rf) (I : Rn) (L : Rl) (tc i j : Nat) : Value := match tc with
  | 0 => .int (I i j)
  | 1 => .long (L i j)
  | _ => va_rf ((R i j).map (q_ad G))
def q_at (G : Gx) (R : Rf) (I : Rn) (L : Rl) (sh : Nat × Nat) (i : Nat) (H : Heap) : Prop :=
  if sh.1 < 20 then t_OB (G.2.1 + i) (G.2.2.2.1.1 sh.1) sh.2 (G.2.2.2.1.2 sh.1) H (fun j => q_val G R I L (q_ft sh.1 j) i j)
  else H[G.2.1 + i]? = some (arrV (G.2.2.2.2.1 (sh.1 - 20)) sh.2 (fun j => q_val G R I L (q_aty sh.1) i j))
def q_Wd (G : Gx) (S : Shp) (R : Rf) (I : Rn) (L : Rl) (H : Heap) : Prop := H.size = G.2.1 + S.length ∧ S.length ≤ 1000 ∧ ∀ (i : Nat) (sh : Nat × Nat), S[i]? = some sh → q_at G R I L sh i H
def q_A (G : Gx) : Nat → Prop := fun q => G.2.1 ≤ q
theorem q_at_obj {G : Gx} {R : Rf} {I : Rn} {L : Rl} {k n i : Nat} {H : Heap} (hk : k < 20) : q_at G R I L (k, n) i H = t_OB (G.2.1 + i) (G.2.2.2.1.1 k) n (G.2.2.2.1.2 k) H (fun j => q_val G R I L (q_ft k j) i j) := if_pos hk
theorem q_at_arr {G : Gx} {R : Rf} {I : Rn} {L : Rl} {k n i : Nat} {H : Heap} (hk : ¬ k < 20) : q_at G R I L (k, n) i H = (H[G.2.1 + i]? = some (arrV (G.2.2.2.2.1 (k - 20)) n (fun j => q_val G R I L (q_aty k) i j))) := if_neg hk
theorem q_val_row {G : Gx} {R R' : Rf} {I I' : Rn} {L L' : Rl} {tc i j : Nat} (h1 : R' i = R i) (h2 : I' i = I i) (h3 : L' i = L i) : q_val G R' I' L' tc i j = q_val G R I L tc i j := by
  unfold q_val
  rw [h1, h2, h3]
theorem q_at_row {G : Gx} {R R' : Rf} {I I' : Rn} {L L' : Rl} {sh : Nat × Nat} {i : Nat} {H : Heap} (h1 : R' i = R i) (h2 : I' i = I i) (h3 : L' i = L i) : q_at G R' I' L' sh i H = q_at G R I L sh i H := by
  unfold q_at
  simp only [q_val_row h1 h2 h3]
theorem q_at_kept {G : Gx} {R : Rf} {I : Rn} {L : Rl} {sh : Nat × Nat} {i : Nat} {H H1 : Heap} (h : q_at G R I L sh i H) (hq : H1[G.2.1 + i]? = H[G.2.1 + i]?) : q_at G R I L sh i H1 := by
  unfold q_at at h ⊢
  split
  · rename_i hk
    rw [if_pos hk] at h
    exact h.kept hq
  · rename_i hk
    rw [if_neg hk] at h
    rw [hq]
    exact h
theorem q_lt {S : Shp} {i : Nat} {sh : Nat × Nat} (h : S[i]? = some sh) : i < S.length := (List.getElem?_eq_some_iff.mp h).1
theorem q_ad_lt {G : Gx} {S : Shp} {R : Rf} {I : Rn} {L : Rl} {H : Heap} {i : Nat} {sh : Nat × Nat} (hW : q_Wd G S R I L H) (h : S[i]? = some sh) : q_ad G i = G.2.1 + i := if_pos (Nat.lt_of_lt_of_le (q_lt h) hW.2.1)
/-- one cell has changed -/
theorem q_Wd.upd {G : Gx} {S : Shp} {R R' : Rf} {I I' : Rn} {L L' : Rl} {H H1 : Heap} {i : Nat} {sh : Nat × Nat} (hW : q_Wd G S R I L H) (hs : S[i]? = some sh) (hz : H1.size = H.size) (ho : ∀ q, q ≠ G.2.1 + i → H1[q]? = H[q]?) (hr : ∀ a, a ≠ i → R' a = R a ∧ I' a = I a ∧ L' a = L a) (hn : q_at G R' I' L' sh i H1) : q_Wd G S R' I' L' H1 := by
  refine ⟨hz.trans hW.1, hW.2.1, fun a sa ha => ?_⟩
  by_cases e : a = i
  · subst e
    have e2 : sa = sh := Option.some.inj (ha.symm.trans hs)
    subst e2
    exact hn
  · obtain ⟨r1, r2, r3⟩ := hr a e
    rw [q_at_row r1 r2 r3]
    exact q_at_kept (hW.2.2 a sa ha) (ho _ (by omega))
/-- one cell more -/
theorem q_Wd.push {G : Gx} {S : Shp} {R R' : Rf} {I I' : Rn} {L L' : Rl} {H H1 : Heap} {sh : Nat × Nat} (hW : q_Wd G S R I L H) (hb : S.length + 1 ≤ 1000) (hz : H1.size = H.size + 1) (ho : ∀ q, q < H.size → H1[q]? = H[q]?) (hr : ∀ a, a ≠ S.length → R' a = R a ∧ I' a = I a ∧ L' a = L a) (hn : q_at G R' I' L' sh S.length H1) : q_Wd G (S ++ [sh]) R' I' L' H1 := by
  refine ⟨by rw [hz, hW.1, List.length_append]; rfl, by rw [List.length_append]; exact hb, fun a sa ha => ?_⟩
  by_cases e : a < S.length
  · rw [List.getElem?_append_left e] at ha
    obtain ⟨r1, r2, r3⟩ := hr a (Nat.ne_of_lt e)
    rw [q_at_row r1 r2 r3]
    exact q_at_kept (hW.2.2 a sa ha) (ho _ (by rw [hW.1]; omega))
  · rw [List.getElem?_append_right (by omega)] at ha
    have h0 : a - S.length < 1 := (List.getElem?_eq_some_iff.mp ha).1
    have ea : a = S.length := by omega
    subst ea
    rw [Nat.sub_self] at ha
    cases ha
    exact hn
/-! THE TABLES -/
def q_gw : List Cond := lw_tbl.filter goodWord
def q_isN (w : Cond) : Bool := match w with
  | .methodLinkNest _ _ _ _ => true
  | .fieldLinkNest _ _ _ _ _ _ => true
  | _ => false
def q_nw : List Cond := tables_1.filter q_isN
theorem q_gw_in {w : Cond} (i : Nat) (h : tables_1[i]? = some w ∧ goodWord w = true) : w ∈ q_gw := List.mem_filter.mpr ⟨List.mem_append_right _ (List.mem_of_getElem? h.1), h.2⟩
theorem q_gw_sel {w : Cond} (i : Nat) (h : (k2_sels lw_privs)[i]? = some w ∧ goodWord w = true) : w ∈ q_gw := List.mem_filter.mpr ⟨List.mem_append_left _ (List.mem_of_getElem? h.1), h.2⟩
theorem q_nw_in {w : Cond} (i : Nat) (h : tables_1[i]? = some w ∧ q_isN w = true) : w ∈ q_nw := List.mem_filter.mpr ⟨List.mem_of_getElem? h.1, h.2⟩
theorem q_nw_warm {s U : State} (hW : s.WarmedH U.vm) {w : Cond} (hw : w ∈ q_nw) (h : va_Nw w s) : va_Nw w U := by
  have hn := (List.mem_filter.mp hw).2
  cases w <;> first | exact va_Nw.warmM hW h | exact va_Nw.warmF hW h | cases hn
theorem q_nw_same {u U : State} (hv : u.vm = U.vm) {w : Cond} (hw : w ∈ q_nw) (h : va_Nw w u) : va_Nw w U := by
  have hn := (List.mem_filter.mp hw).2
  cases w <;> first | exact va_Nw.same rfl hv h | cases hn
def q_tys (G : Gx) : List (ClassId × FieldType) := [(G.2.2.2.2.1 0, .int), (G.2.2.2.2.1 1, .long), (G.2.2.2.2.1 2, .boolean), (G.2.2.2.2.1 3, .object "NightDitch$Farm"), (G.2.2.2.2.1 4, .object "NightDitch$Meet"), (G.2.2.2.2.1 5, .array .long)]
/-- the four static arrays: names, lengths, values -/
def q_sn (k : Nat) : String := (["UNDER", "RULE_MOST", "FARM_LEAST", "FARM_MOST"] : List String).getD k ""
def q_sl (k : Nat) : Nat := ([6, 5, 4, 4] : List Nat).getD k 0
def q_sv (k j : Nat) : Int32 := (([[-1, 0, 0, 2, 2, 1], [99999, 100, 999, 100, 100], [1, 0, 0, 0], [24, 999, 999, 100]] : List (List Int32)).getD k []).getD j 0
def q_Tb (G : Gx) (U : State) : Prop :=
  va_K G.2.2.2.1 q_cls (q_tys G) U ∧ (∀ w ∈ q_nw, va_Nw w U) ∧ (va_AO "NightDitch$Farm" U ∧ va_AO "NightDitch$Meet" U ∧ (Cond.arrayOver (.array .long)).before #[] U = true) ∧
  (∀ k, k < 4 → va_Z "NightDitch" (q_sn k) "[I" (.ref (G.2.2.1 k)) (q_A G) U U.heap ∧ va_T .int (G.2.2.1 k) (q_sl k) (fun j => .int (q_sv k j)) (q_A G) U U.heap) ∧
  va_X (G.2.2.1 4) G.2.2.2.2.2.2 G.2.2.2.2.2.1 U U.heap ∧ G.2.2.1 4 < U.heap.size ∧ ¬ q_A G (G.2.2.1 4) ∧ G.2.1 ≤ U.heap.size
end
section
theorem q_ovm {u U : State} (hvm : u.vm.Alike U.vm) {t : FieldType} (h : (Cond.arrayOver (.array t)).before #[] u = true) : (Cond.arrayOver (.array t)).before #[] U = true := by
  simp only [Cond.before, Cond.holds, Cond.value, beq_iff_eq] at h ⊢
  simp only [hvm.findClass] at h ⊢
  cases hc : u.vm.findClass (FieldType.array t).toString with
  | none => rw [hc] at h; simp at h
  | some comp =>
    rw [hc, Option.bind_some] at h
    rw [Option.bind_some]
    obtain ⟨c, h1, h2⟩ := Option.bind_eq_some_iff.mp h
    have hi : (U.vm.classes.findIdx? fun (x : Class) => match x.kind with | .array component _ => component == comp | _ => false) = some c := by
      have e1 := va_idx_bare U.vm comp
      have e2 := va_idx_bare u.vm comp
      have e3 : U.vm.bare = u.vm.bare := by first | exact hvm.bare_eq | exact hvm.bare_eq.symm
      rw [e3] at e1
      exact e1.symm.trans (e2.trans h1)
    refine Option.bind_eq_some_iff.mpr ⟨c, hi, ?_⟩
    obtain ⟨k, hk, hb⟩ := Option.map_eq_some_iff.mp h2
    obtain ⟨k', hk', he⟩ := hvm.2.2 _ _ hk
    refine Option.map_eq_some_iff.mpr ⟨k', hk', ?_⟩
    have hkk : k'.kind = k.kind := by rw [he]
    rw [hkk]
    exact hb
theorem q_Tb.vm {G : Gx} {u U : State} (h : q_Tb G u) (hv : u.vm = U.vm) (hh : U.heap = u.heap) : q_Tb G U := by
  obtain ⟨h1, h2, ⟨h3, h4, h5⟩, h6, h7, h8, h9, h10⟩ := h
  have hal : u.vm.Alike U.vm := by rw [hv]; exact Vm.Alike.refl _
  refine ⟨h1.moved hal, fun w hw => q_nw_same hv hw (h2 w hw), ⟨h3.moved hal, h4.moved hal, q_ovm hal h5⟩, fun k hk => ?_, ?_, ?_, h9, ?_⟩
  · obtain ⟨a, b⟩ := h6 k hk
    rw [hh]
    exact ⟨a.moved hal, b.moved hal⟩
  · rw [hh]; exact h7.moved hal
  · rw [hh]; exact h8
  · rw [hh]; exact h10
theorem q_Tb.moved {G : Gx} {s U : State} {H : Heap} {locs : List Loc} (h : q_Tb G s) (hS : va_S (q_A G) s.heap H locs) (hU : U.heap = H) (hW : s.WarmedH U.vm) : q_Tb G U := by
  obtain ⟨h1, h2, ⟨h3, h4, h5⟩, h6, h7, h8, h9, h10⟩ := h
  have hal : s.vm.Alike U.vm := hW.alike
  refine ⟨h1.moved hal, fun w hw => q_nw_warm hW hw (h2 w hw), ⟨h3.moved hal, h4.moved hal, q_ovm hal h5⟩, fun k hk => ?_, ?_, ?_, h9, ?_⟩
  · obtain ⟨a, b⟩ := h6 k hk
    rw [hU]
    exact ⟨(a.moved hal).kept hS.2.1, (b.moved hal).kept hS.2.1⟩
  · rw [hU]
    exact (h7.moved hal).kept (hS.2.1 _ h8 h9)
  · rw [hU]
    exact Nat.lt_of_lt_of_le h8 hS.1
  · rw [hU]
    exact Nat.le_trans h10 hS.1
/-! THE WALK: WW G d M pc ls st S R I L ce sl mc ms K: the machine, in method M at pc with the locals ls and the stack st (both abstract), d calls deep at most from here, the world as (S, R, I, L), comes to the method's return, with an answer and a world that K takes -/
def q_lv (G : Gx) (ls : List (Option Value)) : List (Nat × Value) := (List.range ls.length).filterMap (fun i => match ls[i]? with
  | some (some v) => some (i, q_cv G v)
  | _ => none)
theorem q_lv_mem {G : Gx} {ls : List (Option Value)} {q : Nat × Value} : q ∈ q_lv G ls ↔ ∃ v, ls[q.1]? = some (some v) ∧ q.2 = q_cv G v := by
  unfold q_lv
  rw [List.mem_filterMap]
  constructor
  · rintro ⟨i, -, h⟩
    cases hi : ls[i]? with
    | none => rw [hi] at h; cases h
    | some o =>
      cases o with
      | none => rw [hi] at h; cases h
      | some v => rw [hi] at h; cases h; exact ⟨v, hi, rfl⟩
  · rintro ⟨v, h1, h2⟩
    refine ⟨q.1, List.mem_range.mpr (List.getElem?_eq_some_iff.mp h1).1, ?_⟩
    rw [h1]
    show some (q.1, q_cv G v) = some q
    rw [← h2]
theorem q_lv_get {G : Gx} {la : Array Slot} {n i : Nat} {ls : List (Option Value)} {v : Value} (h : lv_has la n (q_lv G ls)) (hv : ls[i]? = some (some v)) : la[i]? = some (.val (q_cv G v)) := h.2.2 (i, q_cv G v) (q_lv_mem.mpr ⟨v, hv, rfl⟩)
def q_ri (v : Option Value) : Instr := match v with
  | some (.int _) => .ireturn
  | some (.long _) => .lreturn
  | _ => .return_
def q_nar (M : Mt) (v : Option Value) : Prop := match v with
  | none => M.2.2.2 = none
  | some (.int x) => ∃ ty, M.2.2.2 = some ty ∧ narrow ty (.int x) = .int x
  | some (.long _) => M.2.2.2 = some .long
  | _ => False
def q_Fx (G : Gx) (d : Nat) (M : Mt) (mc ms : Nat) (p : Program) (Rm : Room) (s : State) (m : MethodId) (args : Array Value) (meth : Method) (c : Code) : Prop :=
  p.tables.exec = Jvm.exec ∧ c.code = M.2.1 ∧ c.maxLocals = M.2.2.1 ∧ meth.sig.returnType = M.2.2.2 ∧ meth.name = M.1.name ∧ meth.locks = false ∧ s.vm.findClass M.1.cls = some m.cls ∧ (∀ w ∈ q_gw, w.before args s = true) ∧ q_Tb G s ∧ d + 1 ≤ Rm.frames ∧ 64 * (d + 1) ≤ Rm.locals ∧ mc ≤ Rm.cells ∧ ms ≤ Rm.slots
abbrev Kt : Type := Option Value → Shp → Rf → Rn → Rl → Prop
def q_Rt (G : Gx) (M : Mt) (mc ms : Nat) (K : Kt) (p : Program) (e : Env) (Rm : Room) (s : State) (m : MethodId) (args : Array Value) (below : List Frame) (meth : Method) (c : Code) (Q : State → Prop) : Prop :=
  ∀ (v : Option Value) (S : Shp) (R : Rf) (I : Rn) (L : Rl) (H : Heap) (locs : List Loc) (pc : Nat) (la : Array Slot), K v S R I L → q_Wd G S R I L H → va_S (q_A G) s.heap H locs → decode M.2.1 pc = .ok (q_ri v, 1) → q_nar M v →
    W p G.1 e Rm s m args below meth c H locs mc ms Q (F0 m pc la ((v.map (q_cv G)).toList))
def WW (G : Gx) (d : Nat) (M : Mt) (pc : Nat) (ls : List (Option Value)) (st : List Value) (S : Shp) (R : Rf) (I : Rn) (L : Rl) (ce sl mc ms : Nat) (K : Kt) : Prop :=
  ∀ (p : Program) (e : Env) (Rm : Room) (s : State) (m : MethodId) (args : Array Value) (below : List Frame) (meth : Method) (c : Code) (H : Heap) (locs : List Loc) (Q : State → Prop) (la : Array Slot),
    q_Fx G d M mc ms p Rm s m args meth c → q_Wd G S R I L H → va_S (q_A G) s.heap H locs → lv_has la M.2.2.1 (q_lv G ls) → q_Rt G M mc ms K p e Rm s m args below meth c Q →
    W p G.1 e Rm s m args below meth c H locs ce sl Q (F0 m pc la (st.map (q_cv G)))
/-- the continuation may be weakened -/
theorem WW.mono {G : Gx} {d : Nat} {M : Mt} {pc : Nat} {ls : List (Option Value)} {st : List Value} {S : Shp} {R : Rf} {I : Rn} {L : Rl} {ce sl mc ms : Nat} {K K' : Kt} (h : WW G d M pc ls st S R I L ce sl mc ms K) (hk : ∀ v S R I L, K v S R I L → K' v S R I L) : WW G d M pc ls st S R I L ce sl mc ms K' :=
  fun p e Rm s m args below meth c H locs Q la hF hW hS hl hR => h p e Rm s m args below meth c H locs Q la hF hW hS hl (fun v S R I L H locs pc la k => hR v S R I L H locs pc la (hk v S R I L k))
/-- more room does no harm -/
theorem WW.up {G : Gx} {d d' : Nat} {M : Mt} {pc : Nat} {ls : List (Option Value)} {st : List Value} {S : Shp} {R : Rf} {I : Rn} {L : Rl} {ce sl mc ms : Nat} {K : Kt} (h : WW G d M pc ls st S R I L ce sl mc ms K) (hd : d ≤ d') : WW G d' M pc ls st S R I L ce sl mc ms K :=
  fun p e Rm s m args below meth c H locs Q la hF hW hS hl hR => h p e Rm s m args below meth c H locs Q la (by
    obtain ⟨f1, f2, f3, f4, f5, f6, f7, f8, f9, f10, f11, f12⟩ := hF
    exact ⟨f1, f2, f3, f4, f5, f6, f7, f8, f9, Nat.le_trans (Nat.succ_le_succ hd) f10, Nat.le_trans (Nat.mul_le_mul_left 64 (Nat.succ_le_succ hd)) f11, f12⟩) hW hS hl hR
/-! A METHOD'S CONTRACT OUT OF ITS WALK -/
def q_pad : Nat → List (Option Value)
  | 0 => []
  | n + 1 => none :: q_pad n
def q_ents : List Value → List (Option Value)
  | [] => []
  | .long x :: r => some (.long x) :: none :: q_ents r
  | .double x :: r => some (.double x) :: none :: q_ents r
  | v :: r => some v :: q_ents r
/-- a method's locals at its entry -/
def q_ent (as : List Value) (n : Nat) : List (Option Value) := q_ents as ++ q_pad (n - (q_ents as).length)
def q_wm (M : Mt) : List Cond := .code M.1 M.2.1 M.2.2.1 M.2.2.2 :: q_gw
def q_rm (d mc ms : Nat) : Room := { frames := d + 1, cells := mc, slots := ms, locals := 64 * (d + 1) }
def q_Q (G : Gx) (K : Kt) : Array Value → State → Outcome → State → Prop := fun _ st oc t => (∃ (v : Option Value) (S : Shp) (R : Rf) (I : Rn) (L : Rl), oc = .returned (v.map (q_cv G)) ∧ K v S R I L ∧ q_Wd G S R I L t.heap) ∧ va_F (q_A G) st t
theorem q_ents_len (G : Gx) : ∀ as : List Value, (lg_sl (as.map (q_cv G))).length = (q_ents as).length
  | [] => rfl
  | v :: r => by
    have ih := q_ents_len G r
    cases v <;> simp [lg_sl, q_ents, q_cv, Value.category] at ih ⊢ <;> omega
theorem q_ents_mem (G : Gx) : ∀ (as : List Value) (k : Nat) (i : Nat) (v : Value), (q_ents as)[i]? = some (some v) → (k + i, q_cv G v) ∈ lv_args k (as.map (q_cv G))
  | [], k, i, v, h => by simp [q_ents] at h
  | a :: r, k, i, v, h => by
    have two : ∀ (b : Value), a = b → b.category = 2 → (q_ents (a :: r) = some b :: none :: q_ents r) → (k + i, q_cv G v) ∈ lv_args k ((a :: r).map (q_cv G)) := by
      intro b e hb hq
      subst e
      rw [hq] at h
      show _ ∈ (k, q_cv G a) :: lv_args (if (q_cv G a).category = 2 then k + 2 else k + 1) (r.map (q_cv G))
      rw [q_cv_cat, if_pos hb]
      match i, h with
      | 0, h => cases h; exact List.mem_cons_self
      | 1, h => cases h
      | j + 2, h =>
        have := q_ents_mem G r (k + 2) j v h
        rw [show k + (j + 2) = k + 2 + j by omega]
        exact List.mem_cons_of_mem _ this
    have one : ∀ (b : Value), a = b → b.category = 1 → (q_ents (a :: r) = some b :: q_ents r) → (k + i, q_cv G v) ∈ lv_args k ((a :: r).map (q_cv G)) := by
      intro b e hb hq
      subst e
      rw [hq] at h
      show _ ∈ (k, q_cv G a) :: lv_args (if (q_cv G a).category = 2 then k + 2 else k + 1) (r.map (q_cv G))
      rw [q_cv_cat, if_neg (by rw [hb]; decide)]
      match i, h with
      | 0, h => cases h; exact List.mem_cons_self
      | j + 1, h =>
        have := q_ents_mem G r (k + 1) j v h
        rw [show k + (j + 1) = k + 1 + j by omega]
        exact List.mem_cons_of_mem _ this
    cases a with
    | int x => exact one _ rfl rfl rfl
    | long x => exact two _ rfl rfl rfl
    | float x => exact one _ rfl rfl rfl
    | double x => exact two _ rfl rfl rfl
    | null => exact one _ rfl rfl rfl
    | ref x => exact one _ rfl rfl rfl
    | retAddr x => exact one _ rfl rfl rfl
theorem q_pad_get (n i : Nat) (v : Value) : (q_pad n)[i]? = some (some v) → False := by
  induction n generalizing i with
  | zero => intro h; simp [q_pad] at h
  | succ n ih =>
    intro h
    cases i with
    | zero => simp [q_pad] at h
    | succ j => exact ih j (by simpa [q_pad] using h)
theorem q_ent_mem {G : Gx} {as : List Value} {n : Nat} {q : Nat × Value} (h : q ∈ q_lv G (q_ent as n)) : q ∈ lv_args 0 (as.map (q_cv G)) := by
  obtain ⟨v, h1, h2⟩ := q_lv_mem.mp h
  unfold q_ent at h1
  by_cases hl : q.1 < (q_ents as).length
  · rw [List.getElem?_append_left hl] at h1
    have := q_ents_mem G as 0 q.1 v h1
    rw [Nat.zero_add, ← h2] at this
    exact this
  · rw [List.getElem?_append_right (by omega)] at h1
    exact (q_pad_get _ _ _ h1).elim
theorem q_met {G : Gx} {d : Nat} {M : Mt} {as : List Value} {S : Shp} {R : Rf} {I : Rn} {L : Rl} {mc ms : Nat} {K : Kt} (hp : plainName M.1.cls = true) (hl : (q_ents as).length ≤ M.2.2.1) (h : WW G d M 0 (q_ent as M.2.2.1) [] S R I L 0 0 mc ms K) :
    Met G.1 M.1 (q_wm M) (q_rm d mc ms) (va_Pc (as.map (q_cv G)) (fun U => q_Wd G S R I L U.heap ∧ q_Tb G U)) (q_Q G K) mc ms (q_A G) := by
  refine Met.ofW (cc := M.2.1) (maxL := M.2.2.1) (ret := M.2.2.2) hp rfl ?_
  intro p e s m args below meth c s₁ B hml hv
  obtain ⟨rfl, hW, hT⟩ := hv
  have hts := atoms_spec (ws := q_wm M) B.pre
  have hF : q_Fx G d M mc ms p (q_rm d mc ms) s m (as.map (q_cv G)).toArray meth c := ⟨B.exec, B.bytes, hml, B.returns, (name_of_methodNamed B.named B.method).1, B.notSynchronized, findClass_of_methodNamed B.named, fun w hw => hts w (List.mem_cons_of_mem _ hw), hT, Nat.le_refl _, Nat.le_refl _, Nat.le_refl _, Nat.le_refl _⟩
  have hl0 := lv_entry (as.map (q_cv G)) (n := M.2.2.1) (by rw [q_ents_len]; exact hl)
  rw [lg_entry_eq]
  refine h p e (q_rm d mc ms) s m _ below meth c s.heap [] _ _ hF hW va_S.rf ⟨hl0.1, hl0.2.1, fun q hq => hl0.2.2 q (q_ent_mem hq)⟩ ?_
  intro v S' R' I' L' H' locs' pc' la' hk hW' hS' hd hn
  have hq : ∀ (r : Option Value), r = v.map (q_cv G) → ∀ t : State, t.heap = H' → s.WarmedH t.vm → q_Q G K (as.map (q_cv G)).toArray s (.returned r) t := fun r e t ht _ => ⟨⟨v, S', R', I', L', by rw [e], hk, by rw [ht]; exact hW'⟩, hS'.F ht⟩
  match v, hd, hn, hq with
  | none, hd, hn, hq => exact W.vret B.exec B.bytes (B.returns.trans hn) (hq none rfl) hS'.2.2 hd B.notSynchronized
  | some (.int x), hd, ⟨ty, h1, h2⟩, hq => exact W.zret B.exec B.bytes (B.returns.trans h1) h2 (hq _ rfl) hS'.2.2 hd B.notSynchronized
  | some (.long x), hd, hn, hq => exact W.lret B.exec B.bytes (B.returns.trans hn) (hq _ rfl) hS'.2.2 hd B.notSynchronized
  | some (.float x), hd, hn, hq => exact hn.elim
  | some (.double x), hd, hn, hq => exact hn.elim
  | some .null, hd, hn, hq => exact hn.elim
  | some (.ref x), hd, hn, hq => exact hn.elim
  | some (.retAddr x), hd, hn, hq => exact hn.elim
end
section
theorem q_good {w : Cond} (h : w ∈ q_gw) : (w.onTables && w.keeps) = true ∨ ∃ ty, w = .arrayClass ty := good_of_word (List.mem_filter.mp h).2
theorem q_goodIn {M : Mt} (h : Cond.code M.1 M.2.1 M.2.2.1 M.2.2.2 ∈ q_gw) : GoodIn q_gw (q_wm M) := fun w hw => by
  rcases List.mem_cons.mp hw with rfl | hw
  · exact ⟨h, q_good h⟩
  · exact ⟨hw, q_good hw⟩
def q_psh (v : Option Value) (r : List Value) : List Value := match v with
  | none => r
  | some x => x :: r
theorem q_psh_map (G : Gx) (v : Option Value) (r : List Value) : (v.map (q_cv G)).toList ++ r.map (q_cv G) = (q_psh v r).map (q_cv G) := by cases v <;> rfl
theorem q_blind {G : Gx} {S : Shp} {R : Rf} {I : Rn} {L : Rl} {av : List Value} : FrameBlind (va_Pc av (fun U => q_Wd G S R I L U.heap ∧ q_Tb G U)) := fun a U g mk q => by
  obtain ⟨h1, h2, h3⟩ := q
  exact ⟨h1, h2, h3.vm rfl rfl⟩
section QC
variable {G : Gx} {d : Nat} {M M' : Mt} {pc nx : Nat} {ls : List (Option Value)} {st rest : List Value} {S : Shp} {R : Rf} {I : Rn} {L : Rl} {ce sl mc ms mc' ms' : Nat} {K K' : Kt}
variable {p : Program} {e : Env} {Rm : Room} {s : State} {m : MethodId} {args : Array Value} {below : List Frame} {meth : Method} {c : Code} {H : Heap} {locs : List Loc} {Q : State → Prop} {la : Array Slot}
theorem q_pre (hF : q_Fx G d M mc ms p Rm s m args meth c) (hW : q_Wd G S R I L H) (hS : va_S (q_A G) s.heap H locs) (as : List Value) : ∀ U : State, U.heap = H → s.WarmedH U.vm → va_Pc (as.map (q_cv G)) (fun U => q_Wd G S R I L U.heap ∧ q_Tb G U) (as.map (q_cv G)).toArray U :=
  fun U hU hWm => ⟨rfl, by rw [hU]; exact hW, hF.2.2.2.2.2.2.2.2.1.moved hS hU hWm⟩
/-- behind a call -/
theorem q_callW {a : Array Value} {st0 : List Value} (hr : va_Run p G.1 e Rm s m args below meth c H locs ce sl mc' ms' (F0 m pc la st0) (rest.map (q_cv G)) (q_Q G K' a) (q_A G)) (hS : va_S (q_A G) s.heap H locs)
    (kk : ∀ (v : Option Value) (S1 : Shp) (R1 : Rf) (I1 : Rn) (L1 : Rl) (H1 : Heap) (locs1 : List Loc), K' v S1 R1 I1 L1 → q_Wd G S1 R1 I1 L1 H1 → va_S (q_A G) s.heap H1 locs1 → W p G.1 e Rm s m args below meth c H1 locs1 (ce + mc') (sl + ms') Q (F0 m (pc + 3) la ((q_psh v rest).map (q_cv G)))) :
    W p G.1 e Rm s m args below meth c H locs ce sl Q (F0 m pc la st0) := by
  intro T hT X
  obtain ⟨v, st₀, t, T', Lc, h0, X', hL, e1, e2, ⟨⟨v', S1, R1, I1, L1, hv, hk, hw⟩, hz, hkp⟩, st⟩ := hr T hT X
  cases hv
  rw [h0] at hz hkp
  obtain ⟨t2, a1, b1⟩ := kk v' S1 R1 I1 L1 T'.heap (locs ++ Lc) hk (by rw [e1]; exact hw)
    ⟨Nat.le_trans hS.1 (by rw [e1]; exact hz), fun q h1 h2 => by rw [e1, hkp q (Nat.lt_of_lt_of_le h1 hS.1) h2]; exact hS.2.1 q h1 h2, fun q hq => by
      rcases List.mem_append.mp hq with h | h
      · exact hS.2.2 q h
      · exact hL q h⟩ T' rfl X'
  rw [← q_psh_map] at a1
  exact ⟨t2, st t2 a1, b1⟩
/-- what a method's tables say: its code, that its class stands, its name, how many it takes -/
def q_MB (M : Mt) (n : Nat) : Prop := Cond.code M.1 M.2.1 M.2.2.1 M.2.2.2 ∈ q_gw ∧ Cond.initialized M.1.cls ∈ q_gw ∧ plainName M.1.cls = true ∧ (M.1.cls ≠ "java/lang/invoke/MethodHandle" ∧ M.1.cls ≠ "java/lang/invoke/VarHandle" ∧ (parseMethodDescriptor M.1.desc).map (fun d => d.parameters.length) = some n) ∧ M.2.2.1 ≤ 40
def q_MS (M : Mt) (n : Nat) : Prop := q_MB M n ∧ Cond.static M.1 ∈ q_gw
def q_MV (M : Mt) (k n : Nat) : Prop := q_MB M n ∧ Cond.instanceMethod M.1 ∈ q_gw ∧ Cond.selects M.1.cls M.1 M.1 ∈ q_gw ∧ (q_cls.getD k ("", TX0, 0)).1 = M.1.cls ∧ k < 9
def q_MI (M : Mt) (n : Nat) : Prop := q_MB M n ∧ Cond.instanceMethod M.1 ∈ q_gw ∧ M.1.name = "<init>" ∧ M.2.2.2 = none
/-- what is at a call: the instruction, where it goes on, whom it names -/
def q_Ln (M : Mt) (ix : Nat) (M' : Mt) : Prop := Cond.methodLink M.1.cls ix M'.1 ∈ q_gw ∨ ∃ host, Cond.methodLinkNest M.1.cls ix M'.1 host ∈ q_nw
def q_CS (M : Mt) (pc : Nat) (M' : Mt) (nx : Nat) : Prop := ∃ ix, decode M.2.1 pc = .ok (.invokestatic ix, 3) ∧ pc + 3 = nx ∧ q_Ln M ix M'
def q_CV (M : Mt) (pc : Nat) (M' : Mt) (nx : Nat) : Prop := ∃ ix, decode M.2.1 pc = .ok (.invokevirtual ix, 3) ∧ pc + 3 = nx ∧ q_Ln M ix M'
def q_CI (M : Mt) (pc : Nat) (M' : Mt) (nx : Nat) : Prop := ∃ ix, decode M.2.1 pc = .ok (.invokespecial ix, 3) ∧ pc + 3 = nx ∧ q_Ln M ix M'
theorem q_room (hF : q_Fx G (d + 1) M mc ms p Rm s m args meth c) (hM : M'.2.2.1 ≤ 40) : (q_rm d mc' ms').frames + 1 ≤ Rm.frames ∧ 8 + (M'.2.2.1 + 11) + (q_rm d mc' ms').locals ≤ Rm.locals := by
  obtain ⟨-, -, -, -, -, -, -, -, -, f1, f2, -⟩ := hF
  constructor
  · exact f1
  · show 8 + (M'.2.2.1 + 11) + 64 * (d + 1) ≤ Rm.locals
    omega
theorem q_cats {G : Gx} {r : List Value} : ((r.map (q_cv G)).map fun v => v.category).sum = (r.map fun v => v.category).sum := by
  induction r with
  | nil => rfl
  | cons a r ih =>
    rw [List.map_cons, List.map_cons, List.sum_cons, List.map_cons, List.sum_cons, ih, q_cv_cat]
theorem q_rest {G : Gx} {m : MethodId} {pc : Nat} {la : Array Slot} {st0 r : List Value} (h : (r.map fun v => v.category).sum ≤ 8) : 2 * (F0 m pc la st0).monitorRoom + ((r.map (q_cv G)).map fun v => v.category).sum ≤ 8 := by
  rw [q_cats]
  exact lv_room h
theorem r_cs {as : List Value} (hs : q_CS M pc M' nx) (hm : q_MS M' as.length) (hl : (q_ents as).length ≤ M'.2.2.1) (hr : (rest.map fun v => v.category).sum ≤ 8) (hc : ce + mc' ≤ mc) (hsl : sl + ms' ≤ ms)
    (h : WW G d M' 0 (q_ent as M'.2.2.1) [] S R I L 0 0 mc' ms' (fun v S R I L => WW G (d + 1) M nx ls (q_psh v rest) S R I L (ce + mc') (sl + ms') mc ms K)) :
    WW G (d + 1) M pc ls (as.reverse ++ rest) S R I L ce sl mc ms K := by
  intro p e Rm s m args below meth c H locs Q la hF hW hS hla hR
  obtain ⟨ix, hd, rfl, hlk⟩ := hs
  obtain ⟨⟨m1, m2, m3, m4, m5⟩, m6⟩ := hm
  obtain ⟨f1, f2, f3, f4, f5, f6, f7, f8, f9, f10, f11, f12, f13⟩ := id hF
  have hM := q_met m3 hl h
  have hfit : ce + mc' ≤ Rm.cells ∧ sl + ms' ≤ Rm.slots := ⟨Nat.le_trans hc f12, Nat.le_trans hsl f13⟩
  have hrun : va_Run p G.1 e Rm s m args below meth c H locs ce sl mc' ms' (F0 m pc la ((as.reverse ++ rest).map (q_cv G))) (rest.map (q_cv G)) (q_Q G (fun v S R I L => WW G (d + 1) M (pc + 3) ls (q_psh v rest) S R I L (ce + mc') (sl + ms') mc ms K) (as.map (q_cv G)).toArray) (q_A G) := by
    rcases hlk with hlk | ⟨host, hlk⟩
    · exact va_runS (As := as.map (q_cv G)) (n := as.length) (rest := rest.map (q_cv G)) ⟨f1, f2, f3, f7, f8⟩ hM ⟨callB_of as.length f8 (q_goodIn m1) rfl rfl rfl (f8 _ m2) (f8 _ hlk) m4 (q_room hF m5), f8 _ m6⟩ ⟨q_blind, q_pre hF hW hS as⟩ rfl (by simp) hla.1 (by simp) (q_rest hr) hd hfit
    · exact va_runSN (As := as.map (q_cv G)) (n := as.length) (rest := rest.map (q_cv G)) ⟨f1, f2, f3, f7, f8⟩ hM ⟨va_cnB as.length f8 (q_goodIn m1) rfl rfl rfl (f9.2.1 _ hlk) (f8 _ m2) m4 (q_room hF m5), f8 _ m6, trivial⟩ ⟨q_blind, q_pre hF hW hS as⟩ rfl (by simp) hla.1 (by simp) (q_rest hr) hd hfit
  exact q_callW hrun hS (fun v S1 R1 I1 L1 H1 locs1 hk hw hs => hk p e Rm s m args below meth c H1 locs1 Q la hF hw hs hla hR)
/-- the receiver's cell -/
theorem q_recv (hF : q_Fx G d M mc ms p Rm s m args meth c) (hW : q_Wd G S R I L H) {k n i : Nat} (hk : k < 9) (hs : S[i]? = some (k, n)) : ∃ cell : Cell, H[q_ad G i]? = some cell ∧ cell.vm.isStatics = false ∧ s.vm.findClass (q_cls.getD k ("", TX0, 0)).1 = some cell.cls := by
  have h1 := hW.2.2 i _ hs
  rw [q_at_obj (by omega)] at h1
  obtain ⟨cell, c1, c2, c3, -⟩ := h1
  have hKc := hF.2.2.2.2.2.2.2.2.1.1.1 k (q_cls.getD k ("", TX0, 0)) (by
    match k, hk with
    | 0, _ => rfl
    | 1, _ => rfl
    | 2, _ => rfl
    | 3, _ => rfl
    | 4, _ => rfl
    | 5, _ => rfl
    | 6, _ => rfl
    | 7, _ => rfl
    | 8, _ => rfl)
  exact ⟨cell, by rw [q_ad_lt hW hs]; exact c1, by rw [c3]; rfl, by rw [c2]; exact hKc.2.1⟩
theorem r_cv {as : List Value} {i k n : Nat} (hs : q_CV M pc M' nx) (hm : q_MV M' k as.length) (hi : S[i]? = some (k, n)) (hl : (q_ents (.ref i :: as)).length ≤ M'.2.2.1) (hr : (rest.map fun v => v.category).sum ≤ 8) (hc : ce + mc' ≤ mc) (hsl : sl + ms' ≤ ms)
    (h : WW G d M' 0 (q_ent (.ref i :: as) M'.2.2.1) [] S R I L 0 0 mc' ms' (fun v S R I L => WW G (d + 1) M nx ls (q_psh v rest) S R I L (ce + mc') (sl + ms') mc ms K)) :
    WW G (d + 1) M pc ls (as.reverse ++ .ref i :: rest) S R I L ce sl mc ms K := by
  intro p e Rm s m args below meth c H locs Q la hF hW hS hla hR
  obtain ⟨ix, hd, rfl, hlk⟩ := hs
  obtain ⟨⟨m1, m2, m3, m4, m5⟩, m6, m7, m8, m9⟩ := hm
  obtain ⟨f1, f2, f3, f4, f5, f6, f7, f8, f9, f10, f11, f12, f13⟩ := id hF
  have hM := q_met m3 hl h
  have hfit : ce + mc' ≤ Rm.cells ∧ sl + ms' ≤ Rm.slots := ⟨Nat.le_trans hc f12, Nat.le_trans hsl f13⟩
  have hrc := q_recv hF hW m9 hi
  rw [m8] at hrc
  have hrun : va_Run p G.1 e Rm s m args below meth c H locs ce sl mc' ms' (F0 m pc la ((as.reverse ++ .ref i :: rest).map (q_cv G))) (rest.map (q_cv G)) (q_Q G (fun v S R I L => WW G (d + 1) M (pc + 3) ls (q_psh v rest) S R I L (ce + mc') (sl + ms') mc ms K) ((Value.ref i :: as).map (q_cv G)).toArray) (q_A G) := by
    rcases hlk with hlk | ⟨host, hlk⟩
    · exact va_runV (C := M'.1.cls) (b := q_ad G i) (As := as.map (q_cv G)) (n := as.length) (rest := rest.map (q_cv G)) ⟨f1, f2, f3, f7, f8⟩ hM ⟨callB_of as.length f8 (q_goodIn m1) rfl rfl rfl (f8 _ m2) (f8 _ hlk) m4 (q_room hF m5), f8 _ m6, f8 _ m7⟩ ⟨q_blind, hrc, q_pre hF hW hS (.ref i :: as)⟩ rfl (by simp) hla.1 (by simp [q_cv]) (q_rest hr) hd hfit
    · exact va_runVN (C := M'.1.cls) (b := q_ad G i) (As := as.map (q_cv G)) (n := as.length) (rest := rest.map (q_cv G)) ⟨f1, f2, f3, f7, f8⟩ hM ⟨va_cnB as.length f8 (q_goodIn m1) rfl rfl rfl (f9.2.1 _ hlk) (f8 _ m2) m4 (q_room hF m5), f8 _ m6, f8 _ m7⟩ ⟨q_blind, hrc, q_pre hF hW hS (.ref i :: as)⟩ rfl (by simp) hla.1 (by simp [q_cv]) (q_rest hr) hd hfit
  exact q_callW hrun hS (fun v S1 R1 I1 L1 H1 locs1 hk hw hs => hk p e Rm s m args below meth c H1 locs1 Q la hF hw hs hla hR)
theorem r_ci {as : List Value} {i : Nat} (hs : q_CI M pc M' nx) (hm : q_MI M' as.length) (hl : (q_ents (.ref i :: as)).length ≤ M'.2.2.1) (hr : (rest.map fun v => v.category).sum ≤ 8) (hc : ce + mc' ≤ mc) (hsl : sl + ms' ≤ ms)
    (h : WW G d M' 0 (q_ent (.ref i :: as) M'.2.2.1) [] S R I L 0 0 mc' ms' (fun v S R I L => WW G (d + 1) M nx ls (q_psh v rest) S R I L (ce + mc') (sl + ms') mc ms K)) :
    WW G (d + 1) M pc ls (as.reverse ++ .ref i :: rest) S R I L ce sl mc ms K := by
  intro p e Rm s m args below meth c H locs Q la hF hW hS hla hR
  obtain ⟨ix, hd, rfl, hlk⟩ := hs
  obtain ⟨⟨m1, m2, m3, m4, m5⟩, m6, m7, m8⟩ := hm
  obtain ⟨f1, f2, f3, f4, f5, f6, f7, f8, f9, f10, f11, f12, f13⟩ := id hF
  have hM := q_met m3 hl h
  rw [m8] at m1
  have hG : GoodIn q_gw (q_wm M') := q_goodIn (by rw [m8]; exact m1)
  have hw : q_wm M' = Cond.code M'.1 M'.2.1 M'.2.2.1 none :: q_gw := by unfold q_wm; rw [m8]
  have hfit : ce + mc' ≤ Rm.cells ∧ sl + ms' ≤ Rm.slots := ⟨Nat.le_trans hc f12, Nat.le_trans hsl f13⟩
  have hrun : va_Run p G.1 e Rm s m args below meth c H locs ce sl mc' ms' (F0 m pc la ((as.reverse ++ .ref i :: rest).map (q_cv G))) (rest.map (q_cv G)) (q_Q G (fun v S R I L => WW G (d + 1) M (pc + 3) ls (q_psh v rest) S R I L (ce + mc') (sl + ms') mc ms K) ((Value.ref i :: as).map (q_cv G)).toArray) (q_A G) := by
    rcases hlk with hlk | ⟨host, hlk⟩
    · exact va_runI (b := q_ad G i) (As := as.map (q_cv G)) (n := as.length) (rest := rest.map (q_cv G)) ⟨f1, f2, f3, f7, f8⟩ hM ⟨callB_of as.length f8 hG hw rfl rfl (f8 _ m2) (f8 _ hlk) m4 (q_room hF m5), m7, f8 _ m6⟩ ⟨q_blind, q_pre hF hW hS (.ref i :: as)⟩ rfl (by simp) hla.1 (by simp [q_cv]) (q_rest hr) hd hfit
    · exact va_runIN (b := q_ad G i) (As := as.map (q_cv G)) (n := as.length) (rest := rest.map (q_cv G)) ⟨f1, f2, f3, f7, f8⟩ hM ⟨va_cnB as.length f8 hG hw rfl rfl (f9.2.1 _ hlk) (f8 _ m2) m4 (q_room hF m5), m7, f8 _ m6⟩ ⟨q_blind, q_pre hF hW hS (.ref i :: as)⟩ rfl (by simp) hla.1 (by simp [q_cv]) (q_rest hr) hd hfit
  exact q_callW hrun hS (fun v S1 R1 I1 L1 H1 locs1 hk hw hs => hk p e Rm s m args below meth c H1 locs1 Q la hF hw hs hla hR)
end QC
end
section
/-! RULES, an instruction each -/
def Ft (M : Mt) (pc : Nat) (i : Instr) (n nx : Nat) : Prop := decode M.2.1 pc = .ok (i, n) ∧ pc + n = nx
def Fb (M : Mt) (pc : Nat) (mk : Int → Instr) (tgt nx : Nat) : Prop := ∃ off : Int, decode M.2.1 pc = .ok (mk off, 3) ∧ (pc : Int) + off = (tgt : Int) ∧ pc + 3 = nx
/-- an int is pushed -/
def Fc (M : Mt) (pc : Nat) (v : Int32) (nx : Nat) : Prop := (∃ n : Int, decode M.2.1 pc = .ok (.iconst n, 1) ∧ Int32.ofInt n = v ∧ pc + 1 = nx) ∨ (∃ n : Int, decode M.2.1 pc = .ok (.bipush n, 2) ∧ (Int8.ofInt n).toInt32 = v ∧ pc + 2 = nx) ∨ (∃ n : Int, decode M.2.1 pc = .ok (.sipush n, 3) ∧ (Int16.ofInt n).toInt32 = v ∧ pc + 3 = nx) ∨ (∃ ix : Nat, decode M.2.1 pc = .ok (.ldc ix, 2) ∧ Cond.constant M.1.cls ix v ∈ q_gw ∧ pc + 2 = nx) ∨ (∃ ix : Nat, decode M.2.1 pc = .ok (.ldc_w ix, 3) ∧ Cond.constant M.1.cls ix v ∈ q_gw ∧ pc + 3 = nx)
/-- a long is pushed -/
def Fk (M : Mt) (pc : Nat) (v : Int64) (nx : Nat) : Prop := (∃ n : Fin 2, decode M.2.1 pc = .ok (.lconst n, 1) ∧ Int64.ofNat (n : Nat) = v ∧ pc + 1 = nx) ∨ (∃ ix : Nat, decode M.2.1 pc = .ok (.ldc2_w ix, 3) ∧ Cond.constantLong M.1.cls ix v ∈ q_gw ∧ pc + 3 = nx)
/-- a variable is loaded, or stored -/
def Fvr (M : Mt) (pc : Nat) (mn : Fin 4 → Instr) (mi : Nat → Instr) (i nx : Nat) : Prop := ((∃ k : Fin 4, decode M.2.1 pc = .ok (mn k, 1) ∧ (k : Nat) = i ∧ pc + 1 = nx) ∨ (decode M.2.1 pc = .ok (mi i, 2) ∧ pc + 2 = nx)) ∧ i + 1 ≤ M.2.2.1
def Fi (M : Mt) (pc i : Nat) (v : Int32) (nx : Nat) : Prop := ∃ n : Int, decode M.2.1 pc = .ok (.iinc i n, 3) ∧ Int32.ofInt n = v ∧ pc + 3 = nx ∧ i < M.2.2.1
/-- an index: j of n places -/
def q_ix (i : Int32) (j n : Nat) : Prop := i.toInt = (j : Int) ∧ j < n
theorem q_ix.clamp {i : Int32} {j n : Nat} (h : q_ix i j n) : i.toNatClampNeg = j := by
  show i.toInt.toNat = j
  rw [h.1]
  rfl
theorem q_ix.in {i : Int32} {j n : Nat} (h : q_ix i j n) : vp_in i n := vp_in_iff.mpr ⟨by rw [h.1]; omega, by rw [h.1]; exact Int.ofNat_lt.mpr h.2⟩
theorem q_ix.nI {j n : Nat} (h : j < n) (hn : n < 2 ^ 31) : q_ix (nI j) j n := ⟨nI_toInt (by omega), h⟩
/-- not the first half of a long -/
def q_n2 (v : Option Value) : Bool := match v with
  | some (.long _) => false
  | some (.double _) => false
  | _ => true
section RU
variable {G : Gx} {d : Nat} {M : Mt} {pc nx tgt : Nat} {ls : List (Option Value)} {st : List Value} {S : Shp} {R : Rf} {I : Rn} {L : Rl} {ce sl mc ms : Nat} {K : Kt}
theorem r_iadd {x y : Int32} (hd : Ft M pc .iadd 1 nx) (k : WW G d M nx ls (.int (x + y) :: st) S R I L ce sl mc ms K) : WW G d M pc ls (.int y :: .int x :: st) S R I L ce sl mc ms K := by
  intro p e Rm s m args below meth c H locs Q la hF hW hS hl hR
  obtain ⟨hd, rfl⟩ := hd
  exact lv_iadd hF.1 hF.2.1 hd (k p e Rm s m args below meth c H locs Q la hF hW hS hl hR)
theorem r_isub {x y : Int32} (hd : Ft M pc .isub 1 nx) (k : WW G d M nx ls (.int (x - y) :: st) S R I L ce sl mc ms K) : WW G d M pc ls (.int y :: .int x :: st) S R I L ce sl mc ms K := by
  intro p e Rm s m args below meth c H locs Q la hF hW hS hl hR
  obtain ⟨hd, rfl⟩ := hd
  exact lv_isub hF.1 hF.2.1 hd (k p e Rm s m args below meth c H locs Q la hF hW hS hl hR)
theorem r_imul {x y : Int32} (hd : Ft M pc .imul 1 nx) (k : WW G d M nx ls (.int (x * y) :: st) S R I L ce sl mc ms K) : WW G d M pc ls (.int y :: .int x :: st) S R I L ce sl mc ms K := by
  intro p e Rm s m args below meth c H locs Q la hF hW hS hl hR
  obtain ⟨hd, rfl⟩ := hd
  exact lv_imul hF.1 hF.2.1 hd (k p e Rm s m args below meth c H locs Q la hF hW hS hl hR)
theorem r_iand {x y : Int32} (hd : Ft M pc .iand 1 nx) (k : WW G d M nx ls (.int (x &&& y) :: st) S R I L ce sl mc ms K) : WW G d M pc ls (.int y :: .int x :: st) S R I L ce sl mc ms K := by
  intro p e Rm s m args below meth c H locs Q la hF hW hS hl hR
  obtain ⟨hd, rfl⟩ := hd
  exact lv_iand hF.1 hF.2.1 hd (k p e Rm s m args below meth c H locs Q la hF hW hS hl hR)
theorem r_ior {x y : Int32} (hd : Ft M pc .ior 1 nx) (k : WW G d M nx ls (.int (x ||| y) :: st) S R I L ce sl mc ms K) : WW G d M pc ls (.int y :: .int x :: st) S R I L ce sl mc ms K := by
  intro p e Rm s m args below meth c H locs Q la hF hW hS hl hR
  obtain ⟨hd, rfl⟩ := hd
  exact lv_ior hF.1 hF.2.1 hd (k p e Rm s m args below meth c H locs Q la hF hW hS hl hR)
theorem r_ixor {x y : Int32} (hd : Ft M pc .ixor 1 nx) (k : WW G d M nx ls (.int (x ^^^ y) :: st) S R I L ce sl mc ms K) : WW G d M pc ls (.int y :: .int x :: st) S R I L ce sl mc ms K := by
  intro p e Rm s m args below meth c H locs Q la hF hW hS hl hR
  obtain ⟨hd, rfl⟩ := hd
  exact lv_ixor hF.1 hF.2.1 hd (k p e Rm s m args below meth c H locs Q la hF hW hS hl hR)
theorem r_ishl {x y : Int32} (hd : Ft M pc .ishl 1 nx) (k : WW G d M nx ls (.int (x <<< (y &&& 31)) :: st) S R I L ce sl mc ms K) : WW G d M pc ls (.int y :: .int x :: st) S R I L ce sl mc ms K := by
  intro p e Rm s m args below meth c H locs Q la hF hW hS hl hR
  obtain ⟨hd, rfl⟩ := hd
  exact lv_ishl hF.1 hF.2.1 hd (k p e Rm s m args below meth c H locs Q la hF hW hS hl hR)
theorem r_ishr {x y : Int32} (hd : Ft M pc .ishr 1 nx) (k : WW G d M nx ls (.int (x >>> (y &&& 31)) :: st) S R I L ce sl mc ms K) : WW G d M pc ls (.int y :: .int x :: st) S R I L ce sl mc ms K := by
  intro p e Rm s m args below meth c H locs Q la hF hW hS hl hR
  obtain ⟨hd, rfl⟩ := hd
  exact lv_ishr hF.1 hF.2.1 hd (k p e Rm s m args below meth c H locs Q la hF hW hS hl hR)
theorem r_ladd {x y : Int64} (hd : Ft M pc .ladd 1 nx) (k : WW G d M nx ls (.long (x + y) :: st) S R I L ce sl mc ms K) : WW G d M pc ls (.long y :: .long x :: st) S R I L ce sl mc ms K := by
  intro p e Rm s m args below meth c H locs Q la hF hW hS hl hR
  obtain ⟨hd, rfl⟩ := hd
  exact lv_ladd hF.1 hF.2.1 hd (k p e Rm s m args below meth c H locs Q la hF hW hS hl hR)
theorem r_lsub {x y : Int64} (hd : Ft M pc .lsub 1 nx) (k : WW G d M nx ls (.long (x - y) :: st) S R I L ce sl mc ms K) : WW G d M pc ls (.long y :: .long x :: st) S R I L ce sl mc ms K := by
  intro p e Rm s m args below meth c H locs Q la hF hW hS hl hR
  obtain ⟨hd, rfl⟩ := hd
  exact lv_lsub hF.1 hF.2.1 hd (k p e Rm s m args below meth c H locs Q la hF hW hS hl hR)
theorem r_lmul {x y : Int64} (hd : Ft M pc .lmul 1 nx) (k : WW G d M nx ls (.long (x * y) :: st) S R I L ce sl mc ms K) : WW G d M pc ls (.long y :: .long x :: st) S R I L ce sl mc ms K := by
  intro p e Rm s m args below meth c H locs Q la hF hW hS hl hR
  obtain ⟨hd, rfl⟩ := hd
  exact lv_lmul hF.1 hF.2.1 hd (k p e Rm s m args below meth c H locs Q la hF hW hS hl hR)
theorem r_land {x y : Int64} (hd : Ft M pc .land 1 nx) (k : WW G d M nx ls (.long (x &&& y) :: st) S R I L ce sl mc ms K) : WW G d M pc ls (.long y :: .long x :: st) S R I L ce sl mc ms K := by
  intro p e Rm s m args below meth c H locs Q la hF hW hS hl hR
  obtain ⟨hd, rfl⟩ := hd
  exact lv_land hF.1 hF.2.1 hd (k p e Rm s m args below meth c H locs Q la hF hW hS hl hR)
theorem r_lor {x y : Int64} (hd : Ft M pc .lor 1 nx) (k : WW G d M nx ls (.long (x ||| y) :: st) S R I L ce sl mc ms K) : WW G d M pc ls (.long y :: .long x :: st) S R I L ce sl mc ms K := by
  intro p e Rm s m args below meth c H locs Q la hF hW hS hl hR
  obtain ⟨hd, rfl⟩ := hd
  exact lv_lor hF.1 hF.2.1 hd (k p e Rm s m args below meth c H locs Q la hF hW hS hl hR)
theorem r_lxor {x y : Int64} (hd : Ft M pc .lxor 1 nx) (k : WW G d M nx ls (.long (x ^^^ y) :: st) S R I L ce sl mc ms K) : WW G d M pc ls (.long y :: .long x :: st) S R I L ce sl mc ms K := by
  intro p e Rm s m args below meth c H locs Q la hF hW hS hl hR
  obtain ⟨hd, rfl⟩ := hd
  exact lv_lxor hF.1 hF.2.1 hd (k p e Rm s m args below meth c H locs Q la hF hW hS hl hR)
theorem r_idiv {x y : Int32} (hd : Ft M pc .idiv 1 nx) (hne : ¬ y = 0) (k : WW G d M nx ls (.int (x / y) :: st) S R I L ce sl mc ms K) : WW G d M pc ls (.int y :: .int x :: st) S R I L ce sl mc ms K := by
  intro p e Rm s m args below meth c H locs Q la hF hW hS hl hR
  obtain ⟨hd, rfl⟩ := hd
  exact lv_idiv hF.1 hF.2.1 hd hne (k p e Rm s m args below meth c H locs Q la hF hW hS hl hR)
theorem r_irem {x y : Int32} (hd : Ft M pc .irem 1 nx) (hne : ¬ y = 0) (k : WW G d M nx ls (.int (x - x / y * y) :: st) S R I L ce sl mc ms K) : WW G d M pc ls (.int y :: .int x :: st) S R I L ce sl mc ms K := by
  intro p e Rm s m args below meth c H locs Q la hF hW hS hl hR
  obtain ⟨hd, rfl⟩ := hd
  exact lv_irem hF.1 hF.2.1 hd hne (k p e Rm s m args below meth c H locs Q la hF hW hS hl hR)
theorem r_ldiv {x y : Int64} (hd : Ft M pc .ldiv 1 nx) (hne : ¬ y = 0) (k : WW G d M nx ls (.long (x / y) :: st) S R I L ce sl mc ms K) : WW G d M pc ls (.long y :: .long x :: st) S R I L ce sl mc ms K := by
  intro p e Rm s m args below meth c H locs Q la hF hW hS hl hR
  obtain ⟨hd, rfl⟩ := hd
  exact lv_ldiv hF.1 hF.2.1 hd hne (k p e Rm s m args below meth c H locs Q la hF hW hS hl hR)
theorem r_lrem {x y : Int64} (hd : Ft M pc .lrem 1 nx) (hne : ¬ y = 0) (k : WW G d M nx ls (.long (x - x / y * y) :: st) S R I L ce sl mc ms K) : WW G d M pc ls (.long y :: .long x :: st) S R I L ce sl mc ms K := by
  intro p e Rm s m args below meth c H locs Q la hF hW hS hl hR
  obtain ⟨hd, rfl⟩ := hd
  exact lv_lrem hF.1 hF.2.1 hd hne (k p e Rm s m args below meth c H locs Q la hF hW hS hl hR)
theorem r_ineg {x : Int32} (hd : Ft M pc .ineg 1 nx) (k : WW G d M nx ls (.int (-x) :: st) S R I L ce sl mc ms K) : WW G d M pc ls (.int x :: st) S R I L ce sl mc ms K := by
  intro p e Rm s m args below meth c H locs Q la hF hW hS hl hR
  obtain ⟨hd, rfl⟩ := hd
  exact lv_ineg hF.1 hF.2.1 hd (k p e Rm s m args below meth c H locs Q la hF hW hS hl hR)
theorem r_iushr {x y : Int32} (hd : Ft M pc .iushr 1 nx) (k : WW G d M nx ls (.int (x.toUInt32 >>> (y.toUInt32 &&& Int32.toUInt32 31)).toInt32 :: st) S R I L ce sl mc ms K) : WW G d M pc ls (.int y :: .int x :: st) S R I L ce sl mc ms K := by
  intro p e Rm s m args below meth c H locs Q la hF hW hS hl hR
  obtain ⟨hd, rfl⟩ := hd
  exact lv_iushr hF.1 hF.2.1 hd rfl (k p e Rm s m args below meth c H locs Q la hF hW hS hl hR)
theorem r_lshl {x : Int64} {y : Int32} (hd : Ft M pc .lshl 1 nx) (k : WW G d M nx ls (.long (x <<< (y.toInt64 &&& 63)) :: st) S R I L ce sl mc ms K) : WW G d M pc ls (.int y :: .long x :: st) S R I L ce sl mc ms K := by
  intro p e Rm s m args below meth c H locs Q la hF hW hS hl hR
  obtain ⟨hd, rfl⟩ := hd
  exact lv_lshl hF.1 hF.2.1 hd rfl (k p e Rm s m args below meth c H locs Q la hF hW hS hl hR)
theorem r_i2l {x : Int32} (hd : Ft M pc .i2l 1 nx) (k : WW G d M nx ls (.long x.toInt64 :: st) S R I L ce sl mc ms K) : WW G d M pc ls (.int x :: st) S R I L ce sl mc ms K := by
  intro p e Rm s m args below meth c H locs Q la hF hW hS hl hR
  obtain ⟨hd, rfl⟩ := hd
  exact lv_i2l hF.1 hF.2.1 hd rfl (k p e Rm s m args below meth c H locs Q la hF hW hS hl hR)
theorem r_l2i {x : Int64} (hd : Ft M pc .l2i 1 nx) (k : WW G d M nx ls (.int x.toInt32 :: st) S R I L ce sl mc ms K) : WW G d M pc ls (.long x :: st) S R I L ce sl mc ms K := by
  intro p e Rm s m args below meth c H locs Q la hF hW hS hl hR
  obtain ⟨hd, rfl⟩ := hd
  exact lv_l2i hF.1 hF.2.1 hd rfl (k p e Rm s m args below meth c H locs Q la hF hW hS hl hR)
theorem r_i2b {x : Int32} (hd : Ft M pc .i2b 1 nx) (k : WW G d M nx ls (.int x.toInt8.toInt32 :: st) S R I L ce sl mc ms K) : WW G d M pc ls (.int x :: st) S R I L ce sl mc ms K := by
  intro p e Rm s m args below meth c H locs Q la hF hW hS hl hR
  obtain ⟨hd, rfl⟩ := hd
  exact lv_i2b hF.1 hF.2.1 hd rfl (k p e Rm s m args below meth c H locs Q la hF hW hS hl hR)
theorem r_i2s {x : Int32} (hd : Ft M pc .i2s 1 nx) (k : WW G d M nx ls (.int x.toInt16.toInt32 :: st) S R I L ce sl mc ms K) : WW G d M pc ls (.int x :: st) S R I L ce sl mc ms K := by
  intro p e Rm s m args below meth c H locs Q la hF hW hS hl hR
  obtain ⟨hd, rfl⟩ := hd
  exact lv_i2s hF.1 hF.2.1 hd rfl (k p e Rm s m args below meth c H locs Q la hF hW hS hl hR)
theorem r_lcmp {x y : Int64} (hd : Ft M pc .lcmp 1 nx) (k : WW G d M nx ls (.int (lg_cmp x y) :: st) S R I L ce sl mc ms K) : WW G d M pc ls (.long y :: .long x :: st) S R I L ce sl mc ms K := by
  intro p e Rm s m args below meth c H locs Q la hF hW hS hl hR
  obtain ⟨hd, rfl⟩ := hd
  exact W.lcmp hF.1 hF.2.1 hd (k p e Rm s m args below meth c H locs Q la hF hW hS hl hR)
theorem r_dupi {x : Int32} (hd : Ft M pc .dup 1 nx) (k : WW G d M nx ls (.int x :: .int x :: st) S R I L ce sl mc ms K) : WW G d M pc ls (.int x :: st) S R I L ce sl mc ms K := by
  intro p e Rm s m args below meth c H locs Q la hF hW hS hl hR
  obtain ⟨hd, rfl⟩ := hd
  exact lv_dup hF.1 hF.2.1 hd rfl (k p e Rm s m args below meth c H locs Q la hF hW hS hl hR)
theorem r_dupr {x : Nat} (hd : Ft M pc .dup 1 nx) (k : WW G d M nx ls (.ref x :: .ref x :: st) S R I L ce sl mc ms K) : WW G d M pc ls (.ref x :: st) S R I L ce sl mc ms K := by
  intro p e Rm s m args below meth c H locs Q la hF hW hS hl hR
  obtain ⟨hd, rfl⟩ := hd
  exact lv_dup hF.1 hF.2.1 hd rfl (k p e Rm s m args below meth c H locs Q la hF hW hS hl hR)
theorem r_dup2 {x : Int32} {y : Nat} (hd : Ft M pc .dup2 1 nx) (k : WW G d M nx ls (.int x :: .ref y :: .int x :: .ref y :: st) S R I L ce sl mc ms K) : WW G d M pc ls (.int x :: .ref y :: st) S R I L ce sl mc ms K := by
  intro p e Rm s m args below meth c H locs Q la hF hW hS hl hR
  obtain ⟨hd, rfl⟩ := hd
  exact lv_dup2_11 hF.1 hF.2.1 hd rfl rfl (k p e Rm s m args below meth c H locs Q la hF hW hS hl hR)
theorem r_ic {v : Int32} (hd : Fc M pc v nx) (k : WW G d M nx ls (.int v :: st) S R I L ce sl mc ms K) : WW G d M pc ls st S R I L ce sl mc ms K := by
  intro p e Rm s m args below meth c H locs Q la hF hW hS hl hR
  have kk := k p e Rm s m args below meth c H locs Q la hF hW hS hl hR
  rcases hd with ⟨n, h1, h2, rfl⟩ | ⟨n, h1, h2, rfl⟩ | ⟨n, h1, h2, rfl⟩ | ⟨n, h1, h2, rfl⟩ | ⟨n, h1, h2, rfl⟩
  · exact lv_iconst hF.1 hF.2.1 h1 h2 kk
  · exact lv_bipush hF.1 hF.2.1 h1 h2 kk
  · exact lv_sipush hF.1 hF.2.1 h1 h2 kk
  · exact lv_ldc hF.1 hF.2.1 hF.2.2.2.2.2.2.1 (hF.2.2.2.2.2.2.2.1 _ h2) h1 kk
  · exact lv_ldcw hF.1 hF.2.1 hF.2.2.2.2.2.2.1 (hF.2.2.2.2.2.2.2.1 _ h2) h1 kk
theorem r_lc {v : Int64} (hd : Fk M pc v nx) (k : WW G d M nx ls (.long v :: st) S R I L ce sl mc ms K) : WW G d M pc ls st S R I L ce sl mc ms K := by
  intro p e Rm s m args below meth c H locs Q la hF hW hS hl hR
  have kk := k p e Rm s m args below meth c H locs Q la hF hW hS hl hR
  rcases hd with ⟨n, h1, h2, rfl⟩ | ⟨n, h1, h2, rfl⟩
  · exact lv_lconst hF.1 hF.2.1 h1 h2 kk
  · exact lv_ldc2 hF.1 hF.2.1 hF.2.2.2.2.2.2.1 (hF.2.2.2.2.2.2.2.1 _ h2) h1 kk
theorem r_ild {i : Nat} {x : Int32} (hd : Fvr M pc .iload_n .iload i nx) (hv : ls[i]? = some (some (.int x))) (k : WW G d M nx ls (.int x :: st) S R I L ce sl mc ms K) : WW G d M pc ls st S R I L ce sl mc ms K := by
  intro p e Rm s m args below meth c H locs Q la hF hW hS hl hR
  have kk := k p e Rm s m args below meth c H locs Q la hF hW hS hl hR
  rcases hd.1 with ⟨n, h1, h2, rfl⟩ | ⟨h1, rfl⟩
  · exact lv_iload_n hF.1 hF.2.1 h1 h2 (q_lv_get hl hv) kk
  · exact lv_iload hF.1 hF.2.1 h1 (q_lv_get hl hv) kk
theorem r_lld {i : Nat} {x : Int64} (hd : Fvr M pc .lload_n .lload i nx) (hv : ls[i]? = some (some (.long x))) (k : WW G d M nx ls (.long x :: st) S R I L ce sl mc ms K) : WW G d M pc ls st S R I L ce sl mc ms K := by
  intro p e Rm s m args below meth c H locs Q la hF hW hS hl hR
  have kk := k p e Rm s m args below meth c H locs Q la hF hW hS hl hR
  rcases hd.1 with ⟨n, h1, h2, rfl⟩ | ⟨h1, rfl⟩
  · exact lv_lload_n hF.1 hF.2.1 h1 h2 (q_lv_get hl hv) kk
  · exact lv_lload hF.1 hF.2.1 h1 (q_lv_get hl hv) kk
theorem r_ald {i : Nat} {x : Nat} (hd : Fvr M pc .aload_n .aload i nx) (hv : ls[i]? = some (some (.ref x))) (k : WW G d M nx ls (.ref x :: st) S R I L ce sl mc ms K) : WW G d M pc ls st S R I L ce sl mc ms K := by
  intro p e Rm s m args below meth c H locs Q la hF hW hS hl hR
  have kk := k p e Rm s m args below meth c H locs Q la hF hW hS hl hR
  rcases hd.1 with ⟨n, h1, h2, rfl⟩ | ⟨h1, rfl⟩
  · exact lv_aload_n hF.1 hF.2.1 h1 h2 (q_lv_get hl hv) kk
  · exact lv_aload hF.1 hF.2.1 h1 (q_lv_get hl hv) kk
theorem q_st1 {ls : List (Option Value)} {i : Nat} {v : Value} {nL : Nat} {la : Array Slot} (hp : ∀ j, i = j + 1 → q_n2 (ls.getD j none) = true) (h : lv_has la nL ((i, q_cv G v) :: (q_lv G ls).filter (fun q => !(q.1 == i) && !(q.1 + 1 == i && q.2.category == 2)))) : lv_has la nL (q_lv G (ls.set i (some v))) := by
  refine ⟨h.1, h.2.1, fun q hq => h.2.2 q ?_⟩
  obtain ⟨w, h1, h2⟩ := q_lv_mem.mp hq
  by_cases e : q.1 = i
  · have hlt : i < (ls.set i (some v)).length := by have h9 := (List.getElem?_eq_some_iff.mp h1).1; rw [e] at h9; exact h9
    rw [e, List.getElem?_set_self (by simpa using hlt)] at h1
    cases h1
    refine List.mem_cons.mpr (Or.inl ?_)
    cases q
    cases e
    cases h2
    rfl
  · rw [List.getElem?_set_ne (Ne.symm e)] at h1
    refine List.mem_cons.mpr (Or.inr (List.mem_filter.mpr ⟨q_lv_mem.mpr ⟨w, h1, h2⟩, ?_⟩))
    simp only [Bool.and_eq_true, Bool.not_eq_true', beq_eq_false_iff_ne, ne_eq, Bool.and_eq_false_iff]
    refine ⟨e, ?_⟩
    by_cases e2 : q.1 + 1 = i
    · right
      have h3 := hp q.1 e2.symm
      rw [List.getD_eq_getElem?_getD, h1] at h3
      rw [h2, q_cv_cat]
      cases w <;> first | (intro h; cases h; done) | cases h3
    · exact Or.inl e2
theorem q_st2 {ls : List (Option Value)} {i : Nat} {v : Value} {nL : Nat} {la : Array Slot} (hp : ∀ j, i = j + 1 → q_n2 (ls.getD j none) = true) (h : lv_has la nL ((i, q_cv G v) :: (q_lv G ls).filter (fun q => !(q.1 == i) && (!(q.1 == i + 1) && !(q.1 + 1 == i && q.2.category == 2))))) : lv_has la nL (q_lv G ((ls.set i (some v)).set (i + 1) none)) := by
  refine ⟨h.1, h.2.1, fun q hq => h.2.2 q ?_⟩
  obtain ⟨w, h1, h2⟩ := q_lv_mem.mp hq
  by_cases e1 : q.1 = i + 1
  · have hlt : i + 1 < ((ls.set i (some v)).set (i + 1) none).length := by have h9 := (List.getElem?_eq_some_iff.mp h1).1; rw [e1] at h9; exact h9
    rw [e1, List.getElem?_set_self (by simpa using hlt)] at h1
    cases h1
  · rw [List.getElem?_set_ne (Ne.symm e1)] at h1
    by_cases e : q.1 = i
    · have hlt : i < (ls.set i (some v)).length := by have h9 := (List.getElem?_eq_some_iff.mp h1).1; rw [e] at h9; exact h9
      rw [e, List.getElem?_set_self (by simpa using hlt)] at h1
      cases h1
      refine List.mem_cons.mpr (Or.inl ?_)
      cases q
      cases e
      cases h2
      rfl
    · rw [List.getElem?_set_ne (Ne.symm e)] at h1
      refine List.mem_cons.mpr (Or.inr (List.mem_filter.mpr ⟨q_lv_mem.mpr ⟨w, h1, h2⟩, ?_⟩))
      simp only [Bool.and_eq_true, Bool.not_eq_true', beq_eq_false_iff_ne, ne_eq, Bool.and_eq_false_iff]
      refine ⟨e, e1, ?_⟩
      by_cases e2 : q.1 + 1 = i
      · right
        have h3 := hp q.1 e2.symm
        rw [List.getD_eq_getElem?_getD, h1] at h3
        rw [h2, q_cv_cat]
        cases w <;> first | (intro h; cases h; done) | cases h3
      · exact Or.inl e2
theorem r_ist {i : Nat} {x : Int32} (hd : Fvr M pc .istore_n .istore i nx) (hp : ∀ j, i = j + 1 → q_n2 (ls.getD j none) = true) (k : WW G d M nx (ls.set i (some (.int x))) st S R I L ce sl mc ms K) : WW G d M pc ls (.int x :: st) S R I L ce sl mc ms K := by
  intro p e Rm s m args below meth c H locs Q la hF hW hS hl hR
  obtain ⟨hd, hi⟩ := hd
  rcases hd with ⟨n, h1, h2, rfl⟩ | ⟨h1, rfl⟩
  · exact lv_istore_n hF.1 hF.2.1 h1 h2 hl hi rfl (fun la' hl' => k p e Rm s m args below meth c H locs Q la' hF hW hS (q_st1 (v := .int x) hp hl') hR)
  · exact lv_istore hF.1 hF.2.1 h1 hl hi rfl (fun la' hl' => k p e Rm s m args below meth c H locs Q la' hF hW hS (q_st1 (v := .int x) hp hl') hR)
theorem r_ast {i : Nat} {x : Nat} (hd : Fvr M pc .astore_n .astore i nx) (hp : ∀ j, i = j + 1 → q_n2 (ls.getD j none) = true) (k : WW G d M nx (ls.set i (some (.ref x))) st S R I L ce sl mc ms K) : WW G d M pc ls (.ref x :: st) S R I L ce sl mc ms K := by
  intro p e Rm s m args below meth c H locs Q la hF hW hS hl hR
  obtain ⟨hd, hi⟩ := hd
  rcases hd with ⟨n, h1, h2, rfl⟩ | ⟨h1, rfl⟩
  · exact lv_astore_n hF.1 hF.2.1 h1 h2 hl hi rfl (fun la' hl' => k p e Rm s m args below meth c H locs Q la' hF hW hS (q_st1 (v := .ref x) hp hl') hR)
  · exact lv_astore hF.1 hF.2.1 h1 hl hi rfl (fun la' hl' => k p e Rm s m args below meth c H locs Q la' hF hW hS (q_st1 (v := .ref x) hp hl') hR)
theorem r_lst {i : Nat} {x : Int64} (hd : Fvr M pc .lstore_n .lstore i nx) (hi : i + 1 < M.2.2.1) (hp : ∀ j, i = j + 1 → q_n2 (ls.getD j none) = true) (k : WW G d M nx ((ls.set i (some (.long x))).set (i + 1) none) st S R I L ce sl mc ms K) : WW G d M pc ls (.long x :: st) S R I L ce sl mc ms K := by
  intro p e Rm s m args below meth c H locs Q la hF hW hS hl hR
  rcases hd.1 with ⟨n, h1, h2, rfl⟩ | ⟨h1, rfl⟩
  · exact lv_lstore_n hF.1 hF.2.1 h1 h2 hl hi rfl (fun la' hl' => k p e Rm s m args below meth c H locs Q la' hF hW hS (q_st2 (v := .long x) hp hl') hR)
  · exact lv_lstore hF.1 hF.2.1 h1 hl hi rfl (fun la' hl' => k p e Rm s m args below meth c H locs Q la' hF hW hS (q_st2 (v := .long x) hp hl') hR)
theorem r_iinc {i : Nat} {x v : Int32} (hd : Fi M pc i v nx) (hv : ls[i]? = some (some (.int x))) (hp : ∀ j, i = j + 1 → q_n2 (ls.getD j none) = true) (k : WW G d M nx (ls.set i (some (.int (x + v)))) st S R I L ce sl mc ms K) : WW G d M pc ls st S R I L ce sl mc ms K := by
  intro p e Rm s m args below meth c H locs Q la hF hW hS hl hR
  obtain ⟨n, h1, h2, rfl, hi⟩ := hd
  obtain ⟨t, ht⟩ := List.getElem?_of_mem (q_lv_mem (G := G) (q := (i, Value.int x)).mpr ⟨.int x, hv, rfl⟩)
  exact lv_iinc (v := x + v) hF.1 hF.2.1 h1 hl ht (by rw [h2]) hi rfl (fun la' hl' => k p e Rm s m args below meth c H locs Q la' hF hW hS (q_st1 (v := .int (x + v)) hp hl') hR)
theorem r_ic_eq {x y : Int32} (hd : Fb M pc (.if_icmp .eq) tgt nx) (kt : x = y → WW G d M tgt ls st S R I L ce sl mc ms K) (kf : ¬ x = y → WW G d M nx ls st S R I L ce sl mc ms K) : WW G d M pc ls (.int y :: .int x :: st) S R I L ce sl mc ms K := by
  intro p e Rm s m args below meth c H locs Q la hF hW hS hl hR
  obtain ⟨off, h1, h2, rfl⟩ := hd
  exact lv_icmp_eq hF.1 hF.2.1 h1 h2 (fun h => kt h p e Rm s m args below meth c H locs Q la hF hW hS hl hR) (fun h => kf h p e Rm s m args below meth c H locs Q la hF hW hS hl hR)
theorem r_ic_ne {x y : Int32} (hd : Fb M pc (.if_icmp .ne) tgt nx) (kt : ¬ x = y → WW G d M tgt ls st S R I L ce sl mc ms K) (kf : x = y → WW G d M nx ls st S R I L ce sl mc ms K) : WW G d M pc ls (.int y :: .int x :: st) S R I L ce sl mc ms K := by
  intro p e Rm s m args below meth c H locs Q la hF hW hS hl hR
  obtain ⟨off, h1, h2, rfl⟩ := hd
  exact lv_icmp_ne hF.1 hF.2.1 h1 h2 (fun h => kt h p e Rm s m args below meth c H locs Q la hF hW hS hl hR) (fun h => kf h p e Rm s m args below meth c H locs Q la hF hW hS hl hR)
theorem r_ic_lt {x y : Int32} (hd : Fb M pc (.if_icmp .lt) tgt nx) (kt : x < y → WW G d M tgt ls st S R I L ce sl mc ms K) (kf : ¬ x < y → WW G d M nx ls st S R I L ce sl mc ms K) : WW G d M pc ls (.int y :: .int x :: st) S R I L ce sl mc ms K := by
  intro p e Rm s m args below meth c H locs Q la hF hW hS hl hR
  obtain ⟨off, h1, h2, rfl⟩ := hd
  exact lv_icmp_lt hF.1 hF.2.1 h1 h2 (fun h => kt h p e Rm s m args below meth c H locs Q la hF hW hS hl hR) (fun h => kf h p e Rm s m args below meth c H locs Q la hF hW hS hl hR)
theorem r_ic_ge {x y : Int32} (hd : Fb M pc (.if_icmp .ge) tgt nx) (kt : y ≤ x → WW G d M tgt ls st S R I L ce sl mc ms K) (kf : ¬ y ≤ x → WW G d M nx ls st S R I L ce sl mc ms K) : WW G d M pc ls (.int y :: .int x :: st) S R I L ce sl mc ms K := by
  intro p e Rm s m args below meth c H locs Q la hF hW hS hl hR
  obtain ⟨off, h1, h2, rfl⟩ := hd
  exact lv_icmp_ge hF.1 hF.2.1 h1 h2 (fun h => kt h p e Rm s m args below meth c H locs Q la hF hW hS hl hR) (fun h => kf h p e Rm s m args below meth c H locs Q la hF hW hS hl hR)
theorem r_ic_gt {x y : Int32} (hd : Fb M pc (.if_icmp .gt) tgt nx) (kt : y < x → WW G d M tgt ls st S R I L ce sl mc ms K) (kf : ¬ y < x → WW G d M nx ls st S R I L ce sl mc ms K) : WW G d M pc ls (.int y :: .int x :: st) S R I L ce sl mc ms K := by
  intro p e Rm s m args below meth c H locs Q la hF hW hS hl hR
  obtain ⟨off, h1, h2, rfl⟩ := hd
  exact lv_icmp_gt hF.1 hF.2.1 h1 h2 (fun h => kt h p e Rm s m args below meth c H locs Q la hF hW hS hl hR) (fun h => kf h p e Rm s m args below meth c H locs Q la hF hW hS hl hR)
theorem r_ic_le {x y : Int32} (hd : Fb M pc (.if_icmp .le) tgt nx) (kt : x ≤ y → WW G d M tgt ls st S R I L ce sl mc ms K) (kf : ¬ x ≤ y → WW G d M nx ls st S R I L ce sl mc ms K) : WW G d M pc ls (.int y :: .int x :: st) S R I L ce sl mc ms K := by
  intro p e Rm s m args below meth c H locs Q la hF hW hS hl hR
  obtain ⟨off, h1, h2, rfl⟩ := hd
  exact lv_icmp_le hF.1 hF.2.1 h1 h2 (fun h => kt h p e Rm s m args below meth c H locs Q la hF hW hS hl hR) (fun h => kf h p e Rm s m args below meth c H locs Q la hF hW hS hl hR)
theorem r_if_eq {x : Int32} (hd : Fb M pc (.ifCond .eq) tgt nx) (kt : x = 0 → WW G d M tgt ls st S R I L ce sl mc ms K) (kf : ¬ x = 0 → WW G d M nx ls st S R I L ce sl mc ms K) : WW G d M pc ls (.int x :: st) S R I L ce sl mc ms K := by
  intro p e Rm s m args below meth c H locs Q la hF hW hS hl hR
  obtain ⟨off, h1, h2, rfl⟩ := hd
  exact lv_if_eq hF.1 hF.2.1 h1 h2 (fun h => kt h p e Rm s m args below meth c H locs Q la hF hW hS hl hR) (fun h => kf h p e Rm s m args below meth c H locs Q la hF hW hS hl hR)
theorem r_if_ne {x : Int32} (hd : Fb M pc (.ifCond .ne) tgt nx) (kt : ¬ x = 0 → WW G d M tgt ls st S R I L ce sl mc ms K) (kf : x = 0 → WW G d M nx ls st S R I L ce sl mc ms K) : WW G d M pc ls (.int x :: st) S R I L ce sl mc ms K := by
  intro p e Rm s m args below meth c H locs Q la hF hW hS hl hR
  obtain ⟨off, h1, h2, rfl⟩ := hd
  exact lv_if_ne hF.1 hF.2.1 h1 h2 (fun h => kt h p e Rm s m args below meth c H locs Q la hF hW hS hl hR) (fun h => kf h p e Rm s m args below meth c H locs Q la hF hW hS hl hR)
theorem r_if_lt {x : Int32} (hd : Fb M pc (.ifCond .lt) tgt nx) (kt : x < 0 → WW G d M tgt ls st S R I L ce sl mc ms K) (kf : ¬ x < 0 → WW G d M nx ls st S R I L ce sl mc ms K) : WW G d M pc ls (.int x :: st) S R I L ce sl mc ms K := by
  intro p e Rm s m args below meth c H locs Q la hF hW hS hl hR
  obtain ⟨off, h1, h2, rfl⟩ := hd
  exact lv_if_lt hF.1 hF.2.1 h1 h2 (fun h => kt h p e Rm s m args below meth c H locs Q la hF hW hS hl hR) (fun h => kf h p e Rm s m args below meth c H locs Q la hF hW hS hl hR)
theorem r_if_ge {x : Int32} (hd : Fb M pc (.ifCond .ge) tgt nx) (kt : 0 ≤ x → WW G d M tgt ls st S R I L ce sl mc ms K) (kf : ¬ 0 ≤ x → WW G d M nx ls st S R I L ce sl mc ms K) : WW G d M pc ls (.int x :: st) S R I L ce sl mc ms K := by
  intro p e Rm s m args below meth c H locs Q la hF hW hS hl hR
  obtain ⟨off, h1, h2, rfl⟩ := hd
  exact lv_if_ge hF.1 hF.2.1 h1 h2 (fun h => kt h p e Rm s m args below meth c H locs Q la hF hW hS hl hR) (fun h => kf h p e Rm s m args below meth c H locs Q la hF hW hS hl hR)
theorem r_if_gt {x : Int32} (hd : Fb M pc (.ifCond .gt) tgt nx) (kt : 0 < x → WW G d M tgt ls st S R I L ce sl mc ms K) (kf : ¬ 0 < x → WW G d M nx ls st S R I L ce sl mc ms K) : WW G d M pc ls (.int x :: st) S R I L ce sl mc ms K := by
  intro p e Rm s m args below meth c H locs Q la hF hW hS hl hR
  obtain ⟨off, h1, h2, rfl⟩ := hd
  exact lv_if_gt hF.1 hF.2.1 h1 h2 (fun h => kt h p e Rm s m args below meth c H locs Q la hF hW hS hl hR) (fun h => kf h p e Rm s m args below meth c H locs Q la hF hW hS hl hR)
theorem r_if_le {x : Int32} (hd : Fb M pc (.ifCond .le) tgt nx) (kt : x ≤ 0 → WW G d M tgt ls st S R I L ce sl mc ms K) (kf : ¬ x ≤ 0 → WW G d M nx ls st S R I L ce sl mc ms K) : WW G d M pc ls (.int x :: st) S R I L ce sl mc ms K := by
  intro p e Rm s m args below meth c H locs Q la hF hW hS hl hR
  obtain ⟨off, h1, h2, rfl⟩ := hd
  exact lv_if_le hF.1 hF.2.1 h1 h2 (fun h => kt h p e Rm s m args below meth c H locs Q la hF hW hS hl hR) (fun h => kf h p e Rm s m args below meth c H locs Q la hF hW hS hl hR)
theorem r_goto (hd : Fb M pc .goto tgt nx) (k : WW G d M tgt ls st S R I L ce sl mc ms K) : WW G d M pc ls st S R I L ce sl mc ms K := by
  intro p e Rm s m args below meth c H locs Q la hF hW hS hl hR
  obtain ⟨off, h1, h2, rfl⟩ := hd
  exact lv_goto hF.1 hF.2.1 h1 h2 (k p e Rm s m args below meth c H locs Q la hF hW hS hl hR)
theorem r_iret {x : Int32} (hd : Ft M pc .ireturn 1 nx) (hn : q_nar M (some (.int x))) (hc : ce ≤ mc) (hs : sl ≤ ms) (hk : K (some (.int x)) S R I L) : WW G d M pc ls [.int x] S R I L ce sl mc ms K := by
  intro p e Rm s m args below meth c H locs Q la hF hW hS hl hR
  exact W.widen hc hs (hR (some (.int x)) S R I L H locs pc la hk hW hS hd.1 hn)
theorem r_lret {x : Int64} (hd : Ft M pc .lreturn 1 nx) (hn : q_nar M (some (.long x))) (hc : ce ≤ mc) (hs : sl ≤ ms) (hk : K (some (.long x)) S R I L) : WW G d M pc ls [.long x] S R I L ce sl mc ms K := by
  intro p e Rm s m args below meth c H locs Q la hF hW hS hl hR
  exact W.widen hc hs (hR (some (.long x)) S R I L H locs pc la hk hW hS hd.1 hn)
theorem r_ret (hd : Ft M pc .return_ 1 nx) (hn : q_nar M none) (hc : ce ≤ mc) (hs : sl ≤ ms) (hk : K none S R I L) : WW G d M pc ls [] S R I L ce sl mc ms K := by
  intro p e Rm s m args below meth c H locs Q la hF hW hS hl hR
  exact W.widen hc hs (hR none S R I L H locs pc la hk hW hS hd.1 hn)
/-! switches -/
def q_swt (cs : List (Int × Nat)) (df : Nat) (z : Int) : Nat := match cs with
  | [] => df
  | (a, t) :: r => if z = a then t else q_swt r df z
def q_tcs (a : Int) (ts : List Nat) : List (Int × Nat) := match ts with
  | [] => []
  | t :: r => (a, t) :: q_tcs (a + 1) r
theorem q_swt_tab (df : Nat) (z : Int) : ∀ (ts : List Nat) (a : Int), q_swt (q_tcs a ts) df z = if a ≤ z ∧ z < a + ts.length then ts.getD (z - a).toNat df else df
  | [], a => by
    rw [if_neg (by simp only [List.length_nil]; omega)]
    rfl
  | t :: r, a => by
    show (if z = a then t else q_swt (q_tcs (a + 1) r) df z) = _
    by_cases e : z = a
    · subst e
      rw [if_pos rfl, if_pos (by simp only [List.length_cons]; omega), Int.sub_self]
      rfl
    · rw [if_neg e, q_swt_tab df z r (a + 1)]
      by_cases h : a + 1 ≤ z ∧ z < a + 1 + r.length
      · rw [if_pos h, if_pos (by simp only [List.length_cons]; omega), show (z - a).toNat = (z - (a + 1)).toNat + 1 by omega, List.getD_cons_succ]
      · rw [if_neg h, if_neg (by simp only [List.length_cons]; omega)]
/-- a table of targets: the offsets as the code has them lead there -/
def Fw (M : Mt) (pc : Nat) (cs : List (Int × Nat)) (df : Nat) : Prop :=
  (∃ (dflt lo hi : Int) (offs : Array Int) (len : Nat) (ts : List Nat), decode M.2.1 pc = .ok (.tableswitch dflt lo hi offs, len) ∧ (pc : Int) + dflt = (df : Int) ∧ hi + 1 = lo + ts.length ∧ offs.toList.map (fun o => (pc : Int) + o) = ts.map (fun t : Nat => (t : Int)) ∧ cs = q_tcs lo ts) ∨
  (∃ (dflt : Int) (ps : Array (Int × Int)) (len : Nat), decode M.2.1 pc = .ok (.lookupswitch dflt ps, len) ∧ (pc : Int) + dflt = (df : Int) ∧ (ps.toList.zip (ps.toList.drop 1)).all (fun (a, next) => a.1 < next.1) = true ∧ ps.toList.map (fun q => (q.1, (pc : Int) + q.2)) = cs.map (fun t => (t.1, (t.2 : Int))))
theorem q_look {pc : Nat} {dflt : Int} {df : Nat} (hd : (pc : Int) + dflt = (df : Int)) (z : Int) : ∀ (ps : List (Int × Int)) (cs : List (Int × Nat)), ps.map (fun q => (q.1, (pc : Int) + q.2)) = cs.map (fun t => (t.1, (t.2 : Int))) → (pc : Int) + Op.lookupswitch.offset ps dflt z = (q_swt cs df z : Int)
  | [], [], _ => hd
  | [], _ :: _, h => by cases h
  | _ :: _, [], h => by cases h
  | (a, o) :: r, (b, t) :: cs, h => by
    simp only [List.map_cons, List.cons.injEq, Prod.mk.injEq] at h
    obtain ⟨⟨rfl, h2⟩, h3⟩ := h
    rw [Op.lookupswitch.offset_cons]
    show _ = ((if z = a then t else q_swt cs df z : Nat) : Int)
    by_cases e : z = a
    · rw [if_pos e, if_pos (by first | exact e | exact e.symm)]
      exact h2
    · rw [if_neg e, if_neg (by first | exact e | exact Ne.symm e)]
      exact q_look hd z r cs h3
theorem r_sw {x : Int32} {cs : List (Int × Nat)} {df : Nat} (hd : Fw M pc cs df) (k : WW G d M (q_swt cs df x.toInt) ls st S R I L ce sl mc ms K) : WW G d M pc ls (.int x :: st) S R I L ce sl mc ms K := by
  intro p e Rm s m args below meth c H locs Q la hF hW hS hl hR
  have kk := k p e Rm s m args below meth c H locs Q la hF hW hS hl hR
  rcases hd with ⟨dflt, lo, hi, offs, len, ts, h1, h2, h3, h4, rfl⟩ | ⟨dflt, ps, len, h1, h2, h3, h4⟩
  · rw [q_swt_tab] at kk
    by_cases h : lo ≤ x.toInt ∧ x.toInt < lo + ts.length
    · rw [if_pos h] at kk
      have hlen : offs.toList.length = ts.length := by
        have := congrArg List.length h4
        simpa using this
      have hj : (x.toInt - lo).toNat < ts.length := by omega
      have hjo : (x.toInt - lo).toNat < offs.toList.length := by omega
      have e1 : (offs.toList.map (fun o => (pc : Int) + o))[(x.toInt - lo).toNat]? = (ts.map (fun t : Nat => (t : Int)))[(x.toInt - lo).toNat]? := by rw [h4]
      rw [List.getElem?_map, List.getElem?_map, List.getElem?_eq_getElem hjo, List.getElem?_eq_getElem hj] at e1
      have e2 := Option.some.inj e1
      rw [List.getD_eq_getElem?_getD, List.getElem?_eq_getElem hj, Option.getD_some] at kk
      refine lv_tableIn hF.1 hF.2.1 h1 (by omega) (by omega) (off := offs.toList[(x.toInt - lo).toNat]) ?_ e2 kk
      rw [← Array.getElem?_toList]
      exact List.getElem?_eq_getElem hjo
    · rw [if_neg h] at kk
      exact lv_tableOut hF.1 hF.2.1 h1 (by omega) h2 kk
  · exact lv_lookup hF.1 hF.2.1 h1 h3 rfl (q_look h2 _ _ _ h4) kk
end RU
end
section
/-! RULES of the heap -/
def q_Kf (k : Nat) (C : String) (T : u_T) (N : Nat) (ty : Nat → FieldType) : Prop := q_cls[k]? = some (C, T, N) ∧ (∀ w ∈ u_ws C T N, w ∈ q_gw) ∧ (∀ j, j < N → parseFieldDescriptor (T j).2.2.1 = some (ty j)) ∧ (∀ a, a < N → ∀ b, b < N → a ≠ b → (T a).2.1 ≠ (T b).2.1) ∧ k < 9
/-- a field by its pool number in a method's own class: field j of class k, of n fields -/
def q_Fs (M : Mt) (ix k n j : Nat) (t0 : FieldType) (fin : Bool) : Prop := ∃ (C : String) (T : u_T) (ty : Nat → FieldType), q_Kf k C T n ty ∧ j < n ∧ Cond.fieldLink M.1.cls ix (T j).1 (T j).2.1 (T j).2.2.1 ∈ q_gw ∧ ty j = t0 ∧ (T j).2.2.2 = fin
def Fg (M : Mt) (pc k n j tc nx : Nat) : Prop := ∃ (ix : Nat) (t0 : FieldType) (fin : Bool), decode M.2.1 pc = .ok (.getfield ix, 3) ∧ pc + 3 = nx ∧ q_Fs M ix k n j t0 fin ∧ q_ft k j = tc
def Fp (M : Mt) (pc k n j : Nat) (t0 : FieldType) (tc nx : Nat) : Prop := ∃ (ix : Nat), decode M.2.1 pc = .ok (.putfield ix, 3) ∧ pc + 3 = nx ∧ q_Fs M ix k n j t0 false ∧ q_ft k j = tc
def Fpf (M : Mt) (pc k n j : Nat) (t0 : FieldType) (tc nx : Nat) : Prop := ∃ (ix : Nat), decode M.2.1 pc = .ok (.putfield ix, 3) ∧ pc + 3 = nx ∧ q_Fs M ix k n j t0 true ∧ q_ft k j = tc ∧ M.1.name = "<init>" ∧ ((q_cls.getD k ("", TX0, 0)).2.1 j).1 = M.1.cls
section RH
variable {G : Gx} {d : Nat} {M : Mt} {pc nx : Nat} {ls : List (Option Value)} {st : List Value} {S : Shp} {R : Rf} {I : Rn} {L : Rl} {ce sl mc ms : Nat} {K : Kt}
variable {p : Program} {e : Env} {Rm : Room} {s : State} {m : MethodId} {args : Array Value} {below : List Frame} {meth : Method} {c : Code} {H : Heap} {locs : List Loc} {Q : State → Prop} {la : Array Slot}
theorem q_getf {k n j tc i : Nat} (hd : Fg M pc k n j tc nx) (hi : S[i]? = some (k, n)) (hF : q_Fx G d M mc ms p Rm s m args meth c) (hW : q_Wd G S R I L H)
    (kk : W p G.1 e Rm s m args below meth c H locs ce sl Q (F0 m nx la (q_val G R I L tc i j :: st.map (q_cv G)))) : W p G.1 e Rm s m args below meth c H locs ce sl Q (F0 m pc la ((.ref i :: st).map (q_cv G))) := by
  obtain ⟨ix, t0, fin, hd, rfl, ⟨C, T, ty, ⟨k1, k2, k3, k4, k5⟩, hj, hlk, -, -⟩, rfl⟩ := hd
  obtain ⟨f1, f2, f3, f4, f5, f6, f7, f8, f9, -⟩ := id hF
  have h1 := hW.2.2 i _ hi
  rw [q_at_obj (by omega)] at h1
  obtain ⟨cell, c1, c2, c3, c4⟩ := h1
  obtain ⟨hS, hfc, kC, hkC, hkind⟩ := f9.1.1 k _ k1
  obtain ⟨cf, kf, fi, f, hfi, hsl⟩ := hS j hj
  have e0 : (Value.ref i :: st).map (q_cv G) = .ref (G.2.1 + i) :: st.map (q_cv G) := by rw [← q_ad_lt hW hi]; rfl
  rw [e0]
  exact W.getf f1 f2 f7 (f8 _ hlk) hfi (u_facts hfc hkC (u_lays f8 k2 hj) hfi).1 c1 (by rw [c3]; exact fun h => by cases h) (v := q_val G R I L (q_ft k j) i j) (by rw [hsl]; exact c4 j hj) rfl rfl hd kk
theorem r_gi {k n j i : Nat} (hd : Fg M pc k n j 0 nx) (hi : S[i]? = some (k, n)) (kk : WW G d M nx ls (.int (I i j) :: st) S R I L ce sl mc ms K) : WW G d M pc ls (.ref i :: st) S R I L ce sl mc ms K := by
  intro p e Rm s m args below meth c H locs Q la hF hW hS hl hR
  exact q_getf hd hi hF hW (kk p e Rm s m args below meth c H locs Q la hF hW hS hl hR)
theorem r_gl {k n j i : Nat} (hd : Fg M pc k n j 1 nx) (hi : S[i]? = some (k, n)) (kk : WW G d M nx ls (.long (L i j) :: st) S R I L ce sl mc ms K) : WW G d M pc ls (.ref i :: st) S R I L ce sl mc ms K := by
  intro p e Rm s m args below meth c H locs Q la hF hW hS hl hR
  exact q_getf hd hi hF hW (kk p e Rm s m args below meth c H locs Q la hF hW hS hl hR)
theorem r_gr {k n j i r : Nat} (hd : Fg M pc k n j 2 nx) (hi : S[i]? = some (k, n)) (hr : R i j = some r) (kk : WW G d M nx ls (.ref r :: st) S R I L ce sl mc ms K) : WW G d M pc ls (.ref i :: st) S R I L ce sl mc ms K := by
  intro p e Rm s m args below meth c H locs Q la hF hW hS hl hR
  refine q_getf hd hi hF hW ?_
  have := kk p e Rm s m args below meth c H locs Q la hF hW hS hl hR
  show W p G.1 e Rm s m args below meth c H locs ce sl Q (F0 m nx la (va_rf ((R i j).map (q_ad G)) :: st.map (q_cv G)))
  rw [hr]
  exact this
theorem q_apart {k : Nat} {C : String} {T : u_T} {N : Nat} {ty : Nat → FieldType} (hk : q_Kf k C T N ty) (hF : q_Fx G d M mc ms p Rm s m args meth c) : ∀ x y, x < N → y < N → x ≠ y → (G.2.2.2.1.2 k) x ≠ (G.2.2.2.1.2 k) y := by
  obtain ⟨k1, k2, k3, k4, k5⟩ := hk
  exact va_apart (own := M.1.cls) hF.2.2.2.2.2.2.2.1 k2 ty k3 k4 hF.2.2.2.2.2.2.2.2.1.1 k1
/-- the world behind a store into field j of cell i -/
theorem q_stored {R' : Rf} {I' : Rn} {L' : Rl} {k n j i : Nat} {H1 : Heap} {cell : Cell} {v : Value} (hk : k < 20) (hW : q_Wd G S R I L H) (hi : S[i]? = some (k, n)) (c2 : cell.cls = G.2.2.2.1.1 k) (c3 : cell.vm = .none) (c4 : ∀ x, x < n → cell.slots[G.2.2.2.1.2 k x]? = some (q_val G R I L (q_ft k x) i x)) (hap : ∀ x y, x < n → y < n → x ≠ y → (G.2.2.2.1.2 k) x ≠ (G.2.2.2.1.2 k) y) (hj : j < n)
    (e1 : H1[G.2.1 + i]? = some (cell.setSlot (G.2.2.2.1.2 k j) v)) (e2 : H1.size = H.size) (e3 : ∀ q, q ≠ G.2.1 + i → H1[q]? = H[q]?) (hr : ∀ a, a ≠ i → R' a = R a ∧ I' a = I a ∧ L' a = L a) (hv : ∀ x, x < n → updV (fun x => q_val G R I L (q_ft k x) i x) j v x = q_val G R' I' L' (q_ft k x) i x) : q_Wd G S R' I' L' H1 := by
  refine hW.upd hi e2 e3 hr ?_
  rw [q_at_obj hk]
  exact t_OB.to (V := updV (fun x => q_val G R I L (q_ft k x) i x) j v) ⟨_, e1, c2, c3, t_set c4 hap hj v⟩ hv
theorem q_putf {R' : Rf} {I' : Rn} {L' : Rl} {k n j tc i : Nat} {t0 : FieldType} {v : Value} (hd : Fp M pc k n j t0 tc nx) (hi : S[i]? = some (k, n)) (hn : narrow t0 (q_cv G v) = q_cv G v) (hft : fits t0 (q_cv G v) = true) (hr : ∀ a, a ≠ i → R' a = R a ∧ I' a = I a ∧ L' a = L a) (hv : ∀ x, updV (fun x => q_val G R I L (q_ft k x) i x) j (q_cv G v) x = q_val G R' I' L' (q_ft k x) i x) (hF : q_Fx G d M mc ms p Rm s m args meth c) (hW : q_Wd G S R I L H) (hS : va_S (q_A G) s.heap H locs)
    (kk : ∀ (H1 : Heap) (locs1 : List Loc), q_Wd G S R' I' L' H1 → va_S (q_A G) s.heap H1 locs1 → W p G.1 e Rm s m args below meth c H1 locs1 ce sl Q (F0 m nx la (st.map (q_cv G)))) : W p G.1 e Rm s m args below meth c H locs ce sl Q (F0 m pc la ((v :: .ref i :: st).map (q_cv G))) := by
  obtain ⟨ix, hd, rfl, ⟨C, T, ty, hKf, hj, hlk, rfl, hfin⟩, rfl⟩ := hd
  have hap := q_apart hKf hF
  obtain ⟨k1, k2, k3, k4, k5⟩ := hKf
  obtain ⟨f1, f2, f3, f4, f5, f6, f7, f8, f9, -⟩ := id hF
  have h1 := hW.2.2 i _ hi
  rw [q_at_obj (by omega)] at h1
  obtain ⟨cell, c1, c2, c3, c4⟩ := h1
  obtain ⟨hSl, hfc, kC, hkC, hkind⟩ := f9.1.1 k _ k1
  obtain ⟨cf, kf, fi, f, hfi, hsl⟩ := hSl j hj
  have hlay := f8 _ (k2 _ (u_in_lay hj))
  unfold u_lay at hlay
  rw [if_neg (by rw [hfin]; decide)] at hlay
  have hst := (u_facts hfc hkC (u_lays f8 k2 hj) hfi).1
  have h6 := u_store hfc hkC hkind hlay hfi (k3 j hj) hn hft
  have e0 : (v :: Value.ref i :: st).map (q_cv G) = q_cv G v :: .ref (G.2.1 + i) :: st.map (q_cv G) := by rw [← q_ad_lt hW hi]; rfl
  rw [e0]
  refine W.putK f1 f2 (f := f) ⟨f7, f8 _ hlk, ⟨_, _, _, hfi⟩, hst⟩ (by rw [c2]; exact h6) c1 c3 (by rw [hsl]; exact k2_hasslot (c4 j hj)) rfl rfl hd fun H' e1 e2 e3 => ?_
  rw [hsl] at e1 ⊢
  exact kk H' _ (q_stored (by omega) hW hi c2 c3 c4 hap hj e1 e2 e3 hr (fun x _ => hv x)) (hS.put e2 e3 (show q_A G (G.2.1 + i) from Nat.le_add_right _ _))
theorem q_putF {R' : Rf} {I' : Rn} {L' : Rl} {k n j tc i : Nat} {t0 : FieldType} {v : Value} (hd : Fpf M pc k n j t0 tc nx) (hi : S[i]? = some (k, n)) (hn : narrow t0 (q_cv G v) = q_cv G v) (hft : fits t0 (q_cv G v) = true) (hr : ∀ a, a ≠ i → R' a = R a ∧ I' a = I a ∧ L' a = L a) (hv : ∀ x, updV (fun x => q_val G R I L (q_ft k x) i x) j (q_cv G v) x = q_val G R' I' L' (q_ft k x) i x) (hF : q_Fx G d M mc ms p Rm s m args meth c) (hW : q_Wd G S R I L H) (hS : va_S (q_A G) s.heap H locs)
    (kk : ∀ (H1 : Heap) (locs1 : List Loc), q_Wd G S R' I' L' H1 → va_S (q_A G) s.heap H1 locs1 → W p G.1 e Rm s m args below meth c H1 locs1 ce sl Q (F0 m nx la (st.map (q_cv G)))) : W p G.1 e Rm s m args below meth c H locs ce sl Q (F0 m pc la ((v :: .ref i :: st).map (q_cv G))) := by
  obtain ⟨ix, hd, rfl, ⟨C, T, ty, hKf, hj, hlk, rfl, hfin⟩, rfl, hinit, hdecl⟩ := hd
  have hap := q_apart hKf hF
  obtain ⟨k1, k2, k3, k4, k5⟩ := hKf
  have hdecl : (T j).1 = M.1.cls := by
    rw [List.getD_eq_getElem?_getD, k1] at hdecl
    exact hdecl
  obtain ⟨f1, f2, f3, f4, f5, f6, f7, f8, f9, -⟩ := id hF
  have h1 := hW.2.2 i _ hi
  rw [q_at_obj (by omega)] at h1
  obtain ⟨cell, c1, c2, c3, c4⟩ := h1
  obtain ⟨hSl, hfc, kC, hkC, hkind⟩ := f9.1.1 k _ k1
  obtain ⟨cf, kf, fi, f, hfi, hsl⟩ := hSl j hj
  have hlay := f8 _ (k2 _ (u_in_lay hj))
  unfold u_lay at hlay
  rw [if_pos hfin] at hlay
  have hst := (u_facts hfc hkC (u_lays f8 k2 hj) hfi).1
  have hcf : m.cls = cf := by
    obtain ⟨_, _, c', _, _, _, -, -, hf', -, -, -, hown2, -⟩ := Cond.laysFinal_spec hlay
    have e1 : c' = cf := by have := hfi.symm.trans hf'; simp at this; exact this.1.symm
    rw [hdecl] at hown2
    rw [← e1]; exact Option.some.inj (f7.symm.trans hown2)
  have h6 := u_fits hfc hkC hkind (Or.inr hlay) hfi (k3 j hj) hn hft
  have e0 : (v :: Value.ref i :: st).map (q_cv G) = q_cv G v :: .ref (G.2.1 + i) :: st.map (q_cv G) := by rw [← q_ad_lt hW hi]; rfl
  rw [e0]
  refine W.putFinK f1 f2 f7 (f8 _ hlk) hfi hst hcf (f5.trans hinit) (by rw [c2]; exact h6) c1 c3 (by rw [hsl]; exact k2_hasslot (c4 j hj)) rfl rfl hd fun H' e1 e2 e3 => ?_
  rw [hsl] at e1 ⊢
  exact kk H' _ (q_stored (by omega) hW hi c2 c3 c4 hap hj e1 e2 e3 hr (fun x _ => hv x)) (hS.put e2 e3 (show q_A G (G.2.1 + i) from Nat.le_add_right _ _))
theorem q_updI {k j i : Nat} {x : Int32} (ht : q_ft k j = 0) (y : Nat) : updV (fun x => q_val G R I L (q_ft k x) i x) j (.int x) y = q_val G R (u2 I i j x) L (q_ft k y) i y := by
  by_cases h : y = j
  · subst h
    rw [ht]
    simp [updV, q_val, u2]
  · simp [updV, q_val, u2, h]
theorem q_updL {k j i : Nat} {x : Int64} (ht : q_ft k j = 1) (y : Nat) : updV (fun x => q_val G R I L (q_ft k x) i x) j (.long x) y = q_val G R I (u2 L i j x) (q_ft k y) i y := by
  by_cases h : y = j
  · subst h
    rw [ht]
    simp [updV, q_val, u2]
  · simp [updV, q_val, u2, h]
theorem q_updR {k j i x : Nat} (ht : q_ft k j = 2) (y : Nat) : updV (fun x => q_val G R I L (q_ft k x) i x) j (.ref (q_ad G x)) y = q_val G (u2 R i j (some x)) I L (q_ft k y) i y := by
  by_cases h : y = j
  · subst h
    rw [ht]
    simp [updV, q_val, u2, va_rf]
  · simp [updV, q_val, u2, h]
theorem r_pi {k n j i : Nat} {x : Int32} (hd : Fp M pc k n j .int 0 nx) (hi : S[i]? = some (k, n)) (kk : WW G d M nx ls st S R (u2 I i j x) L ce sl mc ms K) : WW G d M pc ls (.int x :: .ref i :: st) S R I L ce sl mc ms K := by
  intro p e Rm s m args below meth c H locs Q la hF hW hS hl hR
  have ht : q_ft k j = 0 := by obtain ⟨_, -, -, -, h⟩ := hd; exact h
  exact q_putf (v := .int x) hd hi rfl rfl (fun a ha => ⟨rfl, u2_row ha, rfl⟩) (q_updI ht) hF hW hS (fun H1 locs1 hW1 hS1 => kk p e Rm s m args below meth c H1 locs1 Q la hF hW1 hS1 hl hR)
theorem r_pz {k n j i : Nat} {x : Int32} (hd : Fp M pc k n j .boolean 0 nx) (hi : S[i]? = some (k, n)) (hx : x = 0 ∨ x = 1) (kk : WW G d M nx ls st S R (u2 I i j x) L ce sl mc ms K) : WW G d M pc ls (.int x :: .ref i :: st) S R I L ce sl mc ms K := by
  intro p e Rm s m args below meth c H locs Q la hF hW hS hl hR
  have ht : q_ft k j = 0 := by obtain ⟨_, -, -, -, h⟩ := hd; exact h
  exact q_putf (v := .int x) hd hi (by rcases hx with rfl | rfl <;> rfl) (by rcases hx with rfl | rfl <;> rfl) (fun a ha => ⟨rfl, u2_row ha, rfl⟩) (q_updI ht) hF hW hS (fun H1 locs1 hW1 hS1 => kk p e Rm s m args below meth c H1 locs1 Q la hF hW1 hS1 hl hR)
theorem r_pl {k n j i : Nat} {x : Int64} (hd : Fp M pc k n j .long 1 nx) (hi : S[i]? = some (k, n)) (kk : WW G d M nx ls st S R I (u2 L i j x) ce sl mc ms K) : WW G d M pc ls (.long x :: .ref i :: st) S R I L ce sl mc ms K := by
  intro p e Rm s m args below meth c H locs Q la hF hW hS hl hR
  have ht : q_ft k j = 1 := by obtain ⟨_, -, -, -, h⟩ := hd; exact h
  exact q_putf (v := .long x) hd hi rfl rfl (fun a ha => ⟨rfl, rfl, u2_row ha⟩) (q_updL ht) hF hW hS (fun H1 locs1 hW1 hS1 => kk p e Rm s m args below meth c H1 locs1 Q la hF hW1 hS1 hl hR)
theorem r_pr {k n j i x : Nat} {t0 : FieldType} (hd : Fpf M pc k n j t0 2 nx) (ht0 : t0.isReference = true) (hi : S[i]? = some (k, n)) (kk : WW G d M nx ls st S (u2 R i j (some x)) I L ce sl mc ms K) : WW G d M pc ls (.ref x :: .ref i :: st) S R I L ce sl mc ms K := by
  intro p e Rm s m args below meth c H locs Q la hF hW hS hl hR
  have ht : q_ft k j = 2 := by obtain ⟨_, -, -, -, h, -⟩ := hd; exact h
  have hnf : narrow t0 (.ref (q_ad G x)) = .ref (q_ad G x) ∧ fits t0 (.ref (q_ad G x)) = true := by
    cases t0 <;> first | exact ⟨rfl, rfl⟩ | cases ht0
  exact q_putF (v := .ref x) hd hi hnf.1 hnf.2 (fun a ha => ⟨u2_row ha, rfl, rfl⟩) (q_updR ht) hF hW hS (fun H1 locs1 hW1 hS1 => kk p e Rm s m args below meth c H1 locs1 Q la hF hW1 hS1 hl hR)
/-! arrays -/
theorem q_arr {k n i : Nat} (hk : ¬ k < 20) (hW : q_Wd G S R I L H) (hi : S[i]? = some (k, n)) : H[G.2.1 + i]? = some (arrV (G.2.2.2.2.1 (k - 20)) n (fun j => q_val G R I L (q_aty k) i j)) := by
  have h1 := hW.2.2 i _ hi
  rw [q_at_arr hk] at h1
  exact h1
theorem q_inA {i : Int32} {j n : Nat} {cA : ClassId} {f : Nat → Value} (h : q_ix i j n) : ¬ (i < 0 ∨ (arrV cA n f).slots.size ≤ i.toNatClampNeg) := by rw [arrV_size]; exact h.in
theorem q_rdA {i : Int32} {j n : Nat} {cA : ClassId} {f : Nat → Value} (h : q_ix i j n) : (arrV cA n f).slots[i.toNatClampNeg]? = some (f j) := by rw [h.clamp, arrV_read _ _ h.2]
theorem r_iald {a n j : Nat} {i : Int32} (hd : Ft M pc .iaload 1 nx) (hi : S[a]? = some (20, n)) (hj : q_ix i j n) (kk : WW G d M nx ls (.int (I a j) :: st) S R I L ce sl mc ms K) : WW G d M pc ls (.int i :: .ref a :: st) S R I L ce sl mc ms K := by
  intro p e Rm s m args below meth c H locs Q la hF hW hS hl hR
  obtain ⟨hd, rfl⟩ := hd
  have e0 : (Value.int i :: Value.ref a :: st).map (q_cv G) = .int i :: .ref (G.2.1 + a) :: st.map (q_cv G) := by rw [← q_ad_lt hW hi]; rfl
  rw [e0]
  exact W.iald (v := .int (I a j)) hF.1 hF.2.1 (q_arr (by decide) hW hi) ((hF.2.2.2.2.2.2.2.2.1.1.2 0 _ rfl).1 n _) (fun q => by cases q) (q_inA hj) (q_rdA hj) rfl rfl hd (kk p e Rm s m args below meth c H locs Q la hF hW hS hl hR)
theorem r_lald {a n j : Nat} {i : Int32} (hd : Ft M pc .laload 1 nx) (hi : S[a]? = some (21, n)) (hj : q_ix i j n) (kk : WW G d M nx ls (.long (L a j) :: st) S R I L ce sl mc ms K) : WW G d M pc ls (.int i :: .ref a :: st) S R I L ce sl mc ms K := by
  intro p e Rm s m args below meth c H locs Q la hF hW hS hl hR
  obtain ⟨hd, rfl⟩ := hd
  have e0 : (Value.int i :: Value.ref a :: st).map (q_cv G) = .int i :: .ref (G.2.1 + a) :: st.map (q_cv G) := by rw [← q_ad_lt hW hi]; rfl
  rw [e0]
  exact W.lald (v := .long (L a j)) hF.1 hF.2.1 (q_arr (by decide) hW hi) ((hF.2.2.2.2.2.2.2.2.1.1.2 1 _ rfl).1 n _) (fun q => by cases q) (q_inA hj) (q_rdA hj) rfl rfl hd (kk p e Rm s m args below meth c H locs Q la hF hW hS hl hR)
theorem r_zald {a n j : Nat} {i : Int32} (hd : Ft M pc .baload 1 nx) (hi : S[a]? = some (22, n)) (hj : q_ix i j n) (kk : WW G d M nx ls (.int (I a j) :: st) S R I L ce sl mc ms K) : WW G d M pc ls (.int i :: .ref a :: st) S R I L ce sl mc ms K := by
  intro p e Rm s m args below meth c H locs Q la hF hW hS hl hR
  obtain ⟨hd, rfl⟩ := hd
  have e0 : (Value.int i :: Value.ref a :: st).map (q_cv G) = .int i :: .ref (G.2.1 + a) :: st.map (q_cv G) := by rw [← q_ad_lt hW hi]; rfl
  rw [e0]
  exact W.zald (v := .int (I a j)) hF.1 hF.2.1 (q_arr (by decide) hW hi) ((hF.2.2.2.2.2.2.2.2.1.1.2 2 _ rfl).1 n _) (fun q => by cases q) (q_inA hj) (q_rdA hj) rfl rfl hd (kk p e Rm s m args below meth c H locs Q la hF hW hS hl hR)
theorem r_aald {a n j k r : Nat} {i : Int32} (hd : Ft M pc .aaload 1 nx) (hk : k = 23 ∨ k = 24 ∨ k = 25) (hi : S[a]? = some (k, n)) (hj : q_ix i j n) (hr : R a j = some r) (kk : WW G d M nx ls (.ref r :: st) S R I L ce sl mc ms K) : WW G d M pc ls (.int i :: .ref a :: st) S R I L ce sl mc ms K := by
  intro p e Rm s m args below meth c H locs Q la hF hW hS hl hR
  obtain ⟨hd, rfl⟩ := hd
  have e0 : (Value.int i :: Value.ref a :: st).map (q_cv G) = .int i :: .ref (G.2.1 + a) :: st.map (q_cv G) := by rw [← q_ad_lt hW hi]; rfl
  rw [e0]
  have k1 := kk p e Rm s m args below meth c H locs Q la hF hW hS hl hR
  have ev : q_val G R I L 2 a j = .ref (q_ad G r) := by
    show va_rf ((R a j).map (q_ad G)) = _
    rw [hr]
    rfl
  rcases hk with rfl | rfl | rfl
  · refine W.aald (v := .ref (q_ad G r)) (ty := .object "NightDitch$Farm") hF.1 hF.2.1 (q_arr (by decide) hW hi) ((hF.2.2.2.2.2.2.2.2.1.1.2 3 _ rfl).1 n _) rfl (fun q => by cases q) (q_inA hj) ?_ rfl rfl hd k1
    rw [q_rdA hj, ← ev]
    rfl
  · refine W.aald (v := .ref (q_ad G r)) (ty := .object "NightDitch$Meet") hF.1 hF.2.1 (q_arr (by decide) hW hi) ((hF.2.2.2.2.2.2.2.2.1.1.2 4 _ rfl).1 n _) rfl (fun q => by cases q) (q_inA hj) ?_ rfl rfl hd k1
    rw [q_rdA hj, ← ev]
    rfl
  · refine W.aald (v := .ref (q_ad G r)) (ty := .array .long) hF.1 hF.2.1 (q_arr (by decide) hW hi) ((hF.2.2.2.2.2.2.2.2.1.1.2 5 _ rfl).1 n _) rfl (fun q => by cases q) (q_inA hj) ?_ rfl rfl hd k1
    rw [q_rdA hj, ← ev]
    rfl
/-- the world behind a store into an array -/
theorem q_storedA {R' : Rf} {I' : Rn} {L' : Rl} {k n j a : Nat} {H1 : Heap} {v : Value} (hk : ¬ k < 20) (hW : q_Wd G S R I L H) (hi : S[a]? = some (k, n))
    (e1 : H1[G.2.1 + a]? = some ((arrV (G.2.2.2.2.1 (k - 20)) n (fun j => q_val G R I L (q_aty k) a j)).setSlot j v)) (e2 : H1.size = H.size) (e3 : ∀ q, q ≠ G.2.1 + a → H1[q]? = H[q]?) (hr : ∀ b, b ≠ a → R' b = R b ∧ I' b = I b ∧ L' b = L b) (hv : ∀ x, updV (fun x => q_val G R I L (q_aty k) a x) j v x = q_val G R' I' L' (q_aty k) a x) : q_Wd G S R' I' L' H1 := by
  refine hW.upd hi e2 e3 hr ?_
  rw [q_at_arr hk, e1, arrV_store]
  congr 2
  funext x
  exact hv x
theorem q_updAI {tc j a : Nat} {x : Int32} (ht : tc = 0) (y : Nat) : updV (fun x => q_val G R I L tc a x) j (.int x) y = q_val G R (u2 I a j x) L tc a y := by
  subst ht
  by_cases h : y = j
  · subst h
    simp [updV, q_val, u2]
  · simp [updV, q_val, u2, h]
theorem q_updAL {tc j a : Nat} {x : Int64} (ht : tc = 1) (y : Nat) : updV (fun x => q_val G R I L tc a x) j (.long x) y = q_val G R I (u2 L a j x) tc a y := by
  subst ht
  by_cases h : y = j
  · subst h
    simp [updV, q_val, u2]
  · simp [updV, q_val, u2, h]
theorem q_updAR {tc j a x : Nat} (ht : tc = 2) (y : Nat) : updV (fun x => q_val G R I L tc a x) j (.ref (q_ad G x)) y = q_val G (u2 R a j (some x)) I L tc a y := by
  subst ht
  by_cases h : y = j
  · subst h
    simp [updV, q_val, u2, va_rf]
  · simp [updV, q_val, u2, h]
theorem r_iast {a n j : Nat} {i x : Int32} (hd : Ft M pc .iastore 1 nx) (hi : S[a]? = some (20, n)) (hj : q_ix i j n) (kk : WW G d M nx ls st S R (u2 I a j x) L ce sl mc ms K) : WW G d M pc ls (.int x :: .int i :: .ref a :: st) S R I L ce sl mc ms K := by
  intro p e Rm s m args below meth c H locs Q la hF hW hS hl hR
  obtain ⟨hd, rfl⟩ := hd
  have e0 : (Value.int x :: Value.int i :: Value.ref a :: st).map (q_cv G) = .int x :: .int i :: .ref (G.2.1 + a) :: st.map (q_cv G) := by rw [← q_ad_lt hW hi]; rfl
  rw [e0]
  refine W.iast hF.1 hF.2.1 (q_arr (by decide) hW hi) ((hF.2.2.2.2.2.2.2.2.1.1.2 0 _ rfl).1 n _) (fun q => by cases q) (q_inA hj) rfl rfl hd fun H1 e1 e2 e3 => ?_
  rw [hj.clamp] at e1
  exact kk p e Rm s m args below meth c H1 _ Q la hF (q_storedA (by decide) hW hi e1 e2 e3 (fun b hb => ⟨rfl, u2_row hb, rfl⟩) (q_updAI rfl)) (hS.put e2 e3 (show q_A G (G.2.1 + a) from Nat.le_add_right _ _)) hl hR
theorem r_last {a n j : Nat} {i : Int32} {x : Int64} (hd : Ft M pc .lastore 1 nx) (hi : S[a]? = some (21, n)) (hj : q_ix i j n) (kk : WW G d M nx ls st S R I (u2 L a j x) ce sl mc ms K) : WW G d M pc ls (.long x :: .int i :: .ref a :: st) S R I L ce sl mc ms K := by
  intro p e Rm s m args below meth c H locs Q la hF hW hS hl hR
  obtain ⟨hd, rfl⟩ := hd
  have e0 : (Value.long x :: Value.int i :: Value.ref a :: st).map (q_cv G) = .long x :: .int i :: .ref (G.2.1 + a) :: st.map (q_cv G) := by rw [← q_ad_lt hW hi]; rfl
  rw [e0]
  refine W.last hF.1 hF.2.1 (q_arr (by decide) hW hi) ((hF.2.2.2.2.2.2.2.2.1.1.2 1 _ rfl).1 n _) (fun q => by cases q) (q_inA hj) rfl rfl hd fun H1 e1 e2 e3 => ?_
  rw [hj.clamp] at e1
  exact kk p e Rm s m args below meth c H1 _ Q la hF (q_storedA (by decide) hW hi e1 e2 e3 (fun b hb => ⟨rfl, rfl, u2_row hb⟩) (q_updAL rfl)) (hS.put e2 e3 (show q_A G (G.2.1 + a) from Nat.le_add_right _ _)) hl hR
theorem r_zast {a n j : Nat} {i x : Int32} (hd : Ft M pc .bastore 1 nx) (hi : S[a]? = some (22, n)) (hj : q_ix i j n) (hx : x = 0 ∨ x = 1) (kk : WW G d M nx ls st S R (u2 I a j x) L ce sl mc ms K) : WW G d M pc ls (.int x :: .int i :: .ref a :: st) S R I L ce sl mc ms K := by
  intro p e Rm s m args below meth c H locs Q la hF hW hS hl hR
  obtain ⟨hd, rfl⟩ := hd
  have e0 : (Value.int x :: Value.int i :: Value.ref a :: st).map (q_cv G) = .int x :: .int i :: .ref (G.2.1 + a) :: st.map (q_cv G) := by rw [← q_ad_lt hW hi]; rfl
  rw [e0]
  refine W.zast hF.1 hF.2.1 (q_arr (by decide) hW hi) ((hF.2.2.2.2.2.2.2.2.1.1.2 2 _ rfl).1 n _) (fun q => by cases q) (q_inA hj) rfl rfl hd fun H1 e1 e2 e3 => ?_
  have en : narrow .boolean (.int x) = .int x := by rcases hx with rfl | rfl <;> rfl
  rw [hj.clamp, en] at e1
  exact kk p e Rm s m args below meth c H1 _ Q la hF (q_storedA (by decide) hW hi e1 e2 e3 (fun b hb => ⟨rfl, u2_row hb, rfl⟩) (q_updAI rfl)) (hS.put e2 e3 (show q_A G (G.2.1 + a) from Nat.le_add_right _ _)) hl hR
theorem r_alen {a n k : Nat} (hd : Ft M pc .arraylength 1 nx) (hk : k = 20 ∨ k = 21) (hi : S[a]? = some (k, n)) (kk : WW G d M nx ls (.int (Int32.ofNat n) :: st) S R I L ce sl mc ms K) : WW G d M pc ls (.ref a :: st) S R I L ce sl mc ms K := by
  intro p e Rm s m args below meth c H locs Q la hF hW hS hl hR
  obtain ⟨hd, rfl⟩ := hd
  have e0 : (Value.ref a :: st).map (q_cv G) = .ref (G.2.1 + a) :: st.map (q_cv G) := by rw [← q_ad_lt hW hi]; rfl
  rw [e0]
  have k1 := kk p e Rm s m args below meth c H locs Q la hF hW hS hl hR
  rcases hk with rfl | rfl
  · exact W.alen (n := Int32.ofNat n) hF.1 hF.2.1 (q_arr (by decide) hW hi) ((hF.2.2.2.2.2.2.2.2.1.1.2 0 _ rfl).1 n _) (by rw [arrV_size]) rfl rfl hd k1
  · exact W.alen (n := Int32.ofNat n) hF.1 hF.2.1 (q_arr (by decide) hW hi) ((hF.2.2.2.2.2.2.2.2.1.1.2 1 _ rfl).1 n _) (by rw [arrV_size]) rfl rfl hd k1
/-! the static arrays, the script -/
def Fgs (M : Mt) (pc k nx : Nat) : Prop := ∃ ix, decode M.2.1 pc = .ok (.getstatic ix, 3) ∧ pc + 3 = nx ∧ k < 4 ∧ (Cond.fieldLink M.1.cls ix "NightDitch" (q_sn k) "[I" ∈ q_gw ∨ ∃ host, Cond.fieldLinkNest M.1.cls ix "NightDitch" (q_sn k) "[I" host ∈ q_nw)
theorem q_ad_ex (G : Gx) (k : Nat) : q_ad G (k + 1000) = G.2.2.1 k := by
  unfold q_ad
  rw [if_neg (by omega), Nat.add_sub_cancel]
theorem r_gst {k : Nat} (hd : Fgs M pc k nx) (kk : WW G d M nx ls (.ref (k + 1000) :: st) S R I L ce sl mc ms K) : WW G d M pc ls st S R I L ce sl mc ms K := by
  intro p e Rm s m args below meth c H locs Q la hF hW hS hl hR
  obtain ⟨ix, hd, rfl, hk, hlk⟩ := hd
  have k1 := kk p e Rm s m args below meth c H locs Q la hF hW hS hl hR
  have e0 : (Value.ref (k + 1000) :: st).map (q_cv G) = .ref (G.2.2.1 k) :: st.map (q_cv G) := by rw [← q_ad_ex]; rfl
  rw [e0] at k1
  obtain ⟨f1, f2, f3, f4, f5, f6, f7, f8, f9, -⟩ := id hF
  rcases hlk with hlk | ⟨host, hlk⟩
  · exact va_gets f1 f2 (f9.2.2.2.1 k hk).1 hS f7 (f8 _ hlk) (fun x h => h) hd k1
  · exact va_getsN f1 f2 (f9.2.2.2.1 k hk).1 hS f7 (va_Nw.use rfl (f9.2.1 _ hlk)) (fun x h => h) hd k1
theorem r_ialds {k j : Nat} {i : Int32} (hd : Ft M pc .iaload 1 nx) (hk : k < 4) (hj : q_ix i j (q_sl k)) (kk : WW G d M nx ls (.int (q_sv k j) :: st) S R I L ce sl mc ms K) : WW G d M pc ls (.int i :: .ref (k + 1000) :: st) S R I L ce sl mc ms K := by
  intro p e Rm s m args below meth c H locs Q la hF hW hS hl hR
  obtain ⟨hd, rfl⟩ := hd
  have e0 : (Value.int i :: Value.ref (k + 1000) :: st).map (q_cv G) = .int i :: .ref (G.2.2.1 k) :: st.map (q_cv G) := by rw [← q_ad_ex]; rfl
  rw [e0]
  exact va_ti hF.1 hF.2.1 (hF.2.2.2.2.2.2.2.2.1.2.2.2.1 k hk).2 hS hj.in (by rw [hj.clamp]; rfl) hd (kk p e Rm s m args below meth c H locs Q la hF hW hS hl hR)
theorem r_alens {k : Nat} (hd : Ft M pc .arraylength 1 nx) (hk : k < 4) (kk : WW G d M nx ls (.int (Int32.ofNat (q_sl k)) :: st) S R I L ce sl mc ms K) : WW G d M pc ls (.ref (k + 1000) :: st) S R I L ce sl mc ms K := by
  intro p e Rm s m args below meth c H locs Q la hF hW hS hl hR
  obtain ⟨hd, rfl⟩ := hd
  have e0 : (Value.ref (k + 1000) :: st).map (q_cv G) = .ref (G.2.2.1 k) :: st.map (q_cv G) := by rw [← q_ad_ex]; rfl
  rw [e0]
  exact va_tlen hF.1 hF.2.1 (hF.2.2.2.2.2.2.2.2.1.2.2.2.1 k hk).2 hS rfl hd (kk p e Rm s m args below meth c H locs Q la hF hW hS hl hR)
theorem r_ialdx {j : Nat} {i : Int32} (hd : Ft M pc .iaload 1 nx) (hj : q_ix i j G.2.2.2.2.2.2) (kk : WW G d M nx ls (.int (G.2.2.2.2.2.1 j) :: st) S R I L ce sl mc ms K) : WW G d M pc ls (.int i :: .ref (4 + 1000) :: st) S R I L ce sl mc ms K := by
  intro p e Rm s m args below meth c H locs Q la hF hW hS hl hR
  obtain ⟨hd, rfl⟩ := hd
  have e0 : (Value.int i :: Value.ref (4 + 1000) :: st).map (q_cv G) = .int i :: .ref (G.2.2.1 4) :: st.map (q_cv G) := by rw [← q_ad_ex]; rfl
  rw [e0]
  have hT := hF.2.2.2.2.2.2.2.2.1
  refine va_sld hF.1 hF.2.1 hT.2.2.2.2.1 hT.2.2.2.2.2.1 hT.2.2.2.2.2.2.1 hS hj.in hd ?_
  rw [hj.clamp]
  exact kk p e Rm s m args below meth c H locs Q la hF hW hS hl hR
theorem r_alenx (hd : Ft M pc .arraylength 1 nx) (kk : WW G d M nx ls (.int (Int32.ofNat G.2.2.2.2.2.2) :: st) S R I L ce sl mc ms K) : WW G d M pc ls (.ref (4 + 1000) :: st) S R I L ce sl mc ms K := by
  intro p e Rm s m args below meth c H locs Q la hF hW hS hl hR
  obtain ⟨hd, rfl⟩ := hd
  have e0 : (Value.ref (4 + 1000) :: st).map (q_cv G) = .ref (G.2.2.1 4) :: st.map (q_cv G) := by rw [← q_ad_ex]; rfl
  rw [e0]
  have hT := hF.2.2.2.2.2.2.2.2.1
  exact va_slen hF.1 hF.2.1 hT.2.2.2.2.1 hT.2.2.2.2.2.1 hT.2.2.2.2.2.2.1 hS hd (kk p e Rm s m args below meth c H locs Q la hF hW hS hl hR)
end RH
end
section
/-! RULES that make cells; arraycopy -/
def Fn (M : Mt) (pc k n nx : Nat) : Prop := ∃ (ix : Nat) (C : String) (T : u_T) (ty : Nat → FieldType), decode M.2.1 pc = .ok (.new ix, 3) ∧ pc + 3 = nx ∧ q_Kf k C T n ty ∧ Cond.classLink M.1.cls ix C ∈ q_gw ∧ Cond.instantiable C n ∈ q_gw ∧ Cond.initialized C ∈ q_gw ∧ ∀ j, j < n → defaultValue (ty j) = (match q_ft k j with | 0 => .int 0 | 1 => .long 0 | _ => .null)
def Fo (M : Mt) (pc nx : Nat) : Prop := ∃ ix, decode M.2.1 pc = .ok (.invokespecial ix, 3) ∧ pc + 3 = nx ∧ Cond.methodLink M.1.cls ix Lib.objectInit ∈ q_gw ∧ Cond.instanceMethod Lib.objectInit ∈ q_gw ∧ Cond.code Lib.objectInit ⟨#[0xb1]⟩ 1 none ∈ q_gw
def q_at_of (k : Nat) : ArrayType := if k = 20 then .int else if k = 21 then .long else .boolean
def Fna (M : Mt) (pc k nx : Nat) : Prop := decode M.2.1 pc = .ok (.newarray (q_at_of k), 2) ∧ pc + 2 = nx ∧ (k = 20 ∨ k = 21 ∨ k = 22) ∧ Cond.arrayClass (newarray.typeOf (q_at_of k)) ∈ q_gw
def q_qn (k : Nat) : String := if k = 23 then "NightDitch$Farm" else "NightDitch$Meet"
def Fnq (M : Mt) (pc k nx : Nat) : Prop := ∃ ix, decode M.2.1 pc = .ok (.anewarray ix, 3) ∧ pc + 3 = nx ∧ (k = 23 ∨ k = 24) ∧ Cond.classLink M.1.cls ix (q_qn k) ∈ q_gw
section RA
variable {G : Gx} {d : Nat} {M : Mt} {pc nx : Nat} {ls : List (Option Value)} {st : List Value} {S : Shp} {R : Rf} {I : Rn} {L : Rl} {ce sl mc ms : Nat} {K : Kt}
variable {p : Program} {e : Env} {Rm : Room} {s : State} {m : MethodId} {args : Array Value} {below : List Frame} {meth : Method} {c : Code} {H : Heap} {locs : List Loc} {Q : State → Prop} {la : Array Slot}
theorem r_obj {i : Nat} (hd : Fo M pc nx) (hr : (st.map fun v => v.category).sum ≤ 8) (kk : WW G d M nx ls st S R I L ce sl mc ms K) : WW G d M pc ls (.ref i :: st) S R I L ce sl mc ms K := by
  intro p e Rm s m args below meth c H locs Q la hF hW hS hl hR
  obtain ⟨ix, hd, rfl, w1, w2, w3⟩ := hd
  obtain ⟨f1, f2, f3, f4, f5, f6, f7, f8, f9, f10, f11, -⟩ := id hF
  refine W.objInit f1 f2 f7 (f8 _ w1) (f8 _ w2) (f8 _ w3) rfl (hl.1.trans f3.symm) (a := q_ad G i) (rest := st.map (q_cv G)) rfl hd (by omega) ?_ (kk p e Rm s m args below meth c H locs Q la hF hW hS hl hR)
  have := q_rest (G := G) (m := m) (pc := pc) (la := la) (st0 := (Value.ref i :: st).map (q_cv G)) hr
  omega
theorem q_Sput (hS : va_S (q_A G) s.heap H locs) {H1 : Heap} (hz : H1.size = H.size + 1) (ho : ∀ q, q < H.size → H1[q]? = H[q]?) : va_S (q_A G) s.heap H1 locs :=
  ⟨Nat.le_trans hS.1 (by omega), fun q h1 h2 => (ho q (Nat.lt_of_lt_of_le h1 hS.1)).trans (hS.2.1 q h1 h2), hS.2.2⟩
theorem r_new {k n : Nat} (hd : Fn M pc k n nx) (hb : S.length + 1 ≤ 1000) (hc : ce + 1 ≤ mc) (hs : sl + n ≤ ms) (kk : WW G d M nx ls (.ref S.length :: st) (S ++ [(k, n)]) (q_clr R S.length none) (q_clr I S.length 0) (q_clr L S.length 0) (ce + 1) (sl + n) mc ms K) : WW G d M pc ls st S R I L ce sl mc ms K := by
  intro p e Rm s m args below meth c H locs Q la hF hW hS hl hR
  obtain ⟨ix, C, T, ty, hd, rfl, ⟨k1, k2, k3, k4, k5⟩, w1, w2, w3, hdf⟩ := hd
  obtain ⟨f1, f2, f3, f4, f5, f6, f7, f8, f9, f10, f11, f12, f13⟩ := id hF
  have hKn := f9.1.1 k _ k1
  refine W.newcK f1 f2 f7 (f8 _ w1) (f8 _ w2) (f8 _ w3) rfl hd (Nat.le_trans hc f12) (Nat.le_trans hs f13) hKn.2.1 rfl fun H1 kC hkC e1 z1 o1 => ?_
  have hW1 : q_Wd G (S ++ [(k, n)]) (q_clr R S.length none) (q_clr I S.length 0) (q_clr L S.length 0) H1 := by
    refine hW.push hb z1 o1 (fun a ha => ⟨q_clr_row ha, q_clr_row ha, q_clr_row ha⟩) ?_
    rw [q_at_obj (by omega), ← hW.1]
    refine (u_born ty f8 k2 hKn hkC e1 k3).to (fun j hj => ?_)
    rw [hdf j hj]
    unfold q_val q_clr
    generalize q_ft k j = t
    rcases t with _ | _ | t <;> simp [va_rf]
  have k0 := kk p e Rm s m args below meth c H1 locs Q la hF hW1 (q_Sput hS z1 o1) hl hR
  have e0 : (Value.ref S.length :: st).map (q_cv G) = .ref H.size :: st.map (q_cv G) := by
    have : q_ad G S.length = H.size := by rw [hW.1]; exact if_pos (by omega)
    rw [← this]
    rfl
  rw [e0] at k0
  exact k0
theorem r_newa {k n : Nat} {x : Int32} (hd : Fna M pc k nx) (hx : x.toInt = (n : Int)) (hn : n ≤ 1000) (hb : S.length + 1 ≤ 1000) (hc : ce + 1 ≤ mc) (hs : sl + n ≤ ms) (kk : WW G d M nx ls (.ref S.length :: st) (S ++ [(k, n)]) (q_clr R S.length none) (q_clr I S.length 0) (q_clr L S.length 0) (ce + 1) (sl + n) mc ms K) : WW G d M pc ls (.int x :: st) S R I L ce sl mc ms K := by
  intro p e Rm s m args below meth c H locs Q la hF hW hS hl hR
  obtain ⟨hd, rfl, hk, w1⟩ := hd
  obtain ⟨f1, f2, f3, f4, f5, f6, f7, f8, f9, f10, f11, f12, f13⟩ := id hF
  have hcl : x.toNatClampNeg = n := by
    show x.toInt.toNat = n
    rw [hx]
    rfl
  have hneg : ¬ x < 0 := by
    intro h
    have := Int32.lt_iff_toInt_lt.mp h
    rw [hx] at this
    have h0 : (0 : Int32).toInt = 0 := by decide
    rw [h0] at this
    omega
  have e0 : (Value.ref S.length :: st).map (q_cv G) = .ref H.size :: st.map (q_cv G) := by
    have : q_ad G S.length = H.size := by rw [hW.1]; exact if_pos (by omega)
    rw [← this]
    rfl
  refine va_newaK (N := n) (rest := st.map (q_cv G)) f1 f2 (f8 _ w1) rfl hd rfl hneg hcl (by rcases hk with rfl | rfl | rfl <;> (simp [q_at_of, newarray.typeOf, componentBytes]; omega)) (Nat.le_trans hc f12) (Nat.le_trans hs f13) rfl fun H1 cA e1 z1 o1 hAr hNm => ?_
  have hW1 : q_Wd G (S ++ [(k, n)]) (q_clr R S.length none) (q_clr I S.length 0) (q_clr L S.length 0) H1 := by
    refine hW.push hb z1 o1 (fun a ha => ⟨q_clr_row ha, q_clr_row ha, q_clr_row ha⟩) ?_
    have hcA : cA = G.2.2.2.2.1 (k - 20) := by
      rcases hk with rfl | rfl | rfl
      · exact Option.some.inj (hNm.symm.trans (f9.1.2 0 _ rfl).2)
      · exact Option.some.inj (hNm.symm.trans (f9.1.2 1 _ rfl).2)
      · exact Option.some.inj (hNm.symm.trans (f9.1.2 2 _ rfl).2)
    rw [q_at_arr (by omega), ← hW.1, e1, hcA]
    congr 2
    funext j
    rcases hk with rfl | rfl | rfl <;> simp [q_at_of, newarray.typeOf, defaultValue, q_aty, q_val, q_clr]
  have k0 := kk p e Rm s m args below meth c H1 locs Q la hF hW1 (q_Sput hS z1 o1) hl hR
  rw [e0] at k0
  exact k0
theorem r_newq {k n : Nat} {x : Int32} (hd : Fnq M pc k nx) (hx : x.toInt = (n : Int)) (hn : n ≤ 1000) (hb : S.length + 1 ≤ 1000) (hc : ce + 1 ≤ mc) (hs : sl + n ≤ ms) (kk : WW G d M nx ls (.ref S.length :: st) (S ++ [(k, n)]) (q_clr R S.length none) (q_clr I S.length 0) (q_clr L S.length 0) (ce + 1) (sl + n) mc ms K) : WW G d M pc ls (.int x :: st) S R I L ce sl mc ms K := by
  intro p e Rm s m args below meth c H locs Q la hF hW hS hl hR
  obtain ⟨ix, hd, rfl, hk, w1⟩ := hd
  obtain ⟨f1, f2, f3, f4, f5, f6, f7, f8, f9, f10, f11, f12, f13⟩ := id hF
  have hcl : x.toNatClampNeg = n := by
    show x.toInt.toNat = n
    rw [hx]
    rfl
  have hneg : ¬ x < 0 := by
    intro h
    have := Int32.lt_iff_toInt_lt.mp h
    rw [hx] at this
    have h0 : (0 : Int32).toInt = 0 := by decide
    rw [h0] at this
    omega
  have e0 : (Value.ref S.length :: st).map (q_cv G) = .ref H.size :: st.map (q_cv G) := by
    have : q_ad G S.length = H.size := by rw [hW.1]; exact if_pos (by omega)
    rw [← this]
    rfl
  have hao : va_AO (q_qn k) s := by
    rcases hk with rfl | rfl
    · exact f9.2.2.1.1
    · exact f9.2.2.1.2.1
  subst hcl
  refine W.anew (rest := st.map (q_cv G)) f1 f2 f7 (f8 _ w1) (va_AO.use hao) rfl hd rfl hneg (by omega) (Nat.le_trans hc f12) (Nat.le_trans hs f13) fun cA kA comp h1 h2 h3 h4 => ?_
  have hcA : cA = G.2.2.2.2.1 (k - 20) := by
    rcases hk with rfl | rfl
    · obtain ⟨_, _, _, _, _, h9⟩ := (f9.1.2 3 _ rfl).2
      exact Option.some.inj (h1.symm.trans h9)
    · obtain ⟨_, _, _, _, _, h9⟩ := (f9.1.2 4 _ rfl).2
      exact Option.some.inj (h1.symm.trans h9)
  have ho : ∀ q, q < H.size → (H.push ({ cls := cA, slots := Array.replicate x.toNatClampNeg .null, vm := .none } : Cell))[q]? = H[q]? := fun q hq => by rw [Array.getElem?_push, if_neg (Nat.ne_of_lt hq)]
  have hW1 : q_Wd G (S ++ [(k, x.toNatClampNeg)]) (q_clr R S.length none) (q_clr I S.length 0) (q_clr L S.length 0) (H.push { cls := cA, slots := Array.replicate x.toNatClampNeg .null, vm := .none }) := by
    refine hW.push hb (by simp) ho (fun a ha => ⟨q_clr_row ha, q_clr_row ha, q_clr_row ha⟩) ?_
    rw [q_at_arr (by omega), ← hW.1, hcA, arrV_new]
    rw [Array.getElem?_push_size]
    congr 2
    funext j
    rcases hk with rfl | rfl <;> simp [q_aty, q_val, q_clr, va_rf]
  have k0 := kk p e Rm s m args below meth c _ locs Q la hF hW1 (q_Sput hS (by simp) ho) hl hR
  rw [e0] at k0
  exact k0
theorem r_aast {a n j k x nk kv : Nat} {i : Int32} (hd : Ft M pc .aastore 1 nx) (hk : (k = 23 ∧ kv = 1) ∨ (k = 24 ∧ kv = 2)) (hi : S[a]? = some (k, n)) (hj : q_ix i j n) (hv : S[x]? = some (kv, nk)) (kk : WW G d M nx ls st S (u2 R a j (some x)) I L ce sl mc ms K) : WW G d M pc ls (.ref x :: .int i :: .ref a :: st) S R I L ce sl mc ms K := by
  intro p e Rm s m args below meth c H locs Q la hF hW hS hl hR
  obtain ⟨hd, rfl⟩ := hd
  have e0 : (Value.ref x :: Value.int i :: Value.ref a :: st).map (q_cv G) = .ref (G.2.1 + x) :: .int i :: .ref (G.2.1 + a) :: st.map (q_cv G) := by rw [← q_ad_lt hW hi, ← q_ad_lt hW hv]; rfl
  rw [e0]
  have ex : q_ad G x = G.2.1 + x := q_ad_lt hW hv
  obtain ⟨f1, f2, f3, f4, f5, f6, f7, f8, f9, -⟩ := id hF
  have hvc := hW.2.2 x _ hv
  rw [q_at_obj (by omega)] at hvc
  obtain ⟨cv, v1, v2, v3, -⟩ := hvc
  have hin : ¬ i < 0 ∧ i.toNatClampNeg < n := by
    have h9 := hj.in
    refine ⟨fun h => h9 (Or.inl h), ?_⟩
    rw [hj.clamp]
    exact hj.2
  have main : ∀ (C : String) (q : vw_C), q.1 = C → q_cls[kv]? = some q → va_RA s (G.2.2.2.2.1 (k - 20)) (.object C) → W p G.1 e Rm s m args below meth c H locs ce sl Q (F0 m pc la (.ref (G.2.1 + x) :: .int i :: .ref (G.2.1 + a) :: st.map (q_cv G))) := by
    intro C q hqC hq hRA
    obtain ⟨kA, comp, r1, r2, r3, r4⟩ := hRA
    obtain ⟨-, hca⟩ := f9.1.1 kv q hq
    have hasg := va_assign hca
    obtain ⟨hfc, kC, hkC, hkind⟩ := hca
    rw [hqC] at hfc
    have ecc : comp = G.2.2.2.1.1 kv := Option.some.inj (r3.symm.trans hfc)
    refine W.aast f1 f2 (q_arr (by omega) hW hi) (fun _ h => by cases h) (fun h => by cases h) r1 r2 rfl (by rw [ecc]; exact hkC) ⟨hin.1, by rw [arrV_size]; exact hin.2⟩ v1 (fun _ h => by rw [v3] at h; cases h) (by rw [v2]; exact hkC) (by rw [v2, ecc]; exact hasg) rfl rfl hd fun H1 e1 e2 e3 => ?_
    rw [hj.clamp] at e1
    refine kk p e Rm s m args below meth c H1 _ Q la hF (q_storedA (by omega) hW hi e1 e2 e3 (fun b hb => ⟨u2_row hb, rfl, rfl⟩) ?_) (hS.put e2 e3 (show q_A G (G.2.1 + a) from Nat.le_add_right _ _)) hl hR
    rw [← ex]
    exact q_updAR (by rcases hk with ⟨rfl, -⟩ | ⟨rfl, -⟩ <;> rfl)
  rcases hk with ⟨rfl, rfl⟩ | ⟨rfl, rfl⟩
  · exact main _ _ rfl rfl (f9.1.2 3 _ rfl).2
  · exact main _ _ rfl rfl (f9.1.2 4 _ rfl).2
/-- n values of row a from place sp on, laid into row b from place dp on -/
def q_cpy {α : Type} (f : Nat → Nat → α) (a sp b dp n : Nat) : Nat → Nat → α := fun x y => if x = b ∧ dp ≤ y ∧ y < dp + n then f a (sp + (y - dp)) else f x y
theorem q_cpy_row {α : Type} {f : Nat → Nat → α} {a sp b dp n x : Nat} (h : x ≠ b) : q_cpy f a sp b dp n x = f x := by
  funext y
  unfold q_cpy
  rw [if_neg (fun q => h q.1)]
def Fac (M : Mt) (pc nx : Nat) : Prop := ∃ ix, decode M.2.1 pc = .ok (.invokestatic ix, 3) ∧ pc + 3 = nx ∧ Cond.methodLink M.1.cls ix arraycopyName ∈ q_gw ∧ Cond.native arraycopyName ∈ q_gw ∧ Cond.static arraycopyName ∈ q_gw ∧ Cond.initialized "java/lang/System" ∈ q_gw
theorem q_copy {k na nb a b jn sp dp : Nat} {n xs xd : Int32} {ty : FieldType} {R' : Rf} {I' : Rn} {L' : Rl} (hd : Fac M pc nx) (hk : (k = 20 ∧ ty = .int) ∨ (k = 21 ∧ ty = .long)) (ha : S[a]? = some (k, na)) (hb : S[b]? = some (k, nb)) (hn : n.toInt = (jn : Int)) (hs : xs.toInt = (sp : Int)) (hdp : xd.toInt = (dp : Int)) (h4 : sp + jn ≤ na) (h5 : dp + jn ≤ nb)
    (hv : ∀ y, (if dp ≤ y ∧ y < dp + jn then q_val G R I L (q_aty k) a (sp + (y - dp)) else q_val G R I L (q_aty k) b y) = q_val G R' I' L' (q_aty k) b y) (hrow : ∀ x, x ≠ b → R' x = R x ∧ I' x = I x ∧ L' x = L x) (hst : (st.map fun v => v.category).sum ≤ 8)
    (kk : WW G d M nx ls st S R' I' L' ce sl mc ms K) : WW G (d + 1) M pc ls (.int n :: .int xd :: .ref b :: .int xs :: .ref a :: st) S R I L ce sl mc ms K := by
  intro p e Rm s m args below meth c H locs Q la hF hW hS hl hR
  obtain ⟨ix, hd, rfl, w1, w2, w3, w4⟩ := hd
  obtain ⟨f1, f2, f3, f4, f5, f6, f7, f8, f9, f10, f11, f12⟩ := id hF
  have e0 : (Value.int n :: Value.int xd :: Value.ref b :: Value.int xs :: Value.ref a :: st).map (q_cv G) = .int n :: .int xd :: .ref (G.2.1 + b) :: .int xs :: .ref (G.2.1 + a) :: st.map (q_cv G) := by rw [← q_ad_lt hW ha, ← q_ad_lt hW hb]; rfl
  rw [e0]
  have clamp : ∀ {z : Int32} {t : Nat}, z.toInt = (t : Int) → z.toNatClampNeg = t := fun {z t} h => by
    show z.toInt.toNat = t
    rw [h]
    rfl
  have nneg : ∀ {z : Int32} {t : Nat}, z.toInt = (t : Int) → ¬ z < 0 := fun {z t} h q => by
    have h9 := Int32.lt_iff_toInt_lt.mp q
    rw [h, show (0 : Int32).toInt = 0 by decide] at h9
    omega
  have hca := q_arr (by omega) hW ha
  have hcb := q_arr (by omega) hW hb
  have htys : ∃ t0 : Nat, (q_tys G)[t0]? = some (G.2.2.2.2.1 (k - 20), ty) := by
    rcases hk with ⟨rfl, rfl⟩ | ⟨rfl, rfl⟩
    · exact ⟨0, rfl⟩
    · exact ⟨1, rfl⟩
  obtain ⟨t0, ht0⟩ := htys
  obtain ⟨-, k0, hk0, cm0, hkk0⟩ := (f9.1.2 t0 _ ht0).1 na (fun j => q_val G R I L (q_aty k) a j)
  intro T hT X
  obtain ⟨vm', X', step⟩ := X.arraycopy f1 f7 (f8 _ w1) (f8 _ w2) (f8 _ w3) (f8 _ w4) (src := G.2.1 + a) (dst := G.2.1 + b) (cs := arrV (G.2.2.2.2.1 (k - 20)) na (fun j => q_val G R I L (q_aty k) a j)) (cd := arrV (G.2.2.2.2.1 (k - 20)) nb (fun j => q_val G R I L (q_aty k) b j)) (srcPos := xs) (destPos := xd) (n := n) (by rw [hT]; exact hca) (by rw [hT]; exact hcb)
    (fun _ h => by cases h) (fun _ h => by cases h) (fun h => by cases h) (fun h => by cases h) hk0 hk0 hkk0 hkk0 (by rcases hk with ⟨-, rfl⟩ | ⟨-, rfl⟩ <;> rfl) (nneg hs) (nneg hdp) (nneg hn)
    (by rw [arrV_size, hs, hn]; omega) (by rw [arrV_size, hdp, hn]; omega)
    (fun vm₁ _ i hi => by
      rw [clamp hn] at hi
      have e1 : (arrV (G.2.2.2.2.1 (k - 20)) na (fun j => q_val G R I L (q_aty k) a j)).slots.getD (xs.toNatClampNeg + i) .null = q_val G R I L (q_aty k) a (sp + i) := by
        rw [clamp hs, Array.getD_eq_getD_getElem?, arrV_read _ _ (by omega)]
        rfl
      rw [e1]
      rcases hk with ⟨rfl, rfl⟩ | ⟨rfl, rfl⟩
      · exact ⟨rfl, trivial⟩
      · exact ⟨rfl, trivial⟩)
    (g := F0 m pc la (.int n :: .int xd :: .ref (G.2.1 + b) :: .int xs :: .ref (G.2.1 + a) :: st.map (q_cv G))) rfl (hl.1.trans f3.symm) (rest := st.map (q_cv G)) rfl (by rw [f2]; exact hd) (by omega) (by
      have := q_rest (G := G) (m := m) (pc := pc) (la := la) (st0 := []) hst
      have h9 : nativeFrameWords "java/lang/System" "arraycopy" 5 + 11 ≤ 64 := by decide +kernel
      show 2 * 0 + _ + _ ≤ _
      have h8 : ((st.map (q_cv G)).map fun v => v.category).sum ≤ 8 := by rw [q_cats]; exact hst
      omega)
  have e1 : copied (arrV (G.2.2.2.2.1 (k - 20)) na (fun j => q_val G R I L (q_aty k) a j)) (arrV (G.2.2.2.2.1 (k - 20)) nb (fun j => q_val G R I L (q_aty k) b j)) xs xd n = arrV (G.2.2.2.2.1 (k - 20)) nb (fun j => q_val G R' I' L' (q_aty k) b j) := by
    have h9 := va_copied (fun z : Value => z) (G.2.2.2.2.1 (k - 20)) (G.2.2.2.2.1 (k - 20)) (n0 := na) (n1 := nb) (sp := sp) (dp := dp) (n := jn) (fun j => q_val G R I L (q_aty k) a j) (fun j => q_val G R I L (q_aty k) b j) h4
    have h8 : copied (arrV (G.2.2.2.2.1 (k - 20)) na (fun j => q_val G R I L (q_aty k) a j)) (arrV (G.2.2.2.2.1 (k - 20)) nb (fun j => q_val G R I L (q_aty k) b j)) xs xd n = (arrV (G.2.2.2.2.1 (k - 20)) nb (fun j => q_val G R I L (q_aty k) b j)).storeRun dp ((arrV (G.2.2.2.2.1 (k - 20)) na (fun j => q_val G R I L (q_aty k) a j)).stretch sp jn) := by
      unfold copied
      rw [clamp hs, clamp hdp, clamp hn]
    rw [h8, h9]
    congr 1
    funext y
    exact hv y
  rw [e1] at X' step
  have hlt : G.2.1 + b < H.size := (Array.getElem?_eq_some_iff.mp hcb).1
  have hheap : ((T.setVm vm').setCell (G.2.1 + b) (arrV (G.2.2.2.2.1 (k - 20)) nb (fun j => q_val G R' I' L' (q_aty k) b j))).heap = H.setIfInBounds (G.2.1 + b) (arrV (G.2.2.2.2.1 (k - 20)) nb (fun j => q_val G R' I' L' (q_aty k) b j)) := by rw [← hT]; rfl
  have oq : ∀ q : Nat, q ≠ G.2.1 + b → (H.setIfInBounds (G.2.1 + b) (arrV (G.2.2.2.2.1 (k - 20)) nb (fun j => q_val G R' I' L' (q_aty k) b j)))[q]? = H[q]? := fun q hq => by simp [Array.getElem?_setIfInBounds, Ne.symm hq]
  have hW1 : q_Wd G S R' I' L' (H.setIfInBounds (G.2.1 + b) (arrV (G.2.2.2.2.1 (k - 20)) nb (fun j => q_val G R' I' L' (q_aty k) b j))) := by
    refine hW.upd hb (by simp) oq hrow ?_
    rw [q_at_arr (by omega)]
    simp [Array.getElem?_setIfInBounds, hlt]
  have hF' : q_Fx G d M mc ms p Rm s m args meth c := ⟨f1, f2, f3, f4, f5, f6, f7, f8, f9, by omega, by omega, f12⟩
  obtain ⟨t, a1, b1⟩ := kk p e Rm s m args below meth c _ _ Q la hF' hW1 ⟨by simp; exact hS.1, fun q g1 g2 => by
      rw [oq q (fun e => g2 (by rw [e]; exact Nat.le_add_right _ _))]
      exact hS.2.1 q g1 g2, fun q hq => by
      rcases List.mem_append.mp hq with h | h
      · exact hS.2.2 q h
      · obtain ⟨z, -, hz⟩ := List.mem_map.mp h
        rw [← hz]
        exact Nat.le_add_right _ _⟩ hl hR _ hheap X'
  exact ⟨t, step t a1, b1⟩
theorem r_cpi {na nb a b jn sp dp : Nat} {n xs xd : Int32} (hd : Fac M pc nx) (ha : S[a]? = some (20, na)) (hb : S[b]? = some (20, nb)) (hn : n.toInt = (jn : Int)) (hs : xs.toInt = (sp : Int)) (hdp : xd.toInt = (dp : Int)) (h4 : sp + jn ≤ na) (h5 : dp + jn ≤ nb) (hst : (st.map fun v => v.category).sum ≤ 8)
    (kk : WW G d M nx ls st S R (q_cpy I a sp b dp jn) L ce sl mc ms K) : WW G (d + 1) M pc ls (.int n :: .int xd :: .ref b :: .int xs :: .ref a :: st) S R I L ce sl mc ms K := by
  refine q_copy hd (Or.inl ⟨rfl, rfl⟩) ha hb hn hs hdp h4 h5 (fun y => ?_) (fun x hx => ⟨rfl, q_cpy_row hx, rfl⟩) hst kk
  show (if dp ≤ y ∧ y < dp + jn then Value.int (I a (sp + (y - dp))) else Value.int (I b y)) = Value.int (q_cpy I a sp b dp jn b y)
  unfold q_cpy
  by_cases h : dp ≤ y ∧ y < dp + jn
  · rw [if_pos h, if_pos ⟨rfl, h⟩]
  · rw [if_neg h, if_neg (fun q => h q.2)]
theorem r_cpl {na nb a b jn sp dp : Nat} {n xs xd : Int32} (hd : Fac M pc nx) (ha : S[a]? = some (21, na)) (hb : S[b]? = some (21, nb)) (hn : n.toInt = (jn : Int)) (hs : xs.toInt = (sp : Int)) (hdp : xd.toInt = (dp : Int)) (h4 : sp + jn ≤ na) (h5 : dp + jn ≤ nb) (hst : (st.map fun v => v.category).sum ≤ 8)
    (kk : WW G d M nx ls st S R I (q_cpy L a sp b dp jn) ce sl mc ms K) : WW G (d + 1) M pc ls (.int n :: .int xd :: .ref b :: .int xs :: .ref a :: st) S R I L ce sl mc ms K := by
  refine q_copy hd (Or.inr ⟨rfl, rfl⟩) ha hb hn hs hdp h4 h5 (fun y => ?_) (fun x hx => ⟨rfl, rfl, q_cpy_row hx⟩) hst kk
  show (if dp ≤ y ∧ y < dp + jn then Value.long (L a (sp + (y - dp))) else Value.long (L b y)) = Value.long (q_cpy L a sp b dp jn b y)
  unfold q_cpy
  by_cases h : dp ≤ y ∧ y < dp + jn
  · rw [if_pos h, if_pos ⟨rfl, h⟩]
  · rw [if_neg h, if_neg (fun q => h q.2)]
end RA
end
section
/-! Math's max and min -/
def Fm (M : Mt) (pc : Nat) (y : MethodName) (b : ByteArray) (n : Nat) (t : FieldType) (nx : Nat) : Prop := ∃ ix, decode M.2.1 pc = .ok (.invokestatic ix, 3) ∧ pc + 3 = nx ∧ Cond.methodLink M.1.cls ix y ∈ q_gw ∧ Cond.static y ∈ q_gw ∧ Cond.initialized "java/lang/Math" ∈ q_gw ∧ Cond.code y b n (some t) ∈ q_gw
section RM
variable {G : Gx} {d : Nat} {M : Mt} {pc nx : Nat} {ls : List (Option Value)} {st : List Value} {S : Shp} {R : Rf} {I : Rn} {L : Rl} {ce sl mc ms : Nat} {K : Kt}
theorem q_cat64 {G : Gx} {r : List Value} {d N : Nat} (h : (r.map fun v => v.category).sum ≤ 8) (hd : 64 * (d + 1) ≤ N) : ((r.map (q_cv G)).map fun v => v.category).sum + 15 ≤ N := by
  rw [q_cats]
  omega
theorem r_maxI {x y : Int32} (hd : Fm M pc Lib.Math.max.name Lib.Math.max.code 2 .int nx) (hr : (st.map fun v => v.category).sum ≤ 8) (hc : ce ≤ mc) (hs : sl ≤ ms) (k : WW G d M nx ls (.int (if x < y then y else x) :: st) S R I L ce sl mc ms K) : WW G d M pc ls (.int y :: .int x :: st) S R I L ce sl mc ms K := by
  intro p e Rm s m args below meth c H locs Q la hF hW hS hl hR
  obtain ⟨ix, hd, rfl, w1, w2, w3, w4⟩ := hd
  obtain ⟨f1, f2, f3, f4, f5, f6, f7, f8, f9, f10, f11, f12, f13⟩ := id hF
  exact va_mmax f1 f2 (f3.trans hl.1.symm) f7 (f8 _ w1) (f8 _ w2) (f8 _ w3) (f8 _ w4) (by omega) (by have := q_cat64 (G := G) hr f11; omega) (Nat.le_trans hc f12) (Nat.le_trans hs f13) hd (k p e Rm s m args below meth c H locs Q la hF hW hS hl hR)
theorem r_minI {x y : Int32} (hd : Fm M pc Lib.Math.min.name Lib.Math.min.code 2 .int nx) (hr : (st.map fun v => v.category).sum ≤ 8) (hc : ce ≤ mc) (hs : sl ≤ ms) (k : WW G d M nx ls (.int (if y < x then y else x) :: st) S R I L ce sl mc ms K) : WW G d M pc ls (.int y :: .int x :: st) S R I L ce sl mc ms K := by
  intro p e Rm s m args below meth c H locs Q la hF hW hS hl hR
  obtain ⟨ix, hd, rfl, w1, w2, w3, w4⟩ := hd
  obtain ⟨f1, f2, f3, f4, f5, f6, f7, f8, f9, f10, f11, f12, f13⟩ := id hF
  exact va_mmin f1 f2 (f3.trans hl.1.symm) f7 (f8 _ w1) (f8 _ w2) (f8 _ w3) (f8 _ w4) (by omega) (by have := q_cat64 (G := G) hr f11; omega) (Nat.le_trans hc f12) (Nat.le_trans hs f13) hd (k p e Rm s m args below meth c H locs Q la hF hW hS hl hR)
theorem r_maxJ {x y : Int64} (hd : Fm M pc Lib.MathLoose.max_long.x Lib.MathLoose.max_long.code 4 .long nx) (hr : (st.map fun v => v.category).sum ≤ 8) (hc : ce ≤ mc) (hs : sl ≤ ms) (k : WW G d M nx ls (.long (if y < x then x else y) :: st) S R I L ce sl mc ms K) : WW G d M pc ls (.long y :: .long x :: st) S R I L ce sl mc ms K := by
  intro p e Rm s m args below meth c H locs Q la hF hW hS hl hR
  obtain ⟨ix, hd, rfl, w1, w2, w3, w4⟩ := hd
  obtain ⟨f1, f2, f3, f4, f5, f6, f7, f8, f9, f10, f11, f12, f13⟩ := id hF
  exact va_mmax_long f1 f2 (f3.trans hl.1.symm) f7 (f8 _ w1) (f8 _ w2) (f8 _ w3) (f8 _ w4) (by omega) (q_cat64 hr f11) (Nat.le_trans hc f12) (Nat.le_trans hs f13) hd (k p e Rm s m args below meth c H locs Q la hF hW hS hl hR)
theorem r_minJ {x y : Int64} (hd : Fm M pc Lib.MathLoose.min_long.x Lib.MathLoose.min_long.code 4 .long nx) (hr : (st.map fun v => v.category).sum ≤ 8) (hc : ce ≤ mc) (hs : sl ≤ ms) (k : WW G d M nx ls (.long (if y < x then y else x) :: st) S R I L ce sl mc ms K) : WW G d M pc ls (.long y :: .long x :: st) S R I L ce sl mc ms K := by
  intro p e Rm s m args below meth c H locs Q la hF hW hS hl hR
  obtain ⟨ix, hd, rfl, w1, w2, w3, w4⟩ := hd
  obtain ⟨f1, f2, f3, f4, f5, f6, f7, f8, f9, f10, f11, f12, f13⟩ := id hF
  exact va_mmin_long f1 f2 (f3.trans hl.1.symm) f7 (f8 _ w1) (f8 _ w2) (f8 _ w3) (f8 _ w4) (by omega) (q_cat64 hr f11) (Nat.le_trans hc f12) (Nat.le_trans hs f13) hd (k p e Rm s m args below meth c H locs Q la hF hW hS hl hR)
end RM
end
section
theorem q_all (ws : List Cond) (ps : List Nat) (hp : ws = ps.filterMap (fun i => tables_1[i]?)) (h : ws.all goodWord = true) : ∀ w ∈ ws, w ∈ q_gw := by
  intro w hw
  have h1 := List.all_eq_true.mp h w hw
  rw [hp] at hw
  obtain ⟨i, -, hi⟩ := List.mem_filterMap.mp hw
  exact q_gw_in i ⟨hi, h1⟩
theorem w_1 : (Cond.initialized "NightDitch") ∈ q_gw := q_gw_in 1 (by decide +kernel)
theorem w_2 : (Cond.initialized "NightDitch$Ditch") ∈ q_gw := q_gw_in 2 (by decide +kernel)
theorem w_3 : (Cond.initialized "NightDitch$Text") ∈ q_gw := q_gw_in 3 (by decide +kernel)
theorem w_4 : (Cond.initialized "NightDitch$Farm") ∈ q_gw := q_gw_in 4 (by decide +kernel)
theorem w_5 : (Cond.initialized "NightDitch$Meet") ∈ q_gw := q_gw_in 5 (by decide +kernel)
theorem w_6 : (Cond.initialized "NightDitch$Orders") ∈ q_gw := q_gw_in 6 (by decide +kernel)
theorem w_7 : (Cond.initialized "NightDitch$Tape") ∈ q_gw := q_gw_in 7 (by decide +kernel)
theorem w_8 : (Cond.initialized "NightDitch$Sheets") ∈ q_gw := q_gw_in 8 (by decide +kernel)
theorem w_9 : (Cond.initialized "NightDitchModel") ∈ q_gw := q_gw_in 9 (by decide +kernel)
theorem w_10 : (Cond.initialized "java/lang/Math") ∈ q_gw := q_gw_in 10 (by decide +kernel)
theorem w_11 : (Cond.initialized "java/lang/System") ∈ q_gw := q_gw_in 11 (by decide +kernel)
theorem w_12 : (Cond.classLink "NightDitchLaw" (7 : Nat) "NightDitch") ∈ q_gw := q_gw_in 12 (by decide +kernel)
theorem w_13 : (Cond.instantiable "NightDitch" (8 : Nat)) ∈ q_gw := q_gw_in 13 (by decide +kernel)
theorem w_14 : (Cond.methodLink "NightDitchLaw" (9 : Nat) ({ cls := "NightDitch", name := "<init>", desc := "()V" } : MethodName)) ∈ q_gw := q_gw_in 14 (by decide +kernel)
theorem w_15 : (Cond.instanceMethod ({ cls := "NightDitch", name := "<init>", desc := "()V" } : MethodName)) ∈ q_gw := q_gw_in 15 (by decide +kernel)
theorem w_16 : (Cond.code ({ cls := "NightDitch", name := "<init>", desc := "()V" } : MethodName) prog_1_method_1_code (1 : Nat) (Option.none : Option FieldType)) ∈ q_gw := q_gw_in 16 (by decide +kernel)
theorem w_17 : (Cond.methodLink "NightDitch" (1 : Nat) ({ cls := "java/lang/Object", name := "<init>", desc := "()V" } : MethodName)) ∈ q_gw := q_gw_in 17 (by decide +kernel)
theorem w_18 : (Cond.instanceMethod ({ cls := "java/lang/Object", name := "<init>", desc := "()V" } : MethodName)) ∈ q_gw := q_gw_in 18 (by decide +kernel)
theorem w_20 : (Cond.classLink "NightDitch" (7 : Nat) "NightDitch$Ditch") ∈ q_gw := q_gw_in 20 (by decide +kernel)
theorem w_21 : (Cond.instantiable "NightDitch$Ditch" (12 : Nat)) ∈ q_gw := q_gw_in 21 (by decide +kernel)
theorem w_22 : (Cond.methodLink "NightDitch" (9 : Nat) ({ cls := "NightDitch$Ditch", name := "<init>", desc := "()V" } : MethodName)) ∈ q_gw := q_gw_in 22 (by decide +kernel)
theorem w_23 : (Cond.instanceMethod ({ cls := "NightDitch$Ditch", name := "<init>", desc := "()V" } : MethodName)) ∈ q_gw := q_gw_in 23 (by decide +kernel)
theorem w_24 : (Cond.code ({ cls := "NightDitch$Ditch", name := "<init>", desc := "()V" } : MethodName) prog_2_method_1_code (2 : Nat) (Option.none : Option FieldType)) ∈ q_gw := q_gw_in 24 (by decide +kernel)
theorem w_25 : (Cond.methodLink "NightDitch$Ditch" (3 : Nat) ({ cls := "java/lang/Object", name := "<init>", desc := "()V" } : MethodName)) ∈ q_gw := q_gw_in 25 (by decide +kernel)
theorem w_26 : (Cond.classLink "NightDitch$Ditch" (9 : Nat) "NightDitch$Farm") ∈ q_gw := q_gw_in 26 (by decide +kernel)
theorem w_28 : (Cond.classLink "NightDitch$Ditch" (24 : Nat) "NightDitch$Text") ∈ q_gw := q_gw_in 28 (by decide +kernel)
theorem w_29 : (Cond.instantiable "NightDitch$Text" (4 : Nat)) ∈ q_gw := q_gw_in 29 (by decide +kernel)
theorem nw_30 : (Cond.methodLinkNest "NightDitch$Ditch" (26 : Nat) ({ cls := "NightDitch$Text", name := "<init>", desc := "()V" } : MethodName) "NightDitch") ∈ q_nw := q_nw_in 30 (by decide +kernel)
theorem w_31 : (Cond.instanceMethod ({ cls := "NightDitch$Text", name := "<init>", desc := "()V" } : MethodName)) ∈ q_gw := q_gw_in 31 (by decide +kernel)
theorem w_32 : (Cond.code ({ cls := "NightDitch$Text", name := "<init>", desc := "()V" } : MethodName) prog_8_method_1_code (1 : Nat) (Option.none : Option FieldType)) ∈ q_gw := q_gw_in 32 (by decide +kernel)
theorem w_33 : (Cond.methodLink "NightDitch$Text" (3 : Nat) ({ cls := "java/lang/Object", name := "<init>", desc := "()V" } : MethodName)) ∈ q_gw := q_gw_in 33 (by decide +kernel)
theorem w_34 : (Cond.fieldLink "NightDitch$Text" (9 : Nat) "NightDitch$Text" "code" "[I") ∈ q_gw := q_gw_in 34 (by decide +kernel)
theorem w_35 : (Cond.fieldLink "NightDitch$Text" (15 : Nat) "NightDitch$Text" "stack" "[I") ∈ q_gw := q_gw_in 35 (by decide +kernel)
theorem w_36 : (Cond.fieldLink "NightDitch$Text" (18 : Nat) "NightDitch$Text" "top" "I") ∈ q_gw := q_gw_in 36 (by decide +kernel)
theorem w_37 : (Cond.fieldLink "NightDitch$Text" (22 : Nat) "NightDitch$Text" "length" "I") ∈ q_gw := q_gw_in 37 (by decide +kernel)
theorem w_38 : (Cond.fieldLink "NightDitch$Tape" (29 : Nat) "NightDitch$Text" "length" "I") ∈ q_gw := q_gw_in 38 (by decide +kernel)
theorem w_39 : (Cond.fieldLink "NightDitch" (231 : Nat) "NightDitch$Text" "length" "I") ∈ q_gw := q_gw_in 39 (by decide +kernel)
theorem w_49 : (Cond.arrayClass FieldType.int) ∈ q_gw := q_gw_in 49 (by decide +kernel)
theorem w_50 : (Cond.classLink "NightDitch$Ditch" (50 : Nat) "NightDitch$Meet") ∈ q_gw := q_gw_in 50 (by decide +kernel)
theorem w_52 : (Cond.instantiable "NightDitch$Farm" (7 : Nat)) ∈ q_gw := q_gw_in 52 (by decide +kernel)
theorem nw_53 : (Cond.methodLinkNest "NightDitch$Ditch" (59 : Nat) ({ cls := "NightDitch$Farm", name := "<init>", desc := "()V" } : MethodName) "NightDitch") ∈ q_nw := q_nw_in 53 (by decide +kernel)
theorem w_54 : (Cond.instanceMethod ({ cls := "NightDitch$Farm", name := "<init>", desc := "()V" } : MethodName)) ∈ q_gw := q_gw_in 54 (by decide +kernel)
theorem w_55 : (Cond.code ({ cls := "NightDitch$Farm", name := "<init>", desc := "()V" } : MethodName) prog_3_method_1_code (1 : Nat) (Option.none : Option FieldType)) ∈ q_gw := q_gw_in 55 (by decide +kernel)
theorem w_56 : (Cond.methodLink "NightDitch$Farm" (3 : Nat) ({ cls := "java/lang/Object", name := "<init>", desc := "()V" } : MethodName)) ∈ q_gw := q_gw_in 56 (by decide +kernel)
theorem w_57 : (Cond.fieldLink "NightDitch$Farm" (9 : Nat) "NightDitch$Farm" "kind" "I") ∈ q_gw := q_gw_in 57 (by decide +kernel)
theorem w_58 : (Cond.fieldLink "NightDitch$Farm" (15 : Nat) "NightDitch$Farm" "hours" "I") ∈ q_gw := q_gw_in 58 (by decide +kernel)
theorem w_59 : (Cond.fieldLink "NightDitch$Ditch" (91 : Nat) "NightDitch$Farm" "hours" "I") ∈ q_gw := q_gw_in 59 (by decide +kernel)
theorem w_60 : (Cond.fieldLink "NightDitch$Text" (66 : Nat) "NightDitch$Farm" "hours" "I") ∈ q_gw := q_gw_in 60 (by decide +kernel)
theorem w_61 : (Cond.fieldLink "NightDitch" (154 : Nat) "NightDitch$Farm" "hours" "I") ∈ q_gw := q_gw_in 61 (by decide +kernel)
theorem w_62 : (Cond.fieldLink "NightDitch$Farm" (18 : Nat) "NightDitch$Farm" "worth" "I") ∈ q_gw := q_gw_in 62 (by decide +kernel)
theorem w_63 : (Cond.fieldLink "NightDitch$Ditch" (110 : Nat) "NightDitch$Farm" "worth" "I") ∈ q_gw := q_gw_in 63 (by decide +kernel)
theorem w_64 : (Cond.fieldLink "NightDitch" (297 : Nat) "NightDitch$Farm" "worth" "I") ∈ q_gw := q_gw_in 64 (by decide +kernel)
theorem w_65 : (Cond.fieldLink "NightDitch$Farm" (21 : Nat) "NightDitch$Farm" "sleep" "I") ∈ q_gw := q_gw_in 65 (by decide +kernel)
theorem w_66 : (Cond.fieldLink "NightDitch$Farm" (24 : Nat) "NightDitch$Farm" "sees" "I") ∈ q_gw := q_gw_in 66 (by decide +kernel)
theorem w_67 : (Cond.fieldLink "NightDitch$Ditch" (153 : Nat) "NightDitch$Farm" "sees" "I") ∈ q_gw := q_gw_in 67 (by decide +kernel)
theorem w_68 : (Cond.fieldLink "NightDitch$Farm" (27 : Nat) "NightDitch$Farm" "purse" "I") ∈ q_gw := q_gw_in 68 (by decide +kernel)
theorem w_69 : (Cond.fieldLink "NightDitch$Ditch" (189 : Nat) "NightDitch$Farm" "purse" "I") ∈ q_gw := q_gw_in 69 (by decide +kernel)
theorem w_70 : (Cond.fieldLink "NightDitch" (248 : Nat) "NightDitch$Farm" "purse" "I") ∈ q_gw := q_gw_in 70 (by decide +kernel)
theorem w_71 : (Cond.fieldLink "NightDitch$Farm" (30 : Nat) "NightDitch$Farm" "anger" "I") ∈ q_gw := q_gw_in 71 (by decide +kernel)
theorem w_72 : (Cond.fieldLink "NightDitch$Ditch" (82 : Nat) "NightDitch$Farm" "anger" "I") ∈ q_gw := q_gw_in 72 (by decide +kernel)
theorem w_88 : (Cond.instantiable "NightDitch$Meet" (13 : Nat)) ∈ q_gw := q_gw_in 88 (by decide +kernel)
theorem nw_89 : (Cond.methodLinkNest "NightDitch$Ditch" (60 : Nat) ({ cls := "NightDitch$Meet", name := "<init>", desc := "()V" } : MethodName) "NightDitch") ∈ q_nw := q_nw_in 89 (by decide +kernel)
theorem w_90 : (Cond.instanceMethod ({ cls := "NightDitch$Meet", name := "<init>", desc := "()V" } : MethodName)) ∈ q_gw := q_gw_in 90 (by decide +kernel)
theorem w_91 : (Cond.code ({ cls := "NightDitch$Meet", name := "<init>", desc := "()V" } : MethodName) prog_4_method_1_code (1 : Nat) (Option.none : Option FieldType)) ∈ q_gw := q_gw_in 91 (by decide +kernel)
theorem w_92 : (Cond.methodLink "NightDitch$Meet" (1 : Nat) ({ cls := "java/lang/Object", name := "<init>", desc := "()V" } : MethodName)) ∈ q_gw := q_gw_in 92 (by decide +kernel)
theorem w_93 : (Cond.fieldLink "NightDitch$Ditch" (135 : Nat) "NightDitch$Meet" "owner" "I") ∈ q_gw := q_gw_in 93 (by decide +kernel)
theorem w_94 : (Cond.fieldLink "NightDitch$Ditch" (138 : Nat) "NightDitch$Meet" "taker" "I") ∈ q_gw := q_gw_in 94 (by decide +kernel)
theorem w_95 : (Cond.fieldLink "NightDitch" (200 : Nat) "NightDitch$Meet" "taker" "I") ∈ q_gw := q_gw_in 95 (by decide +kernel)
theorem w_96 : (Cond.fieldLink "NightDitch$Meet" (28 : Nat) "NightDitch$Meet" "wants" "I") ∈ q_gw := q_gw_in 96 (by decide +kernel)
theorem w_97 : (Cond.fieldLink "NightDitch$Ditch" (141 : Nat) "NightDitch$Meet" "wants" "I") ∈ q_gw := q_gw_in 97 (by decide +kernel)
theorem w_98 : (Cond.fieldLink "NightDitch$Meet" (22 : Nat) "NightDitch$Meet" "pays" "I") ∈ q_gw := q_gw_in 98 (by decide +kernel)
theorem w_99 : (Cond.fieldLink "NightDitch$Ditch" (143 : Nat) "NightDitch$Meet" "pays" "I") ∈ q_gw := q_gw_in 99 (by decide +kernel)
theorem w_100 : (Cond.fieldLink "NightDitch$Meet" (25 : Nat) "NightDitch$Meet" "given" "I") ∈ q_gw := q_gw_in 100 (by decide +kernel)
theorem w_101 : (Cond.fieldLink "NightDitch$Ditch" (145 : Nat) "NightDitch$Meet" "given" "I") ∈ q_gw := q_gw_in 101 (by decide +kernel)
theorem w_102 : (Cond.fieldLink "NightDitch$Meet" (16 : Nat) "NightDitch$Meet" "minds" "I") ∈ q_gw := q_gw_in 102 (by decide +kernel)
theorem w_103 : (Cond.fieldLink "NightDitch$Ditch" (151 : Nat) "NightDitch$Meet" "minds" "I") ∈ q_gw := q_gw_in 103 (by decide +kernel)
theorem w_104 : (Cond.fieldLink "NightDitch$Meet" (19 : Nat) "NightDitch$Meet" "sight" "I") ∈ q_gw := q_gw_in 104 (by decide +kernel)
theorem w_105 : (Cond.fieldLink "NightDitch$Ditch" (158 : Nat) "NightDitch$Meet" "sight" "I") ∈ q_gw := q_gw_in 105 (by decide +kernel)
theorem w_106 : (Cond.fieldLink "NightDitch$Meet" (35 : Nat) "NightDitch$Meet" "takesAbove" "I") ∈ q_gw := q_gw_in 106 (by decide +kernel)
theorem w_107 : (Cond.fieldLink "NightDitch$Meet" (7 : Nat) "NightDitch$Meet" "takesBelow" "I") ∈ q_gw := q_gw_in 107 (by decide +kernel)
theorem w_108 : (Cond.fieldLink "NightDitch$Meet" (38 : Nat) "NightDitch$Meet" "watchesAbove" "I") ∈ q_gw := q_gw_in 108 (by decide +kernel)
theorem w_109 : (Cond.fieldLink "NightDitch$Meet" (13 : Nat) "NightDitch$Meet" "watchesBelow" "I") ∈ q_gw := q_gw_in 109 (by decide +kernel)
theorem w_110 : (Cond.fieldLink "NightDitch$Meet" (47 : Nat) "NightDitch$Meet" "takes" "I") ∈ q_gw := q_gw_in 110 (by decide +kernel)
theorem w_111 : (Cond.fieldLink "NightDitch$Ditch" (169 : Nat) "NightDitch$Meet" "takes" "I") ∈ q_gw := q_gw_in 111 (by decide +kernel)
theorem w_112 : (Cond.fieldLink "NightDitch" (197 : Nat) "NightDitch$Meet" "takes" "I") ∈ q_gw := q_gw_in 112 (by decide +kernel)
theorem w_113 : (Cond.fieldLink "NightDitch$Meet" (50 : Nat) "NightDitch$Meet" "watches" "I") ∈ q_gw := q_gw_in 113 (by decide +kernel)
theorem w_114 : (Cond.fieldLink "NightDitch$Ditch" (186 : Nat) "NightDitch$Meet" "watches" "I") ∈ q_gw := q_gw_in 114 (by decide +kernel)
theorem w_142 : (Cond.fieldLink "NightDitch$Ditch" (11 : Nat) "NightDitch$Ditch" "farms" "[LNightDitch$Farm;") ∈ q_gw := q_gw_in 142 (by decide +kernel)
theorem w_143 : (Cond.fieldLink "NightDitch" (80 : Nat) "NightDitch$Ditch" "farms" "[LNightDitch$Farm;") ∈ q_gw := q_gw_in 143 (by decide +kernel)
theorem w_144 : (Cond.fieldLink "NightDitch$Text" (62 : Nat) "NightDitch$Ditch" "farms" "[LNightDitch$Farm;") ∈ q_gw := q_gw_in 144 (by decide +kernel)
theorem w_145 : (Cond.fieldLink "NightDitch$Ditch" (17 : Nat) "NightDitch$Ditch" "order" "[I") ∈ q_gw := q_gw_in 145 (by decide +kernel)
theorem w_146 : (Cond.fieldLink "NightDitch" (126 : Nat) "NightDitch$Ditch" "order" "[I") ∈ q_gw := q_gw_in 146 (by decide +kernel)
theorem w_147 : (Cond.fieldLink "NightDitch$Ditch" (21 : Nat) "NightDitch$Ditch" "rules" "[I") ∈ q_gw := q_gw_in 147 (by decide +kernel)
theorem w_148 : (Cond.fieldLink "NightDitch$Orders" (85 : Nat) "NightDitch$Ditch" "rules" "[I") ∈ q_gw := q_gw_in 148 (by decide +kernel)
theorem w_149 : (Cond.fieldLink "NightDitch" (113 : Nat) "NightDitch$Ditch" "rules" "[I") ∈ q_gw := q_gw_in 149 (by decide +kernel)
theorem w_150 : (Cond.fieldLink "NightDitch$Ditch" (27 : Nat) "NightDitch$Ditch" "said" "LNightDitch$Text;") ∈ q_gw := q_gw_in 150 (by decide +kernel)
theorem w_151 : (Cond.fieldLink "NightDitch$Orders" (55 : Nat) "NightDitch$Ditch" "said" "LNightDitch$Text;") ∈ q_gw := q_gw_in 151 (by decide +kernel)
theorem w_152 : (Cond.fieldLink "NightDitch" (216 : Nat) "NightDitch$Ditch" "said" "LNightDitch$Text;") ∈ q_gw := q_gw_in 152 (by decide +kernel)
theorem w_153 : (Cond.fieldLink "NightDitch$Ditch" (31 : Nat) "NightDitch$Ditch" "count" "I") ∈ q_gw := q_gw_in 153 (by decide +kernel)
theorem w_154 : (Cond.fieldLink "NightDitch$Orders" (40 : Nat) "NightDitch$Ditch" "count" "I") ∈ q_gw := q_gw_in 154 (by decide +kernel)
theorem w_155 : (Cond.fieldLink "NightDitch" (64 : Nat) "NightDitch$Ditch" "count" "I") ∈ q_gw := q_gw_in 155 (by decide +kernel)
theorem w_156 : (Cond.fieldLink "NightDitch$Text" (71 : Nat) "NightDitch$Ditch" "count" "I") ∈ q_gw := q_gw_in 156 (by decide +kernel)
theorem w_157 : (Cond.fieldLink "NightDitch$Ditch" (35 : Nat) "NightDitch$Ditch" "year" "I") ∈ q_gw := q_gw_in 157 (by decide +kernel)
theorem w_158 : (Cond.fieldLink "NightDitch" (119 : Nat) "NightDitch$Ditch" "year" "I") ∈ q_gw := q_gw_in 158 (by decide +kernel)
theorem w_159 : (Cond.fieldLink "NightDitch$Text" (59 : Nat) "NightDitch$Ditch" "year" "I") ∈ q_gw := q_gw_in 159 (by decide +kernel)
theorem w_160 : (Cond.fieldLink "NightDitch$Ditch" (38 : Nat) "NightDitch$Ditch" "dry" "I") ∈ q_gw := q_gw_in 160 (by decide +kernel)
theorem w_161 : (Cond.fieldLink "NightDitch" (116 : Nat) "NightDitch$Ditch" "dry" "I") ∈ q_gw := q_gw_in 161 (by decide +kernel)
theorem w_162 : (Cond.fieldLink "NightDitch$Text" (54 : Nat) "NightDitch$Ditch" "dry" "I") ∈ q_gw := q_gw_in 162 (by decide +kernel)
theorem w_163 : (Cond.fieldLink "NightDitch$Ditch" (41 : Nat) "NightDitch$Ditch" "z" "I") ∈ q_gw := q_gw_in 163 (by decide +kernel)
theorem w_164 : (Cond.fieldLink "NightDitch" (236 : Nat) "NightDitch$Ditch" "z" "I") ∈ q_gw := q_gw_in 164 (by decide +kernel)
theorem w_165 : (Cond.fieldLink "NightDitch$Ditch" (44 : Nat) "NightDitch$Ditch" "taken" "I") ∈ q_gw := q_gw_in 165 (by decide +kernel)
theorem w_166 : (Cond.fieldLink "NightDitch" (239 : Nat) "NightDitch$Ditch" "taken" "I") ∈ q_gw := q_gw_in 166 (by decide +kernel)
theorem w_167 : (Cond.fieldLink "NightDitch$Ditch" (47 : Nat) "NightDitch$Ditch" "seen" "I") ∈ q_gw := q_gw_in 167 (by decide +kernel)
theorem w_168 : (Cond.fieldLink "NightDitch" (245 : Nat) "NightDitch$Ditch" "seen" "I") ∈ q_gw := q_gw_in 168 (by decide +kernel)
theorem w_169 : (Cond.fieldLink "NightDitch$Ditch" (52 : Nat) "NightDitch$Ditch" "meets" "[LNightDitch$Meet;") ∈ q_gw := q_gw_in 169 (by decide +kernel)
theorem w_170 : (Cond.fieldLink "NightDitch" (163 : Nat) "NightDitch$Ditch" "meets" "[LNightDitch$Meet;") ∈ q_gw := q_gw_in 170 (by decide +kernel)
theorem w_171 : (Cond.fieldLink "NightDitch$Ditch" (56 : Nat) "NightDitch$Ditch" "pays" "[I") ∈ q_gw := q_gw_in 171 (by decide +kernel)
theorem w_197 : (Cond.classLink "NightDitch" (22 : Nat) "NightDitch$Orders") ∈ q_gw := q_gw_in 197 (by decide +kernel)
theorem w_198 : (Cond.instantiable "NightDitch$Orders" (7 : Nat)) ∈ q_gw := q_gw_in 198 (by decide +kernel)
theorem nw_199 : (Cond.methodLinkNest "NightDitch" (24 : Nat) ({ cls := "NightDitch$Orders", name := "<init>", desc := "()V" } : MethodName) "NightDitch") ∈ q_nw := q_nw_in 199 (by decide +kernel)
theorem w_200 : (Cond.instanceMethod ({ cls := "NightDitch$Orders", name := "<init>", desc := "()V" } : MethodName)) ∈ q_gw := q_gw_in 200 (by decide +kernel)
theorem w_201 : (Cond.code ({ cls := "NightDitch$Orders", name := "<init>", desc := "()V" } : MethodName) prog_5_method_1_code (1 : Nat) (Option.none : Option FieldType)) ∈ q_gw := q_gw_in 201 (by decide +kernel)
theorem w_202 : (Cond.methodLink "NightDitch$Orders" (3 : Nat) ({ cls := "java/lang/Object", name := "<init>", desc := "()V" } : MethodName)) ∈ q_gw := q_gw_in 202 (by decide +kernel)
theorem w_203 : (Cond.classLink "NightDitch$Orders" (22 : Nat) "NightDitch$Meet") ∈ q_gw := q_gw_in 203 (by decide +kernel)
theorem nw_204 : (Cond.methodLinkNest "NightDitch$Orders" (24 : Nat) ({ cls := "NightDitch$Meet", name := "<init>", desc := "()V" } : MethodName) "NightDitch") ∈ q_nw := q_nw_in 204 (by decide +kernel)
theorem w_205 : (Cond.fieldLink "NightDitch$Orders" (9 : Nat) "NightDitch$Orders" "pays" "[I") ∈ q_gw := q_gw_in 205 (by decide +kernel)
theorem w_206 : (Cond.fieldLink "NightDitch$Orders" (15 : Nat) "NightDitch$Orders" "lost" "[J") ∈ q_gw := q_gw_in 206 (by decide +kernel)
theorem w_207 : (Cond.fieldLink "NightDitch$Orders" (19 : Nat) "NightDitch$Orders" "laid" "[I") ∈ q_gw := q_gw_in 207 (by decide +kernel)
theorem w_208 : (Cond.fieldLink "NightDitch$Orders" (25 : Nat) "NightDitch$Orders" "meet" "LNightDitch$Meet;") ∈ q_gw := q_gw_in 208 (by decide +kernel)
theorem w_209 : (Cond.fieldLink "NightDitch$Orders" (29 : Nat) "NightDitch$Orders" "count" "I") ∈ q_gw := q_gw_in 209 (by decide +kernel)
theorem w_210 : (Cond.fieldLink "NightDitch$Orders" (33 : Nat) "NightDitch$Orders" "leastLost" "J") ∈ q_gw := q_gw_in 210 (by decide +kernel)
theorem w_211 : (Cond.fieldLink "NightDitch" (147 : Nat) "NightDitch$Orders" "leastLost" "J") ∈ q_gw := q_gw_in 211 (by decide +kernel)
theorem w_212 : (Cond.fieldLink "NightDitch$Orders" (37 : Nat) "NightDitch$Orders" "leastNumber" "I") ∈ q_gw := q_gw_in 212 (by decide +kernel)
theorem w_213 : (Cond.fieldLink "NightDitch" (144 : Nat) "NightDitch$Orders" "leastNumber" "I") ∈ q_gw := q_gw_in 213 (by decide +kernel)
theorem w_229 : (Cond.arrayClass FieldType.long) ∈ q_gw := q_gw_in 229 (by decide +kernel)
theorem w_230 : (Cond.classLink "NightDitch" (29 : Nat) "NightDitch$Tape") ∈ q_gw := q_gw_in 230 (by decide +kernel)
theorem w_231 : (Cond.instantiable "NightDitch$Tape" (4 : Nat)) ∈ q_gw := q_gw_in 231 (by decide +kernel)
theorem nw_232 : (Cond.methodLinkNest "NightDitch" (31 : Nat) ({ cls := "NightDitch$Tape", name := "<init>", desc := "()V" } : MethodName) "NightDitch") ∈ q_nw := q_nw_in 232 (by decide +kernel)
theorem w_233 : (Cond.instanceMethod ({ cls := "NightDitch$Tape", name := "<init>", desc := "()V" } : MethodName)) ∈ q_gw := q_gw_in 233 (by decide +kernel)
theorem w_234 : (Cond.code ({ cls := "NightDitch$Tape", name := "<init>", desc := "()V" } : MethodName) prog_7_method_1_code (1 : Nat) (Option.none : Option FieldType)) ∈ q_gw := q_gw_in 234 (by decide +kernel)
theorem w_235 : (Cond.methodLink "NightDitch$Tape" (3 : Nat) ({ cls := "java/lang/Object", name := "<init>", desc := "()V" } : MethodName)) ∈ q_gw := q_gw_in 235 (by decide +kernel)
theorem w_236 : (Cond.classLink "NightDitch$Tape" (15 : Nat) "NightDitch$Text") ∈ q_gw := q_gw_in 236 (by decide +kernel)
theorem nw_237 : (Cond.methodLinkNest "NightDitch$Tape" (17 : Nat) ({ cls := "NightDitch$Text", name := "<init>", desc := "()V" } : MethodName) "NightDitch") ∈ q_nw := q_nw_in 237 (by decide +kernel)
theorem w_238 : (Cond.fieldLink "NightDitch$Tape" (9 : Nat) "NightDitch$Tape" "bytes" "[I") ∈ q_gw := q_gw_in 238 (by decide +kernel)
theorem w_239 : (Cond.fieldLink "NightDitch$Tape" (18 : Nat) "NightDitch$Tape" "draft" "LNightDitch$Text;") ∈ q_gw := q_gw_in 239 (by decide +kernel)
theorem w_240 : (Cond.fieldLink "NightDitch" (220 : Nat) "NightDitch$Tape" "draft" "LNightDitch$Text;") ∈ q_gw := q_gw_in 240 (by decide +kernel)
theorem w_241 : (Cond.fieldLink "NightDitch$Tape" (22 : Nat) "NightDitch$Tape" "length" "I") ∈ q_gw := q_gw_in 241 (by decide +kernel)
theorem w_242 : (Cond.fieldLink "NightDitch" (203 : Nat) "NightDitch$Tape" "length" "I") ∈ q_gw := q_gw_in 242 (by decide +kernel)
theorem w_243 : (Cond.fieldLink "NightDitch$Tape" (26 : Nat) "NightDitch$Tape" "at" "I") ∈ q_gw := q_gw_in 243 (by decide +kernel)
theorem w_244 : (Cond.fieldLink "NightDitch" (213 : Nat) "NightDitch$Tape" "at" "I") ∈ q_gw := q_gw_in 244 (by decide +kernel)
theorem w_254 : (Cond.classLink "NightDitch" (36 : Nat) "NightDitch$Sheets") ∈ q_gw := q_gw_in 254 (by decide +kernel)
theorem w_255 : (Cond.instantiable "NightDitch$Sheets" (3 : Nat)) ∈ q_gw := q_gw_in 255 (by decide +kernel)
theorem nw_256 : (Cond.methodLinkNest "NightDitch" (38 : Nat) ({ cls := "NightDitch$Sheets", name := "<init>", desc := "()V" } : MethodName) "NightDitch") ∈ q_nw := q_nw_in 256 (by decide +kernel)
theorem w_257 : (Cond.instanceMethod ({ cls := "NightDitch$Sheets", name := "<init>", desc := "()V" } : MethodName)) ∈ q_gw := q_gw_in 257 (by decide +kernel)
theorem w_258 : (Cond.code ({ cls := "NightDitch$Sheets", name := "<init>", desc := "()V" } : MethodName) prog_6_method_1_code (1 : Nat) (Option.none : Option FieldType)) ∈ q_gw := q_gw_in 258 (by decide +kernel)
theorem w_259 : (Cond.methodLink "NightDitch$Sheets" (3 : Nat) ({ cls := "java/lang/Object", name := "<init>", desc := "()V" } : MethodName)) ∈ q_gw := q_gw_in 259 (by decide +kernel)
theorem w_262 : (Cond.fieldLink "NightDitch$Sheets" (11 : Nat) "NightDitch$Sheets" "rows" "[[J") ∈ q_gw := q_gw_in 262 (by decide +kernel)
theorem w_263 : (Cond.fieldLink "NightDitch" (284 : Nat) "NightDitch$Sheets" "rows" "[[J") ∈ q_gw := q_gw_in 263 (by decide +kernel)
theorem w_264 : (Cond.fieldLink "NightDitch$Sheets" (16 : Nat) "NightDitch$Sheets" "widths" "[I") ∈ q_gw := q_gw_in 264 (by decide +kernel)
theorem w_265 : (Cond.fieldLink "NightDitch" (278 : Nat) "NightDitch$Sheets" "widths" "[I") ∈ q_gw := q_gw_in 265 (by decide +kernel)
theorem w_266 : (Cond.fieldLink "NightDitch$Sheets" (20 : Nat) "NightDitch$Sheets" "sizes" "[I") ∈ q_gw := q_gw_in 266 (by decide +kernel)
theorem w_267 : (Cond.fieldLink "NightDitch" (271 : Nat) "NightDitch$Sheets" "sizes" "[I") ∈ q_gw := q_gw_in 267 (by decide +kernel)
theorem w_275 : (Cond.fieldLink "NightDitch" (10 : Nat) "NightDitch" "now" "LNightDitch$Ditch;") ∈ q_gw := q_gw_in 275 (by decide +kernel)
theorem w_276 : (Cond.fieldLink "NightDitch" (16 : Nat) "NightDitch" "kept" "LNightDitch$Ditch;") ∈ q_gw := q_gw_in 276 (by decide +kernel)
theorem w_277 : (Cond.fieldLink "NightDitch" (19 : Nat) "NightDitch" "trial" "LNightDitch$Ditch;") ∈ q_gw := q_gw_in 277 (by decide +kernel)
theorem w_278 : (Cond.fieldLink "NightDitch" (25 : Nat) "NightDitch" "orders" "LNightDitch$Orders;") ∈ q_gw := q_gw_in 278 (by decide +kernel)
theorem w_279 : (Cond.fieldLink "NightDitch" (32 : Nat) "NightDitch" "tape" "LNightDitch$Tape;") ∈ q_gw := q_gw_in 279 (by decide +kernel)
theorem w_280 : (Cond.fieldLink "NightDitch" (39 : Nat) "NightDitch" "sheets" "LNightDitch$Sheets;") ∈ q_gw := q_gw_in 280 (by decide +kernel)
theorem w_281 : (Cond.fieldLink "NightDitch" (43 : Nat) "NightDitch" "findings" "[I") ∈ q_gw := q_gw_in 281 (by decide +kernel)
theorem w_282 : (Cond.fieldLink "NightDitch" (47 : Nat) "NightDitch" "isKept" "Z") ∈ q_gw := q_gw_in 282 (by decide +kernel)
theorem w_300 : (Cond.methodLink "NightDitchLaw" (13 : Nat) ({ cls := "NightDitch", name := "farm", desc := "(III)I" } : MethodName)) ∈ q_gw := q_gw_in 300 (by decide +kernel)
theorem w_301 : (Cond.instanceMethod ({ cls := "NightDitch", name := "farm", desc := "(III)I" } : MethodName)) ∈ q_gw := q_gw_in 301 (by decide +kernel)
theorem w_302 : (Cond.selects "NightDitch" ({ cls := "NightDitch", name := "farm", desc := "(III)I" } : MethodName) ({ cls := "NightDitch", name := "farm", desc := "(III)I" } : MethodName)) ∈ q_gw := q_gw_in 302 (by decide +kernel)
theorem w_303 : (Cond.code ({ cls := "NightDitch", name := "farm", desc := "(III)I" } : MethodName) prog_1_method_2_code (4 : Nat) (Option.some FieldType.int)) ∈ q_gw := q_gw_in 303 (by decide +kernel)
theorem w_304 : (Cond.methodLink "NightDitch" (51 : Nat) ({ cls := "NightDitch", name := "isWithin", desc := "(III)Z" } : MethodName)) ∈ q_gw := q_gw_in 304 (by decide +kernel)
theorem w_305 : (Cond.static ({ cls := "NightDitch", name := "isWithin", desc := "(III)Z" } : MethodName)) ∈ q_gw := q_gw_in 305 (by decide +kernel)
theorem w_306 : (Cond.code ({ cls := "NightDitch", name := "isWithin", desc := "(III)Z" } : MethodName) prog_1_method_42_code (3 : Nat) (Option.some FieldType.boolean)) ∈ q_gw := q_gw_in 306 (by decide +kernel)
theorem w_307 : (Cond.methodLink "NightDitch" (55 : Nat) ({ cls := "NightDitch", name := "isPart", desc := "(II)Z" } : MethodName)) ∈ q_gw := q_gw_in 307 (by decide +kernel)
theorem w_308 : (Cond.static ({ cls := "NightDitch", name := "isPart", desc := "(II)Z" } : MethodName)) ∈ q_gw := q_gw_in 308 (by decide +kernel)
theorem w_309 : (Cond.code ({ cls := "NightDitch", name := "isPart", desc := "(II)Z" } : MethodName) prog_1_method_43_code (2 : Nat) (Option.some FieldType.boolean)) ∈ q_gw := q_gw_in 309 (by decide +kernel)
theorem w_310 : (Cond.fieldLink "NightDitch" (294 : Nat) "NightDitch" "FARM_LEAST" "[I") ∈ q_gw := q_gw_in 310 (by decide +kernel)
theorem w_312 : (Cond.fieldLink "NightDitch" (77 : Nat) "NightDitch" "FARM_MOST" "[I") ∈ q_gw := q_gw_in 312 (by decide +kernel)
theorem w_314 : (Cond.constant "NightDitch" (59 : Nat) (-1000000001 : Int32)) ∈ q_gw := q_gw_in 314 (by decide +kernel)
theorem w_315 : (Cond.methodLink "NightDitch" (60 : Nat) ({ cls := "NightDitch", name := "finding", desc := "(I)I" } : MethodName)) ∈ q_gw := q_gw_in 315 (by decide +kernel)
theorem w_317 : (Cond.instanceMethod ({ cls := "NightDitch", name := "finding", desc := "(I)I" } : MethodName)) ∈ q_gw := q_gw_in 317 (by decide +kernel)
theorem w_318 : (Cond.code ({ cls := "NightDitch", name := "finding", desc := "(I)I" } : MethodName) prog_1_method_41_code (3 : Nat) (Option.some FieldType.int)) ∈ q_gw := q_gw_in 318 (by decide +kernel)
theorem w_319 : (Cond.constant "NightDitch" (68 : Nat) (-1000000002 : Int32)) ∈ q_gw := q_gw_in 319 (by decide +kernel)
theorem w_320 : (Cond.methodLink "NightDitch" (69 : Nat) ({ cls := "NightDitch$Ditch", name := "settleFarm", desc := "(III)I" } : MethodName)) ∈ q_gw := q_gw_in 320 (by decide +kernel)
theorem w_321 : (Cond.instanceMethod ({ cls := "NightDitch$Ditch", name := "settleFarm", desc := "(III)I" } : MethodName)) ∈ q_gw := q_gw_in 321 (by decide +kernel)
theorem w_322 : (Cond.selects "NightDitch$Ditch" ({ cls := "NightDitch$Ditch", name := "settleFarm", desc := "(III)I" } : MethodName) ({ cls := "NightDitch$Ditch", name := "settleFarm", desc := "(III)I" } : MethodName)) ∈ q_gw := q_gw_in 322 (by decide +kernel)
theorem w_323 : (Cond.code ({ cls := "NightDitch$Ditch", name := "settleFarm", desc := "(III)I" } : MethodName) prog_2_method_4_code (5 : Nat) (Option.some FieldType.int)) ∈ q_gw := q_gw_in 323 (by decide +kernel)
theorem w_324 : (Cond.methodLink "NightDitch$Ditch" (78 : Nat) ({ cls := "NightDitch$Farm", name := "begin", desc := "(III)V" } : MethodName)) ∈ q_gw := q_gw_in 324 (by decide +kernel)
theorem w_325 : (Cond.instanceMethod ({ cls := "NightDitch$Farm", name := "begin", desc := "(III)V" } : MethodName)) ∈ q_gw := q_gw_in 325 (by decide +kernel)
theorem w_326 : (Cond.selects "NightDitch$Farm" ({ cls := "NightDitch$Farm", name := "begin", desc := "(III)V" } : MethodName) ({ cls := "NightDitch$Farm", name := "begin", desc := "(III)V" } : MethodName)) ∈ q_gw := q_gw_in 326 (by decide +kernel)
theorem w_327 : (Cond.code ({ cls := "NightDitch$Farm", name := "begin", desc := "(III)V" } : MethodName) prog_3_method_2_code (4 : Nat) (Option.none : Option FieldType)) ∈ q_gw := q_gw_in 327 (by decide +kernel)
theorem w_328 : (Cond.methodLink "NightDitchLaw" (18 : Nat) ({ cls := "NightDitch", name := "set", desc := "(III)I" } : MethodName)) ∈ q_gw := q_gw_in 328 (by decide +kernel)
theorem w_329 : (Cond.instanceMethod ({ cls := "NightDitch", name := "set", desc := "(III)I" } : MethodName)) ∈ q_gw := q_gw_in 329 (by decide +kernel)
theorem w_330 : (Cond.selects "NightDitch" ({ cls := "NightDitch", name := "set", desc := "(III)I" } : MethodName) ({ cls := "NightDitch", name := "set", desc := "(III)I" } : MethodName)) ∈ q_gw := q_gw_in 330 (by decide +kernel)
theorem w_331 : (Cond.code ({ cls := "NightDitch", name := "set", desc := "(III)I" } : MethodName) prog_1_method_3_code (4 : Nat) (Option.some FieldType.int)) ∈ q_gw := q_gw_in 331 (by decide +kernel)
theorem w_332 : (Cond.methodLink "NightDitch" (73 : Nat) ({ cls := "NightDitch$Ditch", name := "hasFarm", desc := "(I)Z" } : MethodName)) ∈ q_gw := q_gw_in 332 (by decide +kernel)
theorem w_333 : (Cond.instanceMethod ({ cls := "NightDitch$Ditch", name := "hasFarm", desc := "(I)Z" } : MethodName)) ∈ q_gw := q_gw_in 333 (by decide +kernel)
theorem w_334 : (Cond.selects "NightDitch$Ditch" ({ cls := "NightDitch$Ditch", name := "hasFarm", desc := "(I)Z" } : MethodName) ({ cls := "NightDitch$Ditch", name := "hasFarm", desc := "(I)Z" } : MethodName)) ∈ q_gw := q_gw_in 334 (by decide +kernel)
theorem w_335 : (Cond.code ({ cls := "NightDitch$Ditch", name := "hasFarm", desc := "(I)Z" } : MethodName) prog_2_method_3_code (2 : Nat) (Option.some FieldType.boolean)) ∈ q_gw := q_gw_in 335 (by decide +kernel)
theorem nw_336 : (Cond.methodLinkNest "NightDitch$Ditch" (74 : Nat) ({ cls := "NightDitch", name := "isWithin", desc := "(III)Z" } : MethodName) "NightDitch") ∈ q_nw := q_nw_in 336 (by decide +kernel)
theorem w_337 : (Cond.methodLink "NightDitch" (84 : Nat) ({ cls := "NightDitch$Farm", name := "change", desc := "(II)I" } : MethodName)) ∈ q_gw := q_gw_in 337 (by decide +kernel)
theorem w_338 : (Cond.instanceMethod ({ cls := "NightDitch$Farm", name := "change", desc := "(II)I" } : MethodName)) ∈ q_gw := q_gw_in 338 (by decide +kernel)
theorem w_339 : (Cond.selects "NightDitch$Farm" ({ cls := "NightDitch$Farm", name := "change", desc := "(II)I" } : MethodName) ({ cls := "NightDitch$Farm", name := "change", desc := "(II)I" } : MethodName)) ∈ q_gw := q_gw_in 339 (by decide +kernel)
theorem w_340 : (Cond.code ({ cls := "NightDitch$Farm", name := "change", desc := "(II)I" } : MethodName) prog_3_method_5_code (4 : Nat) (Option.some FieldType.int)) ∈ q_gw := q_gw_in 340 (by decide +kernel)
theorem w_341 : (Cond.methodLink "NightDitch$Farm" (37 : Nat) ({ cls := "NightDitch$Farm", name := "tell", desc := "(I)I" } : MethodName)) ∈ q_gw := q_gw_in 341 (by decide +kernel)
theorem w_342 : (Cond.instanceMethod ({ cls := "NightDitch$Farm", name := "tell", desc := "(I)I" } : MethodName)) ∈ q_gw := q_gw_in 342 (by decide +kernel)
theorem w_343 : (Cond.selects "NightDitch$Farm" ({ cls := "NightDitch$Farm", name := "tell", desc := "(I)I" } : MethodName) ({ cls := "NightDitch$Farm", name := "tell", desc := "(I)I" } : MethodName)) ∈ q_gw := q_gw_in 343 (by decide +kernel)
theorem w_344 : (Cond.code ({ cls := "NightDitch$Farm", name := "tell", desc := "(I)I" } : MethodName) prog_3_method_4_code (2 : Nat) (Option.some FieldType.int)) ∈ q_gw := q_gw_in 344 (by decide +kernel)
theorem w_345 : (Cond.methodLink "NightDitchLaw" (22 : Nat) ({ cls := "NightDitch", name := "of", desc := "(II)I" } : MethodName)) ∈ q_gw := q_gw_in 345 (by decide +kernel)
theorem w_346 : (Cond.instanceMethod ({ cls := "NightDitch", name := "of", desc := "(II)I" } : MethodName)) ∈ q_gw := q_gw_in 346 (by decide +kernel)
theorem w_347 : (Cond.selects "NightDitch" ({ cls := "NightDitch", name := "of", desc := "(II)I" } : MethodName) ({ cls := "NightDitch", name := "of", desc := "(II)I" } : MethodName)) ∈ q_gw := q_gw_in 347 (by decide +kernel)
theorem w_348 : (Cond.code ({ cls := "NightDitch", name := "of", desc := "(II)I" } : MethodName) prog_1_method_4_code (3 : Nat) (Option.some FieldType.int)) ∈ q_gw := q_gw_in 348 (by decide +kernel)
theorem w_349 : (Cond.methodLink "NightDitch" (90 : Nat) ({ cls := "NightDitch$Ditch", name := "paysOf", desc := "(I)I" } : MethodName)) ∈ q_gw := q_gw_in 349 (by decide +kernel)
theorem w_350 : (Cond.instanceMethod ({ cls := "NightDitch$Ditch", name := "paysOf", desc := "(I)I" } : MethodName)) ∈ q_gw := q_gw_in 350 (by decide +kernel)
theorem w_351 : (Cond.selects "NightDitch$Ditch" ({ cls := "NightDitch$Ditch", name := "paysOf", desc := "(I)I" } : MethodName) ({ cls := "NightDitch$Ditch", name := "paysOf", desc := "(I)I" } : MethodName)) ∈ q_gw := q_gw_in 351 (by decide +kernel)
theorem w_352 : (Cond.code ({ cls := "NightDitch$Ditch", name := "paysOf", desc := "(I)I" } : MethodName) prog_2_method_12_code (2 : Nat) (Option.some FieldType.int)) ∈ q_gw := q_gw_in 352 (by decide +kernel)
theorem w_353 : (Cond.methodLink "NightDitch$Ditch" (97 : Nat) ({ cls := "NightDitch$Ditch", name := "placeOf", desc := "(I)I" } : MethodName)) ∈ q_gw := q_gw_in 353 (by decide +kernel)
theorem w_354 : (Cond.instanceMethod ({ cls := "NightDitch$Ditch", name := "placeOf", desc := "(I)I" } : MethodName)) ∈ q_gw := q_gw_in 354 (by decide +kernel)
theorem w_355 : (Cond.selects "NightDitch$Ditch" ({ cls := "NightDitch$Ditch", name := "placeOf", desc := "(I)I" } : MethodName) ({ cls := "NightDitch$Ditch", name := "placeOf", desc := "(I)I" } : MethodName)) ∈ q_gw := q_gw_in 355 (by decide +kernel)
theorem w_356 : (Cond.code ({ cls := "NightDitch$Ditch", name := "placeOf", desc := "(I)I" } : MethodName) prog_2_method_7_code (3 : Nat) (Option.some FieldType.int)) ∈ q_gw := q_gw_in 356 (by decide +kernel)
theorem w_357 : (Cond.methodLink "NightDitch$Ditch" (101 : Nat) ({ cls := "NightDitch$Ditch", name := "paysAt", desc := "(II)I" } : MethodName)) ∈ q_gw := q_gw_in 357 (by decide +kernel)
theorem w_358 : (Cond.instanceMethod ({ cls := "NightDitch$Ditch", name := "paysAt", desc := "(II)I" } : MethodName)) ∈ q_gw := q_gw_in 358 (by decide +kernel)
theorem w_359 : (Cond.selects "NightDitch$Ditch" ({ cls := "NightDitch$Ditch", name := "paysAt", desc := "(II)I" } : MethodName) ({ cls := "NightDitch$Ditch", name := "paysAt", desc := "(II)I" } : MethodName)) ∈ q_gw := q_gw_in 359 (by decide +kernel)
theorem w_360 : (Cond.code ({ cls := "NightDitch$Ditch", name := "paysAt", desc := "(II)I" } : MethodName) prog_2_method_14_code (5 : Nat) (Option.some FieldType.int)) ∈ q_gw := q_gw_in 360 (by decide +kernel)
theorem w_361 : (Cond.methodLink "NightDitch$Ditch" (113 : Nat) ({ cls := "NightDitch$Text", name := "valueFor", desc := "(LNightDitch$Ditch;II)I" } : MethodName)) ∈ q_gw := q_gw_in 361 (by decide +kernel)
theorem w_362 : (Cond.instanceMethod ({ cls := "NightDitch$Text", name := "valueFor", desc := "(LNightDitch$Ditch;II)I" } : MethodName)) ∈ q_gw := q_gw_in 362 (by decide +kernel)
theorem w_363 : (Cond.selects "NightDitch$Text" ({ cls := "NightDitch$Text", name := "valueFor", desc := "(LNightDitch$Ditch;II)I" } : MethodName) ({ cls := "NightDitch$Text", name := "valueFor", desc := "(LNightDitch$Ditch;II)I" } : MethodName)) ∈ q_gw := q_gw_in 363 (by decide +kernel)
theorem w_364 : (Cond.code ({ cls := "NightDitch$Text", name := "valueFor", desc := "(LNightDitch$Ditch;II)I" } : MethodName) prog_8_method_6_code (6 : Nat) (Option.some FieldType.int)) ∈ q_gw := q_gw_in 364 (by decide +kernel)
theorem w_365 : (Cond.methodLink "NightDitch$Text" (31 : Nat) ({ cls := "NightDitch$Text", name := "isThere", desc := "()Z" } : MethodName)) ∈ q_gw := q_gw_in 365 (by decide +kernel)
theorem w_366 : (Cond.instanceMethod ({ cls := "NightDitch$Text", name := "isThere", desc := "()Z" } : MethodName)) ∈ q_gw := q_gw_in 366 (by decide +kernel)
theorem w_367 : (Cond.selects "NightDitch$Text" ({ cls := "NightDitch$Text", name := "isThere", desc := "()Z" } : MethodName) ({ cls := "NightDitch$Text", name := "isThere", desc := "()Z" } : MethodName)) ∈ q_gw := q_gw_in 367 (by decide +kernel)
theorem w_368 : (Cond.code ({ cls := "NightDitch$Text", name := "isThere", desc := "()Z" } : MethodName) prog_8_method_2_code (1 : Nat) (Option.some FieldType.boolean)) ∈ q_gw := q_gw_in 368 (by decide +kernel)
theorem w_369 : (Cond.methodLink "NightDitch$Text" (35 : Nat) ({ cls := "NightDitch$Text", name := "push", desc := "(I)V" } : MethodName)) ∈ q_gw := q_gw_in 369 (by decide +kernel)
theorem w_371 : (Cond.instanceMethod ({ cls := "NightDitch$Text", name := "push", desc := "(I)V" } : MethodName)) ∈ q_gw := q_gw_in 371 (by decide +kernel)
theorem w_372 : (Cond.code ({ cls := "NightDitch$Text", name := "push", desc := "(I)V" } : MethodName) prog_8_method_11_code (2 : Nat) (Option.none : Option FieldType)) ∈ q_gw := q_gw_in 372 (by decide +kernel)
theorem w_373 : (Cond.methodLink "NightDitch$Text" (39 : Nat) ({ cls := "NightDitch$Text", name := "isName", desc := "(I)Z" } : MethodName)) ∈ q_gw := q_gw_in 373 (by decide +kernel)
theorem w_374 : (Cond.static ({ cls := "NightDitch$Text", name := "isName", desc := "(I)Z" } : MethodName)) ∈ q_gw := q_gw_in 374 (by decide +kernel)
theorem w_375 : (Cond.code ({ cls := "NightDitch$Text", name := "isName", desc := "(I)Z" } : MethodName) prog_8_method_7_code (1 : Nat) (Option.some FieldType.boolean)) ∈ q_gw := q_gw_in 375 (by decide +kernel)
theorem w_376 : (Cond.methodLink "NightDitch$Text" (43 : Nat) ({ cls := "NightDitch$Text", name := "named", desc := "(ILNightDitch$Ditch;II)I" } : MethodName)) ∈ q_gw := q_gw_in 376 (by decide +kernel)
theorem w_377 : (Cond.static ({ cls := "NightDitch$Text", name := "named", desc := "(ILNightDitch$Ditch;II)I" } : MethodName)) ∈ q_gw := q_gw_in 377 (by decide +kernel)
theorem w_378 : (Cond.code ({ cls := "NightDitch$Text", name := "named", desc := "(ILNightDitch$Ditch;II)I" } : MethodName) prog_8_method_8_code (4 : Nat) (Option.some FieldType.int)) ∈ q_gw := q_gw_in 378 (by decide +kernel)
theorem w_379 : (Cond.methodLink "NightDitch$Text" (47 : Nat) ({ cls := "NightDitch$Text", name := "work", desc := "(I)V" } : MethodName)) ∈ q_gw := q_gw_in 379 (by decide +kernel)
theorem w_381 : (Cond.instanceMethod ({ cls := "NightDitch$Text", name := "work", desc := "(I)V" } : MethodName)) ∈ q_gw := q_gw_in 381 (by decide +kernel)
theorem w_382 : (Cond.code ({ cls := "NightDitch$Text", name := "work", desc := "(I)V" } : MethodName) prog_8_method_9_code (5 : Nat) (Option.none : Option FieldType)) ∈ q_gw := q_gw_in 382 (by decide +kernel)
theorem w_383 : (Cond.methodLink "NightDitch$Text" (50 : Nat) ({ cls := "NightDitch$Text", name := "pop", desc := "()I" } : MethodName)) ∈ q_gw := q_gw_in 383 (by decide +kernel)
theorem w_385 : (Cond.instanceMethod ({ cls := "NightDitch$Text", name := "pop", desc := "()I" } : MethodName)) ∈ q_gw := q_gw_in 385 (by decide +kernel)
theorem w_386 : (Cond.code ({ cls := "NightDitch$Text", name := "pop", desc := "()I" } : MethodName) prog_8_method_12_code (1 : Nat) (Option.some FieldType.int)) ∈ q_gw := q_gw_in 386 (by decide +kernel)
theorem w_387 : (Cond.methodLink "NightDitch$Text" (74 : Nat) ({ cls := "NightDitch$Text", name := "joined", desc := "(III)I" } : MethodName)) ∈ q_gw := q_gw_in 387 (by decide +kernel)
theorem w_388 : (Cond.static ({ cls := "NightDitch$Text", name := "joined", desc := "(III)I" } : MethodName)) ∈ q_gw := q_gw_in 388 (by decide +kernel)
theorem w_389 : (Cond.code ({ cls := "NightDitch$Text", name := "joined", desc := "(III)I" } : MethodName) prog_8_method_10_code (3 : Nat) (Option.some FieldType.int)) ∈ q_gw := q_gw_in 389 (by decide +kernel)
theorem w_390 : (Cond.constantLong "NightDitch$Ditch" (117 : Nat) (100 : Int64)) ∈ q_gw := q_gw_in 390 (by decide +kernel)
theorem w_391 : (Cond.constantLong "NightDitch$Ditch" (119 : Nat) (99999 : Int64)) ∈ q_gw := q_gw_in 391 (by decide +kernel)
theorem w_392 : (Cond.methodLink "NightDitch$Ditch" (121 : Nat) ({ cls := "java/lang/Math", name := "min", desc := "(JJ)J" } : MethodName)) ∈ q_gw := q_gw_in 392 (by decide +kernel)
theorem w_393 : (Cond.static ({ cls := "java/lang/Math", name := "min", desc := "(JJ)J" } : MethodName)) ∈ q_gw := q_gw_in 393 (by decide +kernel)
theorem w_395 : (Cond.methodLink "NightDitch$Ditch" (125 : Nat) ({ cls := "java/lang/Math", name := "max", desc := "(JJ)J" } : MethodName)) ∈ q_gw := q_gw_in 395 (by decide +kernel)
theorem w_396 : (Cond.static ({ cls := "java/lang/Math", name := "max", desc := "(JJ)J" } : MethodName)) ∈ q_gw := q_gw_in 396 (by decide +kernel)
theorem w_398 : (Cond.methodLink "NightDitch" (93 : Nat) ({ cls := "NightDitch$Ditch", name := "wantsOf", desc := "(I)I" } : MethodName)) ∈ q_gw := q_gw_in 398 (by decide +kernel)
theorem w_399 : (Cond.instanceMethod ({ cls := "NightDitch$Ditch", name := "wantsOf", desc := "(I)I" } : MethodName)) ∈ q_gw := q_gw_in 399 (by decide +kernel)
theorem w_400 : (Cond.selects "NightDitch$Ditch" ({ cls := "NightDitch$Ditch", name := "wantsOf", desc := "(I)I" } : MethodName) ({ cls := "NightDitch$Ditch", name := "wantsOf", desc := "(I)I" } : MethodName)) ∈ q_gw := q_gw_in 400 (by decide +kernel)
theorem w_401 : (Cond.code ({ cls := "NightDitch$Ditch", name := "wantsOf", desc := "(I)I" } : MethodName) prog_2_method_13_code (2 : Nat) (Option.some FieldType.int)) ∈ q_gw := q_gw_in 401 (by decide +kernel)
theorem w_402 : (Cond.methodLink "NightDitch$Ditch" (104 : Nat) ({ cls := "NightDitch$Ditch", name := "paysOf", desc := "(I)I" } : MethodName)) ∈ q_gw := q_gw_in 402 (by decide +kernel)
theorem w_403 : (Cond.methodLink "NightDitch$Ditch" (107 : Nat) ({ cls := "NightDitch$Farm", name := "wants", desc := "(II)I" } : MethodName)) ∈ q_gw := q_gw_in 403 (by decide +kernel)
theorem w_404 : (Cond.instanceMethod ({ cls := "NightDitch$Farm", name := "wants", desc := "(II)I" } : MethodName)) ∈ q_gw := q_gw_in 404 (by decide +kernel)
theorem w_405 : (Cond.selects "NightDitch$Farm" ({ cls := "NightDitch$Farm", name := "wants", desc := "(II)I" } : MethodName) ({ cls := "NightDitch$Farm", name := "wants", desc := "(II)I" } : MethodName)) ∈ q_gw := q_gw_in 405 (by decide +kernel)
theorem w_406 : (Cond.code ({ cls := "NightDitch$Farm", name := "wants", desc := "(II)I" } : MethodName) prog_3_method_7_code (3 : Nat) (Option.some FieldType.int)) ∈ q_gw := q_gw_in 406 (by decide +kernel)
theorem w_407 : (Cond.methodLink "NightDitch$Farm" (45 : Nat) ({ cls := "java/lang/Math", name := "min", desc := "(II)I" } : MethodName)) ∈ q_gw := q_gw_in 407 (by decide +kernel)
theorem w_408 : (Cond.static ({ cls := "java/lang/Math", name := "min", desc := "(II)I" } : MethodName)) ∈ q_gw := q_gw_in 408 (by decide +kernel)
theorem w_410 : (Cond.methodLink "NightDitch" (96 : Nat) ({ cls := "NightDitch$Farm", name := "minds", desc := "()I" } : MethodName)) ∈ q_gw := q_gw_in 410 (by decide +kernel)
theorem w_411 : (Cond.instanceMethod ({ cls := "NightDitch$Farm", name := "minds", desc := "()I" } : MethodName)) ∈ q_gw := q_gw_in 411 (by decide +kernel)
theorem w_412 : (Cond.selects "NightDitch$Farm" ({ cls := "NightDitch$Farm", name := "minds", desc := "()I" } : MethodName) ({ cls := "NightDitch$Farm", name := "minds", desc := "()I" } : MethodName)) ∈ q_gw := q_gw_in 412 (by decide +kernel)
theorem w_413 : (Cond.code ({ cls := "NightDitch$Farm", name := "minds", desc := "()I" } : MethodName) prog_3_method_8_code (1 : Nat) (Option.some FieldType.int)) ∈ q_gw := q_gw_in 413 (by decide +kernel)
theorem w_414 : (Cond.methodLink "NightDitch$Farm" (51 : Nat) ({ cls := "java/lang/Math", name := "max", desc := "(II)I" } : MethodName)) ∈ q_gw := q_gw_in 414 (by decide +kernel)
theorem w_415 : (Cond.static ({ cls := "java/lang/Math", name := "max", desc := "(II)I" } : MethodName)) ∈ q_gw := q_gw_in 415 (by decide +kernel)
theorem w_417 : (Cond.methodLink "NightDitch" (100 : Nat) ({ cls := "NightDitch$Ditch", name := "placeOf", desc := "(I)I" } : MethodName)) ∈ q_gw := q_gw_in 417 (by decide +kernel)
theorem w_418 : (Cond.methodLink "NightDitch" (103 : Nat) ({ cls := "NightDitch$Farm", name := "tell", desc := "(I)I" } : MethodName)) ∈ q_gw := q_gw_in 418 (by decide +kernel)
theorem w_419 : (Cond.methodLink "NightDitchLaw" (27 : Nat) ({ cls := "NightDitch", name := "as", desc := "(II)I" } : MethodName)) ∈ q_gw := q_gw_in 419 (by decide +kernel)
theorem w_420 : (Cond.instanceMethod ({ cls := "NightDitch", name := "as", desc := "(II)I" } : MethodName)) ∈ q_gw := q_gw_in 420 (by decide +kernel)
theorem w_421 : (Cond.selects "NightDitch" ({ cls := "NightDitch", name := "as", desc := "(II)I" } : MethodName) ({ cls := "NightDitch", name := "as", desc := "(II)I" } : MethodName)) ∈ q_gw := q_gw_in 421 (by decide +kernel)
theorem w_422 : (Cond.code ({ cls := "NightDitch", name := "as", desc := "(II)I" } : MethodName) prog_1_method_5_code (3 : Nat) (Option.some FieldType.int)) ∈ q_gw := q_gw_in 422 (by decide +kernel)
theorem w_423 : (Cond.methodLink "NightDitch" (106 : Nat) ({ cls := "NightDitch$Farm", name := "isOf", desc := "(I)Z" } : MethodName)) ∈ q_gw := q_gw_in 423 (by decide +kernel)
theorem w_424 : (Cond.instanceMethod ({ cls := "NightDitch$Farm", name := "isOf", desc := "(I)Z" } : MethodName)) ∈ q_gw := q_gw_in 424 (by decide +kernel)
theorem w_425 : (Cond.selects "NightDitch$Farm" ({ cls := "NightDitch$Farm", name := "isOf", desc := "(I)Z" } : MethodName) ({ cls := "NightDitch$Farm", name := "isOf", desc := "(I)Z" } : MethodName)) ∈ q_gw := q_gw_in 425 (by decide +kernel)
theorem w_426 : (Cond.code ({ cls := "NightDitch$Farm", name := "isOf", desc := "(I)Z" } : MethodName) prog_3_method_6_code (4 : Nat) (Option.some FieldType.boolean)) ∈ q_gw := q_gw_in 426 (by decide +kernel)
theorem nw_427 : (Cond.fieldLinkNest "NightDitch$Farm" (41 : Nat) "NightDitch" "UNDER" "[I" "NightDitch") ∈ q_nw := q_nw_in 427 (by decide +kernel)
theorem w_429 : (Cond.constant "NightDitch" (109 : Nat) (-1000000003 : Int32)) ∈ q_gw := q_gw_in 429 (by decide +kernel)
theorem w_430 : (Cond.methodLink "NightDitchLaw" (31 : Nat) ({ cls := "NightDitch", name := "rule", desc := "(II)I" } : MethodName)) ∈ q_gw := q_gw_in 430 (by decide +kernel)
theorem w_431 : (Cond.instanceMethod ({ cls := "NightDitch", name := "rule", desc := "(II)I" } : MethodName)) ∈ q_gw := q_gw_in 431 (by decide +kernel)
theorem w_432 : (Cond.selects "NightDitch" ({ cls := "NightDitch", name := "rule", desc := "(II)I" } : MethodName) ({ cls := "NightDitch", name := "rule", desc := "(II)I" } : MethodName)) ∈ q_gw := q_gw_in 432 (by decide +kernel)
theorem w_433 : (Cond.code ({ cls := "NightDitch", name := "rule", desc := "(II)I" } : MethodName) prog_1_method_6_code (4 : Nat) (Option.some FieldType.int)) ∈ q_gw := q_gw_in 433 (by decide +kernel)
theorem w_434 : (Cond.fieldLink "NightDitch" (110 : Nat) "NightDitch" "RULE_MOST" "[I") ∈ q_gw := q_gw_in 434 (by decide +kernel)
theorem w_436 : (Cond.methodLink "NightDitchLaw" (35 : Nat) ({ cls := "NightDitch", name := "dry", desc := "(I)I" } : MethodName)) ∈ q_gw := q_gw_in 436 (by decide +kernel)
theorem w_437 : (Cond.instanceMethod ({ cls := "NightDitch", name := "dry", desc := "(I)I" } : MethodName)) ∈ q_gw := q_gw_in 437 (by decide +kernel)
theorem w_438 : (Cond.selects "NightDitch" ({ cls := "NightDitch", name := "dry", desc := "(I)I" } : MethodName) ({ cls := "NightDitch", name := "dry", desc := "(I)I" } : MethodName)) ∈ q_gw := q_gw_in 438 (by decide +kernel)
theorem w_439 : (Cond.code ({ cls := "NightDitch", name := "dry", desc := "(I)I" } : MethodName) prog_1_method_7_code (3 : Nat) (Option.some FieldType.int)) ∈ q_gw := q_gw_in 439 (by decide +kernel)
theorem w_440 : (Cond.methodLink "NightDitchLaw" (40 : Nat) ({ cls := "NightDitch", name := "year", desc := "()I" } : MethodName)) ∈ q_gw := q_gw_in 440 (by decide +kernel)
theorem w_441 : (Cond.instanceMethod ({ cls := "NightDitch", name := "year", desc := "()I" } : MethodName)) ∈ q_gw := q_gw_in 441 (by decide +kernel)
theorem w_442 : (Cond.selects "NightDitch" ({ cls := "NightDitch", name := "year", desc := "()I" } : MethodName) ({ cls := "NightDitch", name := "year", desc := "()I" } : MethodName)) ∈ q_gw := q_gw_in 442 (by decide +kernel)
theorem w_443 : (Cond.code ({ cls := "NightDitch", name := "year", desc := "()I" } : MethodName) prog_1_method_8_code (1 : Nat) (Option.some FieldType.int)) ∈ q_gw := q_gw_in 443 (by decide +kernel)
theorem w_444 : (Cond.constant "NightDitch" (122 : Nat) (-1000000005 : Int32)) ∈ q_gw := q_gw_in 444 (by decide +kernel)
theorem w_445 : (Cond.methodLink "NightDitch" (123 : Nat) ({ cls := "NightDitch$Ditch", name := "passYear", desc := "()V" } : MethodName)) ∈ q_gw := q_gw_in 445 (by decide +kernel)
theorem w_446 : (Cond.instanceMethod ({ cls := "NightDitch$Ditch", name := "passYear", desc := "()V" } : MethodName)) ∈ q_gw := q_gw_in 446 (by decide +kernel)
theorem w_447 : (Cond.selects "NightDitch$Ditch" ({ cls := "NightDitch$Ditch", name := "passYear", desc := "()V" } : MethodName) ({ cls := "NightDitch$Ditch", name := "passYear", desc := "()V" } : MethodName)) ∈ q_gw := q_gw_in 447 (by decide +kernel)
theorem w_448 : (Cond.code ({ cls := "NightDitch$Ditch", name := "passYear", desc := "()V" } : MethodName) prog_2_method_5_code (2 : Nat) (Option.none : Option FieldType)) ∈ q_gw := q_gw_in 448 (by decide +kernel)
theorem w_449 : (Cond.methodLink "NightDitch$Ditch" (85 : Nat) ({ cls := "java/lang/Math", name := "max", desc := "(II)I" } : MethodName)) ∈ q_gw := q_gw_in 449 (by decide +kernel)
theorem w_450 : (Cond.methodLink "NightDitchLaw" (45 : Nat) ({ cls := "NightDitch", name := "turn", desc := "(I)I" } : MethodName)) ∈ q_gw := q_gw_in 450 (by decide +kernel)
theorem w_451 : (Cond.instanceMethod ({ cls := "NightDitch", name := "turn", desc := "(I)I" } : MethodName)) ∈ q_gw := q_gw_in 451 (by decide +kernel)
theorem w_452 : (Cond.selects "NightDitch" ({ cls := "NightDitch", name := "turn", desc := "(I)I" } : MethodName) ({ cls := "NightDitch", name := "turn", desc := "(I)I" } : MethodName)) ∈ q_gw := q_gw_in 452 (by decide +kernel)
theorem w_453 : (Cond.code ({ cls := "NightDitch", name := "turn", desc := "(I)I" } : MethodName) prog_1_method_9_code (2 : Nat) (Option.some FieldType.int)) ∈ q_gw := q_gw_in 453 (by decide +kernel)
theorem w_454 : (Cond.methodLink "NightDitchLaw" (49 : Nat) ({ cls := "NightDitch", name := "swap", desc := "(II)I" } : MethodName)) ∈ q_gw := q_gw_in 454 (by decide +kernel)
theorem w_455 : (Cond.instanceMethod ({ cls := "NightDitch", name := "swap", desc := "(II)I" } : MethodName)) ∈ q_gw := q_gw_in 455 (by decide +kernel)
theorem w_456 : (Cond.selects "NightDitch" ({ cls := "NightDitch", name := "swap", desc := "(II)I" } : MethodName) ({ cls := "NightDitch", name := "swap", desc := "(II)I" } : MethodName)) ∈ q_gw := q_gw_in 456 (by decide +kernel)
theorem w_457 : (Cond.code ({ cls := "NightDitch", name := "swap", desc := "(II)I" } : MethodName) prog_1_method_10_code (4 : Nat) (Option.some FieldType.int)) ∈ q_gw := q_gw_in 457 (by decide +kernel)
theorem w_458 : (Cond.methodLink "NightDitchLaw" (53 : Nat) ({ cls := "NightDitch", name := "turns", desc := "(I)I" } : MethodName)) ∈ q_gw := q_gw_in 458 (by decide +kernel)
theorem w_459 : (Cond.instanceMethod ({ cls := "NightDitch", name := "turns", desc := "(I)I" } : MethodName)) ∈ q_gw := q_gw_in 459 (by decide +kernel)
theorem w_460 : (Cond.selects "NightDitch" ({ cls := "NightDitch", name := "turns", desc := "(I)I" } : MethodName) ({ cls := "NightDitch", name := "turns", desc := "(I)I" } : MethodName)) ∈ q_gw := q_gw_in 460 (by decide +kernel)
theorem w_461 : (Cond.code ({ cls := "NightDitch", name := "turns", desc := "(I)I" } : MethodName) prog_1_method_11_code (2 : Nat) (Option.some FieldType.int)) ∈ q_gw := q_gw_in 461 (by decide +kernel)
theorem w_462 : (Cond.methodLink "NightDitch" (129 : Nat) ({ cls := "NightDitch$Ditch", name := "isOrder", desc := "(I)Z" } : MethodName)) ∈ q_gw := q_gw_in 462 (by decide +kernel)
theorem w_463 : (Cond.instanceMethod ({ cls := "NightDitch$Ditch", name := "isOrder", desc := "(I)Z" } : MethodName)) ∈ q_gw := q_gw_in 463 (by decide +kernel)
theorem w_464 : (Cond.selects "NightDitch$Ditch" ({ cls := "NightDitch$Ditch", name := "isOrder", desc := "(I)Z" } : MethodName) ({ cls := "NightDitch$Ditch", name := "isOrder", desc := "(I)Z" } : MethodName)) ∈ q_gw := q_gw_in 464 (by decide +kernel)
theorem w_465 : (Cond.code ({ cls := "NightDitch$Ditch", name := "isOrder", desc := "(I)Z" } : MethodName) prog_2_method_8_code (4 : Nat) (Option.some FieldType.boolean)) ∈ q_gw := q_gw_in 465 (by decide +kernel)
theorem w_466 : (Cond.methodLink "NightDitch$Ditch" (94 : Nat) ({ cls := "NightDitch$Ditch", name := "digit", desc := "(II)I" } : MethodName)) ∈ q_gw := q_gw_in 466 (by decide +kernel)
theorem w_468 : (Cond.instanceMethod ({ cls := "NightDitch$Ditch", name := "digit", desc := "(II)I" } : MethodName)) ∈ q_gw := q_gw_in 468 (by decide +kernel)
theorem w_469 : (Cond.code ({ cls := "NightDitch$Ditch", name := "digit", desc := "(II)I" } : MethodName) prog_2_method_10_code (3 : Nat) (Option.some FieldType.int)) ∈ q_gw := q_gw_in 469 (by decide +kernel)
theorem w_470 : (Cond.methodLink "NightDitch" (132 : Nat) ({ cls := "NightDitch$Ditch", name := "putOrder", desc := "(I)V" } : MethodName)) ∈ q_gw := q_gw_in 470 (by decide +kernel)
theorem w_471 : (Cond.instanceMethod ({ cls := "NightDitch$Ditch", name := "putOrder", desc := "(I)V" } : MethodName)) ∈ q_gw := q_gw_in 471 (by decide +kernel)
theorem w_472 : (Cond.selects "NightDitch$Ditch" ({ cls := "NightDitch$Ditch", name := "putOrder", desc := "(I)V" } : MethodName) ({ cls := "NightDitch$Ditch", name := "putOrder", desc := "(I)V" } : MethodName)) ∈ q_gw := q_gw_in 472 (by decide +kernel)
theorem w_473 : (Cond.code ({ cls := "NightDitch$Ditch", name := "putOrder", desc := "(I)V" } : MethodName) prog_2_method_9_code (3 : Nat) (Option.none : Option FieldType)) ∈ q_gw := q_gw_in 473 (by decide +kernel)
theorem w_474 : (Cond.methodLink "NightDitchLaw" (57 : Nat) ({ cls := "NightDitch", name := "told", desc := "()I" } : MethodName)) ∈ q_gw := q_gw_in 474 (by decide +kernel)
theorem w_475 : (Cond.instanceMethod ({ cls := "NightDitch", name := "told", desc := "()I" } : MethodName)) ∈ q_gw := q_gw_in 475 (by decide +kernel)
theorem w_476 : (Cond.selects "NightDitch" ({ cls := "NightDitch", name := "told", desc := "()I" } : MethodName) ({ cls := "NightDitch", name := "told", desc := "()I" } : MethodName)) ∈ q_gw := q_gw_in 476 (by decide +kernel)
theorem w_477 : (Cond.code ({ cls := "NightDitch", name := "told", desc := "()I" } : MethodName) prog_1_method_12_code (1 : Nat) (Option.some FieldType.int)) ∈ q_gw := q_gw_in 477 (by decide +kernel)
theorem w_478 : (Cond.constant "NightDitch" (136 : Nat) (-1000000004 : Int32)) ∈ q_gw := q_gw_in 478 (by decide +kernel)
theorem w_479 : (Cond.methodLink "NightDitch" (137 : Nat) ({ cls := "NightDitch$Ditch", name := "orderNumber", desc := "()I" } : MethodName)) ∈ q_gw := q_gw_in 479 (by decide +kernel)
theorem w_480 : (Cond.instanceMethod ({ cls := "NightDitch$Ditch", name := "orderNumber", desc := "()I" } : MethodName)) ∈ q_gw := q_gw_in 480 (by decide +kernel)
theorem w_481 : (Cond.selects "NightDitch$Ditch" ({ cls := "NightDitch$Ditch", name := "orderNumber", desc := "()I" } : MethodName) ({ cls := "NightDitch$Ditch", name := "orderNumber", desc := "()I" } : MethodName)) ∈ q_gw := q_gw_in 481 (by decide +kernel)
theorem w_482 : (Cond.code ({ cls := "NightDitch$Ditch", name := "orderNumber", desc := "()I" } : MethodName) prog_2_method_11_code (3 : Nat) (Option.some FieldType.int)) ∈ q_gw := q_gw_in 482 (by decide +kernel)
theorem w_483 : (Cond.methodLink "NightDitchLaw" (61 : Nat) ({ cls := "NightDitch", name := "best", desc := "(I)J" } : MethodName)) ∈ q_gw := q_gw_in 483 (by decide +kernel)
theorem w_484 : (Cond.instanceMethod ({ cls := "NightDitch", name := "best", desc := "(I)J" } : MethodName)) ∈ q_gw := q_gw_in 484 (by decide +kernel)
theorem w_485 : (Cond.selects "NightDitch" ({ cls := "NightDitch", name := "best", desc := "(I)J" } : MethodName) ({ cls := "NightDitch", name := "best", desc := "(I)J" } : MethodName)) ∈ q_gw := q_gw_in 485 (by decide +kernel)
theorem w_486 : (Cond.code ({ cls := "NightDitch", name := "best", desc := "(I)J" } : MethodName) prog_1_method_13_code (2 : Nat) (Option.some FieldType.long)) ∈ q_gw := q_gw_in 486 (by decide +kernel)
theorem w_487 : (Cond.methodLink "NightDitch" (140 : Nat) ({ cls := "NightDitch$Orders", name := "search", desc := "(LNightDitch$Ditch;)V" } : MethodName)) ∈ q_gw := q_gw_in 487 (by decide +kernel)
theorem w_488 : (Cond.instanceMethod ({ cls := "NightDitch$Orders", name := "search", desc := "(LNightDitch$Ditch;)V" } : MethodName)) ∈ q_gw := q_gw_in 488 (by decide +kernel)
theorem w_489 : (Cond.selects "NightDitch$Orders" ({ cls := "NightDitch$Orders", name := "search", desc := "(LNightDitch$Ditch;)V" } : MethodName) ({ cls := "NightDitch$Orders", name := "search", desc := "(LNightDitch$Ditch;)V" } : MethodName)) ∈ q_gw := q_gw_in 489 (by decide +kernel)
theorem w_490 : (Cond.code ({ cls := "NightDitch$Orders", name := "search", desc := "(LNightDitch$Ditch;)V" } : MethodName) prog_5_method_2_code (4 : Nat) (Option.none : Option FieldType)) ∈ q_gw := q_gw_in 490 (by decide +kernel)
theorem w_491 : (Cond.methodLink "NightDitch$Orders" (43 : Nat) ({ cls := "NightDitch$Orders", name := "fillPays", desc := "(LNightDitch$Ditch;)V" } : MethodName)) ∈ q_gw := q_gw_in 491 (by decide +kernel)
theorem w_493 : (Cond.instanceMethod ({ cls := "NightDitch$Orders", name := "fillPays", desc := "(LNightDitch$Ditch;)V" } : MethodName)) ∈ q_gw := q_gw_in 493 (by decide +kernel)
theorem w_494 : (Cond.code ({ cls := "NightDitch$Orders", name := "fillPays", desc := "(LNightDitch$Ditch;)V" } : MethodName) prog_5_method_4_code (4 : Nat) (Option.none : Option FieldType)) ∈ q_gw := q_gw_in 494 (by decide +kernel)
theorem w_495 : (Cond.methodLink "NightDitch$Orders" (73 : Nat) ({ cls := "NightDitch$Ditch", name := "paysAt", desc := "(II)I" } : MethodName)) ∈ q_gw := q_gw_in 495 (by decide +kernel)
theorem w_496 : (Cond.methodLink "NightDitch$Orders" (47 : Nat) ({ cls := "NightDitch$Orders", name := "fillLost", desc := "(LNightDitch$Ditch;II)V" } : MethodName)) ∈ q_gw := q_gw_in 496 (by decide +kernel)
theorem w_498 : (Cond.instanceMethod ({ cls := "NightDitch$Orders", name := "fillLost", desc := "(LNightDitch$Ditch;II)V" } : MethodName)) ∈ q_gw := q_gw_in 498 (by decide +kernel)
theorem w_499 : (Cond.code ({ cls := "NightDitch$Orders", name := "fillLost", desc := "(LNightDitch$Ditch;II)V" } : MethodName) prog_5_method_5_code (8 : Nat) (Option.none : Option FieldType)) ∈ q_gw := q_gw_in 499 (by decide +kernel)
theorem w_500 : (Cond.methodLink "NightDitch$Orders" (77 : Nat) ({ cls := "NightDitch$Ditch", name := "weighMeet", desc := "(LNightDitch$Meet;IIII)V" } : MethodName)) ∈ q_gw := q_gw_in 500 (by decide +kernel)
theorem w_501 : (Cond.instanceMethod ({ cls := "NightDitch$Ditch", name := "weighMeet", desc := "(LNightDitch$Meet;IIII)V" } : MethodName)) ∈ q_gw := q_gw_in 501 (by decide +kernel)
theorem w_502 : (Cond.selects "NightDitch$Ditch" ({ cls := "NightDitch$Ditch", name := "weighMeet", desc := "(LNightDitch$Meet;IIII)V" } : MethodName) ({ cls := "NightDitch$Ditch", name := "weighMeet", desc := "(LNightDitch$Meet;IIII)V" } : MethodName)) ∈ q_gw := q_gw_in 502 (by decide +kernel)
theorem w_503 : (Cond.code ({ cls := "NightDitch$Ditch", name := "weighMeet", desc := "(LNightDitch$Meet;IIII)V" } : MethodName) prog_2_method_17_code (6 : Nat) (Option.none : Option FieldType)) ∈ q_gw := q_gw_in 503 (by decide +kernel)
theorem w_504 : (Cond.methodLink "NightDitch$Ditch" (148 : Nat) ({ cls := "NightDitch$Farm", name := "minds", desc := "()I" } : MethodName)) ∈ q_gw := q_gw_in 504 (by decide +kernel)
theorem w_505 : (Cond.methodLink "NightDitch$Ditch" (156 : Nat) ({ cls := "java/lang/Math", name := "min", desc := "(II)I" } : MethodName)) ∈ q_gw := q_gw_in 505 (by decide +kernel)
theorem w_506 : (Cond.methodLink "NightDitch$Ditch" (161 : Nat) ({ cls := "NightDitch$Meet", name := "settle", desc := "(I)V" } : MethodName)) ∈ q_gw := q_gw_in 506 (by decide +kernel)
theorem w_507 : (Cond.instanceMethod ({ cls := "NightDitch$Meet", name := "settle", desc := "(I)V" } : MethodName)) ∈ q_gw := q_gw_in 507 (by decide +kernel)
theorem w_508 : (Cond.selects "NightDitch$Meet" ({ cls := "NightDitch$Meet", name := "settle", desc := "(I)V" } : MethodName) ({ cls := "NightDitch$Meet", name := "settle", desc := "(I)V" } : MethodName)) ∈ q_gw := q_gw_in 508 (by decide +kernel)
theorem w_509 : (Cond.code ({ cls := "NightDitch$Meet", name := "settle", desc := "(I)V" } : MethodName) prog_4_method_2_code (6 : Nat) (Option.none : Option FieldType)) ∈ q_gw := q_gw_in 509 (by decide +kernel)
theorem w_510 : (Cond.methodLink "NightDitch$Meet" (31 : Nat) ({ cls := "NightDitch$Meet", name := "putChances", desc := "(IIII)V" } : MethodName)) ∈ q_gw := q_gw_in 510 (by decide +kernel)
theorem w_512 : (Cond.instanceMethod ({ cls := "NightDitch$Meet", name := "putChances", desc := "(IIII)V" } : MethodName)) ∈ q_gw := q_gw_in 512 (by decide +kernel)
theorem w_513 : (Cond.code ({ cls := "NightDitch$Meet", name := "putChances", desc := "(IIII)V" } : MethodName) prog_4_method_3_code (5 : Nat) (Option.none : Option FieldType)) ∈ q_gw := q_gw_in 513 (by decide +kernel)
theorem nw_514 : (Cond.methodLinkNest "NightDitch$Meet" (41 : Nat) ({ cls := "NightDitch", name := "millionths", desc := "(JJ)I" } : MethodName) "NightDitch") ∈ q_nw := q_nw_in 514 (by decide +kernel)
theorem w_515 : (Cond.static ({ cls := "NightDitch", name := "millionths", desc := "(JJ)I" } : MethodName)) ∈ q_gw := q_gw_in 515 (by decide +kernel)
theorem w_516 : (Cond.code ({ cls := "NightDitch", name := "millionths", desc := "(JJ)I" } : MethodName) prog_1_method_44_code (4 : Nat) (Option.some FieldType.int)) ∈ q_gw := q_gw_in 516 (by decide +kernel)
theorem w_517 : (Cond.constantLong "NightDitch" (300 : Nat) (1000000 : Int64)) ∈ q_gw := q_gw_in 517 (by decide +kernel)
theorem w_518 : (Cond.methodLink "NightDitch$Orders" (81 : Nat) ({ cls := "NightDitch$Orders", name := "index", desc := "(III)I" } : MethodName)) ∈ q_gw := q_gw_in 518 (by decide +kernel)
theorem w_519 : (Cond.static ({ cls := "NightDitch$Orders", name := "index", desc := "(III)I" } : MethodName)) ∈ q_gw := q_gw_in 519 (by decide +kernel)
theorem w_520 : (Cond.code ({ cls := "NightDitch$Orders", name := "index", desc := "(III)I" } : MethodName) prog_5_method_6_code (3 : Nat) (Option.some FieldType.int)) ∈ q_gw := q_gw_in 520 (by decide +kernel)
theorem w_521 : (Cond.methodLink "NightDitch$Orders" (88 : Nat) ({ cls := "NightDitch$Meet", name := "loses", desc := "(I)J" } : MethodName)) ∈ q_gw := q_gw_in 521 (by decide +kernel)
theorem w_522 : (Cond.instanceMethod ({ cls := "NightDitch$Meet", name := "loses", desc := "(I)J" } : MethodName)) ∈ q_gw := q_gw_in 522 (by decide +kernel)
theorem w_523 : (Cond.selects "NightDitch$Meet" ({ cls := "NightDitch$Meet", name := "loses", desc := "(I)J" } : MethodName) ({ cls := "NightDitch$Meet", name := "loses", desc := "(I)J" } : MethodName)) ∈ q_gw := q_gw_in 523 (by decide +kernel)
theorem w_524 : (Cond.code ({ cls := "NightDitch$Meet", name := "loses", desc := "(I)J" } : MethodName) prog_4_method_5_code (2 : Nat) (Option.some FieldType.long)) ∈ q_gw := q_gw_in 524 (by decide +kernel)
theorem w_525 : (Cond.methodLink "NightDitch$Meet" (55 : Nat) ({ cls := "NightDitch$Meet", name := "open", desc := "()I" } : MethodName)) ∈ q_gw := q_gw_in 525 (by decide +kernel)
theorem w_526 : (Cond.instanceMethod ({ cls := "NightDitch$Meet", name := "open", desc := "()I" } : MethodName)) ∈ q_gw := q_gw_in 526 (by decide +kernel)
theorem w_527 : (Cond.selects "NightDitch$Meet" ({ cls := "NightDitch$Meet", name := "open", desc := "()I" } : MethodName) ({ cls := "NightDitch$Meet", name := "open", desc := "()I" } : MethodName)) ∈ q_gw := q_gw_in 527 (by decide +kernel)
theorem w_528 : (Cond.code ({ cls := "NightDitch$Meet", name := "open", desc := "()I" } : MethodName) prog_4_method_4_code (1 : Nat) (Option.some FieldType.int)) ∈ q_gw := q_gw_in 528 (by decide +kernel)
theorem w_529 : (Cond.constantLong "NightDitch$Meet" (53 : Nat) (100000000 : Int64)) ∈ q_gw := q_gw_in 529 (by decide +kernel)
theorem w_530 : (Cond.constantLong "NightDitch$Orders" (53 : Nat) (9223372036854775807 : Int64)) ∈ q_gw := q_gw_in 530 (by decide +kernel)
theorem w_531 : (Cond.methodLink "NightDitch$Orders" (59 : Nat) ({ cls := "NightDitch$Text", name := "asksPlace", desc := "()Z" } : MethodName)) ∈ q_gw := q_gw_in 531 (by decide +kernel)
theorem w_532 : (Cond.instanceMethod ({ cls := "NightDitch$Text", name := "asksPlace", desc := "()Z" } : MethodName)) ∈ q_gw := q_gw_in 532 (by decide +kernel)
theorem w_533 : (Cond.selects "NightDitch$Text" ({ cls := "NightDitch$Text", name := "asksPlace", desc := "()Z" } : MethodName) ({ cls := "NightDitch$Text", name := "asksPlace", desc := "()Z" } : MethodName)) ∈ q_gw := q_gw_in 533 (by decide +kernel)
theorem w_534 : (Cond.code ({ cls := "NightDitch$Text", name := "asksPlace", desc := "()Z" } : MethodName) prog_8_method_5_code (2 : Nat) (Option.some FieldType.boolean)) ∈ q_gw := q_gw_in 534 (by decide +kernel)
theorem w_535 : (Cond.methodLink "NightDitch$Orders" (65 : Nat) ({ cls := "NightDitch$Orders", name := "layFirst", desc := "(I)V" } : MethodName)) ∈ q_gw := q_gw_in 535 (by decide +kernel)
theorem w_537 : (Cond.instanceMethod ({ cls := "NightDitch$Orders", name := "layFirst", desc := "(I)V" } : MethodName)) ∈ q_gw := q_gw_in 537 (by decide +kernel)
theorem w_538 : (Cond.code ({ cls := "NightDitch$Orders", name := "layFirst", desc := "(I)V" } : MethodName) prog_5_method_3_code (3 : Nat) (Option.none : Option FieldType)) ∈ q_gw := q_gw_in 538 (by decide +kernel)
theorem w_539 : (Cond.methodLink "NightDitch$Orders" (69 : Nat) ({ cls := "NightDitch$Orders", name := "layFrom", desc := "(IIJI)V" } : MethodName)) ∈ q_gw := q_gw_in 539 (by decide +kernel)
theorem w_541 : (Cond.instanceMethod ({ cls := "NightDitch$Orders", name := "layFrom", desc := "(IIJI)V" } : MethodName)) ∈ q_gw := q_gw_in 541 (by decide +kernel)
theorem w_542 : (Cond.code ({ cls := "NightDitch$Orders", name := "layFrom", desc := "(IIJI)V" } : MethodName) prog_5_method_7_code (9 : Nat) (Option.none : Option FieldType)) ∈ q_gw := q_gw_in 542 (by decide +kernel)
theorem w_543 : (Cond.methodLink "NightDitch$Orders" (92 : Nat) ({ cls := "NightDitch$Orders", name := "closeRing", desc := "(JI)V" } : MethodName)) ∈ q_gw := q_gw_in 543 (by decide +kernel)
theorem w_545 : (Cond.instanceMethod ({ cls := "NightDitch$Orders", name := "closeRing", desc := "(JI)V" } : MethodName)) ∈ q_gw := q_gw_in 545 (by decide +kernel)
theorem w_546 : (Cond.code ({ cls := "NightDitch$Orders", name := "closeRing", desc := "(JI)V" } : MethodName) prog_5_method_8_code (6 : Nat) (Option.none : Option FieldType)) ∈ q_gw := q_gw_in 546 (by decide +kernel)
theorem w_547 : (Cond.methodLink "NightDitchLaw" (66 : Nat) ({ cls := "NightDitch", name := "share", desc := "(I)I" } : MethodName)) ∈ q_gw := q_gw_in 547 (by decide +kernel)
theorem w_548 : (Cond.instanceMethod ({ cls := "NightDitch", name := "share", desc := "(I)I" } : MethodName)) ∈ q_gw := q_gw_in 548 (by decide +kernel)
theorem w_549 : (Cond.selects "NightDitch" ({ cls := "NightDitch", name := "share", desc := "(I)I" } : MethodName) ({ cls := "NightDitch", name := "share", desc := "(I)I" } : MethodName)) ∈ q_gw := q_gw_in 549 (by decide +kernel)
theorem w_550 : (Cond.code ({ cls := "NightDitch", name := "share", desc := "(I)I" } : MethodName) prog_1_method_14_code (3 : Nat) (Option.some FieldType.int)) ∈ q_gw := q_gw_in 550 (by decide +kernel)
theorem w_551 : (Cond.methodLink "NightDitch" (151 : Nat) ({ cls := "NightDitch$Ditch", name := "allHours", desc := "()I" } : MethodName)) ∈ q_gw := q_gw_in 551 (by decide +kernel)
theorem w_552 : (Cond.instanceMethod ({ cls := "NightDitch$Ditch", name := "allHours", desc := "()I" } : MethodName)) ∈ q_gw := q_gw_in 552 (by decide +kernel)
theorem w_553 : (Cond.selects "NightDitch$Ditch" ({ cls := "NightDitch$Ditch", name := "allHours", desc := "()I" } : MethodName) ({ cls := "NightDitch$Ditch", name := "allHours", desc := "()I" } : MethodName)) ∈ q_gw := q_gw_in 553 (by decide +kernel)
theorem w_554 : (Cond.code ({ cls := "NightDitch$Ditch", name := "allHours", desc := "()I" } : MethodName) prog_2_method_6_code (3 : Nat) (Option.some FieldType.int)) ∈ q_gw := q_gw_in 554 (by decide +kernel)
theorem w_555 : (Cond.methodLink "NightDitchLaw" (70 : Nat) ({ cls := "NightDitch", name := "rest", desc := "(II)I" } : MethodName)) ∈ q_gw := q_gw_in 555 (by decide +kernel)
theorem w_556 : (Cond.instanceMethod ({ cls := "NightDitch", name := "rest", desc := "(II)I" } : MethodName)) ∈ q_gw := q_gw_in 556 (by decide +kernel)
theorem w_557 : (Cond.selects "NightDitch" ({ cls := "NightDitch", name := "rest", desc := "(II)I" } : MethodName) ({ cls := "NightDitch", name := "rest", desc := "(II)I" } : MethodName)) ∈ q_gw := q_gw_in 557 (by decide +kernel)
theorem w_558 : (Cond.code ({ cls := "NightDitch", name := "rest", desc := "(II)I" } : MethodName) prog_1_method_15_code (3 : Nat) (Option.some FieldType.int)) ∈ q_gw := q_gw_in 558 (by decide +kernel)
theorem w_559 : (Cond.methodLink "NightDitch" (157 : Nat) ({ cls := "NightDitch$Ditch", name := "meetCount", desc := "()I" } : MethodName)) ∈ q_gw := q_gw_in 559 (by decide +kernel)
theorem w_560 : (Cond.instanceMethod ({ cls := "NightDitch$Ditch", name := "meetCount", desc := "()I" } : MethodName)) ∈ q_gw := q_gw_in 560 (by decide +kernel)
theorem w_561 : (Cond.selects "NightDitch$Ditch" ({ cls := "NightDitch$Ditch", name := "meetCount", desc := "()I" } : MethodName) ({ cls := "NightDitch$Ditch", name := "meetCount", desc := "()I" } : MethodName)) ∈ q_gw := q_gw_in 561 (by decide +kernel)
theorem w_562 : (Cond.code ({ cls := "NightDitch$Ditch", name := "meetCount", desc := "()I" } : MethodName) prog_2_method_15_code (1 : Nat) (Option.some FieldType.int)) ∈ q_gw := q_gw_in 562 (by decide +kernel)
theorem w_563 : (Cond.methodLink "NightDitch" (160 : Nat) ({ cls := "NightDitch$Ditch", name := "weigh", desc := "()V" } : MethodName)) ∈ q_gw := q_gw_in 563 (by decide +kernel)
theorem w_564 : (Cond.instanceMethod ({ cls := "NightDitch$Ditch", name := "weigh", desc := "()V" } : MethodName)) ∈ q_gw := q_gw_in 564 (by decide +kernel)
theorem w_565 : (Cond.selects "NightDitch$Ditch" ({ cls := "NightDitch$Ditch", name := "weigh", desc := "()V" } : MethodName) ({ cls := "NightDitch$Ditch", name := "weigh", desc := "()V" } : MethodName)) ∈ q_gw := q_gw_in 565 (by decide +kernel)
theorem w_566 : (Cond.code ({ cls := "NightDitch$Ditch", name := "weigh", desc := "()V" } : MethodName) prog_2_method_16_code (3 : Nat) (Option.none : Option FieldType)) ∈ q_gw := q_gw_in 566 (by decide +kernel)
theorem w_567 : (Cond.methodLink "NightDitch$Ditch" (127 : Nat) ({ cls := "NightDitch$Ditch", name := "meetCount", desc := "()I" } : MethodName)) ∈ q_gw := q_gw_in 567 (by decide +kernel)
theorem w_568 : (Cond.methodLink "NightDitch$Ditch" (131 : Nat) ({ cls := "NightDitch$Ditch", name := "weighMeet", desc := "(LNightDitch$Meet;IIII)V" } : MethodName)) ∈ q_gw := q_gw_in 568 (by decide +kernel)
theorem w_569 : (Cond.methodLink "NightDitch" (167 : Nat) ({ cls := "NightDitch$Meet", name := "tell", desc := "(I)I" } : MethodName)) ∈ q_gw := q_gw_in 569 (by decide +kernel)
theorem w_570 : (Cond.instanceMethod ({ cls := "NightDitch$Meet", name := "tell", desc := "(I)I" } : MethodName)) ∈ q_gw := q_gw_in 570 (by decide +kernel)
theorem w_571 : (Cond.selects "NightDitch$Meet" ({ cls := "NightDitch$Meet", name := "tell", desc := "(I)I" } : MethodName) ({ cls := "NightDitch$Meet", name := "tell", desc := "(I)I" } : MethodName)) ∈ q_gw := q_gw_in 571 (by decide +kernel)
theorem w_572 : (Cond.code ({ cls := "NightDitch$Meet", name := "tell", desc := "(I)I" } : MethodName) prog_4_method_6_code (2 : Nat) (Option.some FieldType.int)) ∈ q_gw := q_gw_in 572 (by decide +kernel)
theorem w_573 : (Cond.methodLink "NightDitch$Meet" (59 : Nat) ({ cls := "NightDitch$Meet", name := "common", desc := "(II)I" } : MethodName)) ∈ q_gw := q_gw_in 573 (by decide +kernel)
theorem w_574 : (Cond.static ({ cls := "NightDitch$Meet", name := "common", desc := "(II)I" } : MethodName)) ∈ q_gw := q_gw_in 574 (by decide +kernel)
theorem w_575 : (Cond.code ({ cls := "NightDitch$Meet", name := "common", desc := "(II)I" } : MethodName) prog_4_method_7_code (6 : Nat) (Option.some FieldType.int)) ∈ q_gw := q_gw_in 575 (by decide +kernel)
theorem w_576 : (Cond.methodLink "NightDitch$Meet" (63 : Nat) ({ cls := "java/lang/Math", name := "max", desc := "(II)I" } : MethodName)) ∈ q_gw := q_gw_in 576 (by decide +kernel)
theorem w_577 : (Cond.methodLink "NightDitchLaw" (74 : Nat) ({ cls := "NightDitch", name := "lost", desc := "(I)J" } : MethodName)) ∈ q_gw := q_gw_in 577 (by decide +kernel)
theorem w_578 : (Cond.instanceMethod ({ cls := "NightDitch", name := "lost", desc := "(I)J" } : MethodName)) ∈ q_gw := q_gw_in 578 (by decide +kernel)
theorem w_579 : (Cond.selects "NightDitch" ({ cls := "NightDitch", name := "lost", desc := "(I)J" } : MethodName) ({ cls := "NightDitch", name := "lost", desc := "(I)J" } : MethodName)) ∈ q_gw := q_gw_in 579 (by decide +kernel)
theorem w_580 : (Cond.code ({ cls := "NightDitch", name := "lost", desc := "(I)J" } : MethodName) prog_1_method_16_code (2 : Nat) (Option.some FieldType.long)) ∈ q_gw := q_gw_in 580 (by decide +kernel)
theorem w_581 : (Cond.methodLink "NightDitch" (170 : Nat) ({ cls := "NightDitch$Ditch", name := "loses", desc := "()J" } : MethodName)) ∈ q_gw := q_gw_in 581 (by decide +kernel)
theorem w_582 : (Cond.instanceMethod ({ cls := "NightDitch$Ditch", name := "loses", desc := "()J" } : MethodName)) ∈ q_gw := q_gw_in 582 (by decide +kernel)
theorem w_583 : (Cond.selects "NightDitch$Ditch" ({ cls := "NightDitch$Ditch", name := "loses", desc := "()J" } : MethodName) ({ cls := "NightDitch$Ditch", name := "loses", desc := "()J" } : MethodName)) ∈ q_gw := q_gw_in 583 (by decide +kernel)
theorem w_584 : (Cond.code ({ cls := "NightDitch$Ditch", name := "loses", desc := "()J" } : MethodName) prog_2_method_18_code (4 : Nat) (Option.some FieldType.long)) ∈ q_gw := q_gw_in 584 (by decide +kernel)
theorem w_585 : (Cond.methodLink "NightDitch$Ditch" (165 : Nat) ({ cls := "NightDitch$Meet", name := "loses", desc := "(I)J" } : MethodName)) ∈ q_gw := q_gw_in 585 (by decide +kernel)
theorem w_586 : (Cond.methodLink "NightDitch" (174 : Nat) ({ cls := "NightDitch$Meet", name := "loses", desc := "(I)J" } : MethodName)) ∈ q_gw := q_gw_in 586 (by decide +kernel)
theorem w_587 : (Cond.methodLink "NightDitchLaw" (78 : Nat) ({ cls := "NightDitch", name := "least", desc := "(I)I" } : MethodName)) ∈ q_gw := q_gw_in 587 (by decide +kernel)
theorem w_588 : (Cond.instanceMethod ({ cls := "NightDitch", name := "least", desc := "(I)I" } : MethodName)) ∈ q_gw := q_gw_in 588 (by decide +kernel)
theorem w_589 : (Cond.selects "NightDitch" ({ cls := "NightDitch", name := "least", desc := "(I)I" } : MethodName) ({ cls := "NightDitch", name := "least", desc := "(I)I" } : MethodName)) ∈ q_gw := q_gw_in 589 (by decide +kernel)
theorem w_590 : (Cond.code ({ cls := "NightDitch", name := "least", desc := "(I)I" } : MethodName) prog_1_method_17_code (6 : Nat) (Option.some FieldType.int)) ∈ q_gw := q_gw_in 590 (by decide +kernel)
theorem w_591 : (Cond.constant "NightDitch" (177 : Nat) (1000000 : Int32)) ∈ q_gw := q_gw_in 591 (by decide +kernel)
theorem w_592 : (Cond.methodLink "NightDitch" (178 : Nat) ({ cls := "NightDitch$Ditch", name := "become", desc := "(LNightDitch$Ditch;)V" } : MethodName)) ∈ q_gw := q_gw_in 592 (by decide +kernel)
theorem w_593 : (Cond.instanceMethod ({ cls := "NightDitch$Ditch", name := "become", desc := "(LNightDitch$Ditch;)V" } : MethodName)) ∈ q_gw := q_gw_in 593 (by decide +kernel)
theorem w_594 : (Cond.selects "NightDitch$Ditch" ({ cls := "NightDitch$Ditch", name := "become", desc := "(LNightDitch$Ditch;)V" } : MethodName) ({ cls := "NightDitch$Ditch", name := "become", desc := "(LNightDitch$Ditch;)V" } : MethodName)) ∈ q_gw := q_gw_in 594 (by decide +kernel)
theorem w_595 : (Cond.code ({ cls := "NightDitch$Ditch", name := "become", desc := "(LNightDitch$Ditch;)V" } : MethodName) prog_2_method_2_code (3 : Nat) (Option.none : Option FieldType)) ∈ q_gw := q_gw_in 595 (by decide +kernel)
theorem w_596 : (Cond.methodLink "NightDitch$Ditch" (61 : Nat) ({ cls := "NightDitch$Farm", name := "become", desc := "(LNightDitch$Farm;)V" } : MethodName)) ∈ q_gw := q_gw_in 596 (by decide +kernel)
theorem w_597 : (Cond.instanceMethod ({ cls := "NightDitch$Farm", name := "become", desc := "(LNightDitch$Farm;)V" } : MethodName)) ∈ q_gw := q_gw_in 597 (by decide +kernel)
theorem w_598 : (Cond.selects "NightDitch$Farm" ({ cls := "NightDitch$Farm", name := "become", desc := "(LNightDitch$Farm;)V" } : MethodName) ({ cls := "NightDitch$Farm", name := "become", desc := "(LNightDitch$Farm;)V" } : MethodName)) ∈ q_gw := q_gw_in 598 (by decide +kernel)
theorem w_599 : (Cond.code ({ cls := "NightDitch$Farm", name := "become", desc := "(LNightDitch$Farm;)V" } : MethodName) prog_3_method_3_code (2 : Nat) (Option.none : Option FieldType)) ∈ q_gw := q_gw_in 599 (by decide +kernel)
theorem w_600 : (Cond.methodLink "NightDitch$Farm" (33 : Nat) ({ cls := "NightDitch$Farm", name := "begin", desc := "(III)V" } : MethodName)) ∈ q_gw := q_gw_in 600 (by decide +kernel)
theorem w_601 : (Cond.methodLink "NightDitch$Ditch" (65 : Nat) ({ cls := "java/lang/System", name := "arraycopy", desc := "(Ljava/lang/Object;ILjava/lang/Object;II)V" } : MethodName)) ∈ q_gw := q_gw_in 601 (by decide +kernel)
theorem w_602 : (Cond.static ({ cls := "java/lang/System", name := "arraycopy", desc := "(Ljava/lang/Object;ILjava/lang/Object;II)V" } : MethodName)) ∈ q_gw := q_gw_in 602 (by decide +kernel)
theorem w_603 : (Cond.native ({ cls := "java/lang/System", name := "arraycopy", desc := "(Ljava/lang/Object;ILjava/lang/Object;II)V" } : MethodName)) ∈ q_gw := q_gw_in 603 (by decide +kernel)
theorem w_604 : (Cond.methodLink "NightDitch$Ditch" (71 : Nat) ({ cls := "NightDitch$Text", name := "become", desc := "(LNightDitch$Text;)V" } : MethodName)) ∈ q_gw := q_gw_in 604 (by decide +kernel)
theorem w_605 : (Cond.instanceMethod ({ cls := "NightDitch$Text", name := "become", desc := "(LNightDitch$Text;)V" } : MethodName)) ∈ q_gw := q_gw_in 605 (by decide +kernel)
theorem w_606 : (Cond.selects "NightDitch$Text" ({ cls := "NightDitch$Text", name := "become", desc := "(LNightDitch$Text;)V" } : MethodName) ({ cls := "NightDitch$Text", name := "become", desc := "(LNightDitch$Text;)V" } : MethodName)) ∈ q_gw := q_gw_in 606 (by decide +kernel)
theorem w_607 : (Cond.code ({ cls := "NightDitch$Text", name := "become", desc := "(LNightDitch$Text;)V" } : MethodName) prog_8_method_3_code (2 : Nat) (Option.none : Option FieldType)) ∈ q_gw := q_gw_in 607 (by decide +kernel)
theorem w_608 : (Cond.methodLink "NightDitch$Text" (25 : Nat) ({ cls := "java/lang/System", name := "arraycopy", desc := "(Ljava/lang/Object;ILjava/lang/Object;II)V" } : MethodName)) ∈ q_gw := q_gw_in 608 (by decide +kernel)
theorem w_609 : (Cond.constant "NightDitch" (181 : Nat) (99999 : Int32)) ∈ q_gw := q_gw_in 609 (by decide +kernel)
theorem w_610 : (Cond.methodLink "NightDitch" (182 : Nat) ({ cls := "NightDitch$Ditch", name := "takesAtMost", desc := "(I)I" } : MethodName)) ∈ q_gw := q_gw_in 610 (by decide +kernel)
theorem w_611 : (Cond.instanceMethod ({ cls := "NightDitch$Ditch", name := "takesAtMost", desc := "(I)I" } : MethodName)) ∈ q_gw := q_gw_in 611 (by decide +kernel)
theorem w_612 : (Cond.selects "NightDitch$Ditch" ({ cls := "NightDitch$Ditch", name := "takesAtMost", desc := "(I)I" } : MethodName) ({ cls := "NightDitch$Ditch", name := "takesAtMost", desc := "(I)I" } : MethodName)) ∈ q_gw := q_gw_in 612 (by decide +kernel)
theorem w_613 : (Cond.code ({ cls := "NightDitch$Ditch", name := "takesAtMost", desc := "(I)I" } : MethodName) prog_2_method_20_code (2 : Nat) (Option.some FieldType.int)) ∈ q_gw := q_gw_in 613 (by decide +kernel)
theorem w_614 : (Cond.methodLink "NightDitch$Ditch" (172 : Nat) ({ cls := "NightDitch$Ditch", name := "weigh", desc := "()V" } : MethodName)) ∈ q_gw := q_gw_in 614 (by decide +kernel)
theorem w_615 : (Cond.methodLink "NightDitch$Ditch" (175 : Nat) ({ cls := "NightDitch$Ditch", name := "greatestTakes", desc := "()I" } : MethodName)) ∈ q_gw := q_gw_in 615 (by decide +kernel)
theorem w_616 : (Cond.instanceMethod ({ cls := "NightDitch$Ditch", name := "greatestTakes", desc := "()I" } : MethodName)) ∈ q_gw := q_gw_in 616 (by decide +kernel)
theorem w_617 : (Cond.selects "NightDitch$Ditch" ({ cls := "NightDitch$Ditch", name := "greatestTakes", desc := "()I" } : MethodName) ({ cls := "NightDitch$Ditch", name := "greatestTakes", desc := "()I" } : MethodName)) ∈ q_gw := q_gw_in 617 (by decide +kernel)
theorem w_618 : (Cond.code ({ cls := "NightDitch$Ditch", name := "greatestTakes", desc := "()I" } : MethodName) prog_2_method_19_code (3 : Nat) (Option.some FieldType.int)) ∈ q_gw := q_gw_in 618 (by decide +kernel)
theorem w_619 : (Cond.methodLink "NightDitchLaw" (82 : Nat) ({ cls := "NightDitch", name := "hire", desc := "(I)J" } : MethodName)) ∈ q_gw := q_gw_in 619 (by decide +kernel)
theorem w_620 : (Cond.instanceMethod ({ cls := "NightDitch", name := "hire", desc := "(I)J" } : MethodName)) ∈ q_gw := q_gw_in 620 (by decide +kernel)
theorem w_621 : (Cond.selects "NightDitch" ({ cls := "NightDitch", name := "hire", desc := "(I)J" } : MethodName) ({ cls := "NightDitch", name := "hire", desc := "(I)J" } : MethodName)) ∈ q_gw := q_gw_in 621 (by decide +kernel)
theorem w_622 : (Cond.code ({ cls := "NightDitch", name := "hire", desc := "(I)J" } : MethodName) prog_1_method_18_code (2 : Nat) (Option.some FieldType.long)) ∈ q_gw := q_gw_in 622 (by decide +kernel)
theorem w_623 : (Cond.methodLink "NightDitchLaw" (86 : Nat) ({ cls := "NightDitch", name := "breaks", desc := "(I)I" } : MethodName)) ∈ q_gw := q_gw_in 623 (by decide +kernel)
theorem w_624 : (Cond.instanceMethod ({ cls := "NightDitch", name := "breaks", desc := "(I)I" } : MethodName)) ∈ q_gw := q_gw_in 624 (by decide +kernel)
theorem w_625 : (Cond.selects "NightDitch" ({ cls := "NightDitch", name := "breaks", desc := "(I)I" } : MethodName) ({ cls := "NightDitch", name := "breaks", desc := "(I)I" } : MethodName)) ∈ q_gw := q_gw_in 625 (by decide +kernel)
theorem w_626 : (Cond.code ({ cls := "NightDitch", name := "breaks", desc := "(I)I" } : MethodName) prog_1_method_19_code (3 : Nat) (Option.some FieldType.int)) ∈ q_gw := q_gw_in 626 (by decide +kernel)
theorem w_627 : (Cond.methodLink "NightDitch" (185 : Nat) ({ cls := "NightDitch$Ditch", name := "greatestTakes", desc := "()I" } : MethodName)) ∈ q_gw := q_gw_in 627 (by decide +kernel)
theorem w_628 : (Cond.methodLink "NightDitchLaw" (90 : Nat) ({ cls := "NightDitch", name := "blame", desc := "(I)I" } : MethodName)) ∈ q_gw := q_gw_in 628 (by decide +kernel)
theorem w_629 : (Cond.instanceMethod ({ cls := "NightDitch", name := "blame", desc := "(I)I" } : MethodName)) ∈ q_gw := q_gw_in 629 (by decide +kernel)
theorem w_630 : (Cond.selects "NightDitch" ({ cls := "NightDitch", name := "blame", desc := "(I)I" } : MethodName) ({ cls := "NightDitch", name := "blame", desc := "(I)I" } : MethodName)) ∈ q_gw := q_gw_in 630 (by decide +kernel)
theorem w_631 : (Cond.code ({ cls := "NightDitch", name := "blame", desc := "(I)I" } : MethodName) prog_1_method_20_code (4 : Nat) (Option.some FieldType.int)) ∈ q_gw := q_gw_in 631 (by decide +kernel)
theorem w_632 : (Cond.methodLink "NightDitch" (188 : Nat) ({ cls := "NightDitch$Meet", name := "open", desc := "()I" } : MethodName)) ∈ q_gw := q_gw_in 632 (by decide +kernel)
theorem w_633 : (Cond.constantLong "NightDitch" (191 : Nat) (10000 : Int64)) ∈ q_gw := q_gw_in 633 (by decide +kernel)
theorem w_634 : (Cond.methodLink "NightDitch" (193 : Nat) ({ cls := "NightDitch", name := "millionths", desc := "(JJ)I" } : MethodName)) ∈ q_gw := q_gw_in 634 (by decide +kernel)
theorem w_635 : (Cond.methodLink "NightDitchLaw" (94 : Nat) ({ cls := "NightDitch", name := "always", desc := "()I" } : MethodName)) ∈ q_gw := q_gw_in 635 (by decide +kernel)
theorem w_636 : (Cond.instanceMethod ({ cls := "NightDitch", name := "always", desc := "()I" } : MethodName)) ∈ q_gw := q_gw_in 636 (by decide +kernel)
theorem w_637 : (Cond.selects "NightDitch" ({ cls := "NightDitch", name := "always", desc := "()I" } : MethodName) ({ cls := "NightDitch", name := "always", desc := "()I" } : MethodName)) ∈ q_gw := q_gw_in 637 (by decide +kernel)
theorem w_638 : (Cond.code ({ cls := "NightDitch", name := "always", desc := "()I" } : MethodName) prog_1_method_21_code (3 : Nat) (Option.some FieldType.int)) ∈ q_gw := q_gw_in 638 (by decide +kernel)
theorem w_639 : (Cond.methodLink "NightDitchLaw" (98 : Nat) ({ cls := "NightDitch", name := "feed", desc := "(II)I" } : MethodName)) ∈ q_gw := q_gw_in 639 (by decide +kernel)
theorem w_640 : (Cond.instanceMethod ({ cls := "NightDitch", name := "feed", desc := "(II)I" } : MethodName)) ∈ q_gw := q_gw_in 640 (by decide +kernel)
theorem w_641 : (Cond.selects "NightDitch" ({ cls := "NightDitch", name := "feed", desc := "(II)I" } : MethodName) ({ cls := "NightDitch", name := "feed", desc := "(II)I" } : MethodName)) ∈ q_gw := q_gw_in 641 (by decide +kernel)
theorem w_642 : (Cond.code ({ cls := "NightDitch", name := "feed", desc := "(II)I" } : MethodName) prog_1_method_22_code (4 : Nat) (Option.some FieldType.int)) ∈ q_gw := q_gw_in 642 (by decide +kernel)
theorem w_643 : (Cond.methodLink "NightDitch" (206 : Nat) ({ cls := "NightDitch$Tape", name := "append", desc := "(I)V" } : MethodName)) ∈ q_gw := q_gw_in 643 (by decide +kernel)
theorem w_644 : (Cond.instanceMethod ({ cls := "NightDitch$Tape", name := "append", desc := "(I)V" } : MethodName)) ∈ q_gw := q_gw_in 644 (by decide +kernel)
theorem w_645 : (Cond.selects "NightDitch$Tape" ({ cls := "NightDitch$Tape", name := "append", desc := "(I)V" } : MethodName) ({ cls := "NightDitch$Tape", name := "append", desc := "(I)V" } : MethodName)) ∈ q_gw := q_gw_in 645 (by decide +kernel)
theorem w_646 : (Cond.code ({ cls := "NightDitch$Tape", name := "append", desc := "(I)V" } : MethodName) prog_7_method_2_code (2 : Nat) (Option.none : Option FieldType)) ∈ q_gw := q_gw_in 646 (by decide +kernel)
theorem w_647 : (Cond.methodLink "NightDitchLaw" (102 : Nat) ({ cls := "NightDitch", name := "wipe", desc := "()I" } : MethodName)) ∈ q_gw := q_gw_in 647 (by decide +kernel)
theorem w_648 : (Cond.instanceMethod ({ cls := "NightDitch", name := "wipe", desc := "()I" } : MethodName)) ∈ q_gw := q_gw_in 648 (by decide +kernel)
theorem w_649 : (Cond.selects "NightDitch" ({ cls := "NightDitch", name := "wipe", desc := "()I" } : MethodName) ({ cls := "NightDitch", name := "wipe", desc := "()I" } : MethodName)) ∈ q_gw := q_gw_in 649 (by decide +kernel)
theorem w_650 : (Cond.code ({ cls := "NightDitch", name := "wipe", desc := "()I" } : MethodName) prog_1_method_23_code (2 : Nat) (Option.some FieldType.int)) ∈ q_gw := q_gw_in 650 (by decide +kernel)
theorem w_651 : (Cond.methodLink "NightDitchLaw" (106 : Nat) ({ cls := "NightDitch", name := "text", desc := "()I" } : MethodName)) ∈ q_gw := q_gw_in 651 (by decide +kernel)
theorem w_652 : (Cond.instanceMethod ({ cls := "NightDitch", name := "text", desc := "()I" } : MethodName)) ∈ q_gw := q_gw_in 652 (by decide +kernel)
theorem w_653 : (Cond.selects "NightDitch" ({ cls := "NightDitch", name := "text", desc := "()I" } : MethodName) ({ cls := "NightDitch", name := "text", desc := "()I" } : MethodName)) ∈ q_gw := q_gw_in 653 (by decide +kernel)
theorem w_654 : (Cond.code ({ cls := "NightDitch", name := "text", desc := "()I" } : MethodName) prog_1_method_24_code (1 : Nat) (Option.some FieldType.int)) ∈ q_gw := q_gw_in 654 (by decide +kernel)
theorem w_655 : (Cond.methodLink "NightDitch" (209 : Nat) ({ cls := "NightDitch$Tape", name := "parse", desc := "()Z" } : MethodName)) ∈ q_gw := q_gw_in 655 (by decide +kernel)
theorem w_656 : (Cond.instanceMethod ({ cls := "NightDitch$Tape", name := "parse", desc := "()Z" } : MethodName)) ∈ q_gw := q_gw_in 656 (by decide +kernel)
theorem w_657 : (Cond.selects "NightDitch$Tape" ({ cls := "NightDitch$Tape", name := "parse", desc := "()Z" } : MethodName) ({ cls := "NightDitch$Tape", name := "parse", desc := "()Z" } : MethodName)) ∈ q_gw := q_gw_in 657 (by decide +kernel)
theorem w_658 : (Cond.code ({ cls := "NightDitch$Tape", name := "parse", desc := "()Z" } : MethodName) prog_7_method_3_code (1 : Nat) (Option.some FieldType.boolean)) ∈ q_gw := q_gw_in 658 (by decide +kernel)
theorem w_659 : (Cond.methodLink "NightDitch$Tape" (30 : Nat) ({ cls := "NightDitch$Tape", name := "isSum", desc := "(I)Z" } : MethodName)) ∈ q_gw := q_gw_in 659 (by decide +kernel)
theorem w_661 : (Cond.instanceMethod ({ cls := "NightDitch$Tape", name := "isSum", desc := "(I)Z" } : MethodName)) ∈ q_gw := q_gw_in 661 (by decide +kernel)
theorem w_662 : (Cond.code ({ cls := "NightDitch$Tape", name := "isSum", desc := "(I)Z" } : MethodName) prog_7_method_4_code (5 : Nat) (Option.some FieldType.boolean)) ∈ q_gw := q_gw_in 662 (by decide +kernel)
theorem w_663 : (Cond.methodLink "NightDitch$Tape" (34 : Nat) ({ cls := "NightDitch$Tape", name := "isProduct", desc := "(I)Z" } : MethodName)) ∈ q_gw := q_gw_in 663 (by decide +kernel)
theorem w_665 : (Cond.instanceMethod ({ cls := "NightDitch$Tape", name := "isProduct", desc := "(I)Z" } : MethodName)) ∈ q_gw := q_gw_in 665 (by decide +kernel)
theorem w_666 : (Cond.code ({ cls := "NightDitch$Tape", name := "isProduct", desc := "(I)Z" } : MethodName) prog_7_method_5_code (5 : Nat) (Option.some FieldType.boolean)) ∈ q_gw := q_gw_in 666 (by decide +kernel)
theorem w_667 : (Cond.methodLink "NightDitch$Tape" (49 : Nat) ({ cls := "NightDitch$Tape", name := "isFactor", desc := "(I)Z" } : MethodName)) ∈ q_gw := q_gw_in 667 (by decide +kernel)
theorem w_669 : (Cond.instanceMethod ({ cls := "NightDitch$Tape", name := "isFactor", desc := "(I)Z" } : MethodName)) ∈ q_gw := q_gw_in 669 (by decide +kernel)
theorem w_670 : (Cond.code ({ cls := "NightDitch$Tape", name := "isFactor", desc := "(I)Z" } : MethodName) prog_7_method_6_code (3 : Nat) (Option.some FieldType.boolean)) ∈ q_gw := q_gw_in 670 (by decide +kernel)
theorem w_671 : (Cond.methodLink "NightDitch$Tape" (41 : Nat) ({ cls := "NightDitch$Tape", name := "next", desc := "()I" } : MethodName)) ∈ q_gw := q_gw_in 671 (by decide +kernel)
theorem w_673 : (Cond.instanceMethod ({ cls := "NightDitch$Tape", name := "next", desc := "()I" } : MethodName)) ∈ q_gw := q_gw_in 673 (by decide +kernel)
theorem w_674 : (Cond.code ({ cls := "NightDitch$Tape", name := "next", desc := "()I" } : MethodName) prog_7_method_13_code (1 : Nat) (Option.some FieldType.int)) ∈ q_gw := q_gw_in 674 (by decide +kernel)
theorem nw_675 : (Cond.methodLinkNest "NightDitch$Tape" (70 : Nat) ({ cls := "NightDitch", name := "isWithin", desc := "(III)Z" } : MethodName) "NightDitch") ∈ q_nw := q_nw_in 675 (by decide +kernel)
theorem w_676 : (Cond.methodLink "NightDitch$Tape" (52 : Nat) ({ cls := "NightDitch$Tape", name := "isDigit", desc := "(I)Z" } : MethodName)) ∈ q_gw := q_gw_in 676 (by decide +kernel)
theorem w_677 : (Cond.static ({ cls := "NightDitch$Tape", name := "isDigit", desc := "(I)Z" } : MethodName)) ∈ q_gw := q_gw_in 677 (by decide +kernel)
theorem w_678 : (Cond.code ({ cls := "NightDitch$Tape", name := "isDigit", desc := "(I)Z" } : MethodName) prog_7_method_10_code (1 : Nat) (Option.some FieldType.boolean)) ∈ q_gw := q_gw_in 678 (by decide +kernel)
theorem w_679 : (Cond.methodLink "NightDitch$Tape" (55 : Nat) ({ cls := "NightDitch$Tape", name := "takeNumber", desc := "()V" } : MethodName)) ∈ q_gw := q_gw_in 679 (by decide +kernel)
theorem w_681 : (Cond.instanceMethod ({ cls := "NightDitch$Tape", name := "takeNumber", desc := "()V" } : MethodName)) ∈ q_gw := q_gw_in 681 (by decide +kernel)
theorem w_682 : (Cond.code ({ cls := "NightDitch$Tape", name := "takeNumber", desc := "()V" } : MethodName) prog_7_method_9_code (3 : Nat) (Option.none : Option FieldType)) ∈ q_gw := q_gw_in 682 (by decide +kernel)
theorem w_683 : (Cond.methodLink "NightDitch$Tape" (45 : Nat) ({ cls := "NightDitch$Text", name := "append", desc := "(I)V" } : MethodName)) ∈ q_gw := q_gw_in 683 (by decide +kernel)
theorem w_684 : (Cond.instanceMethod ({ cls := "NightDitch$Text", name := "append", desc := "(I)V" } : MethodName)) ∈ q_gw := q_gw_in 684 (by decide +kernel)
theorem w_685 : (Cond.selects "NightDitch$Text" ({ cls := "NightDitch$Text", name := "append", desc := "(I)V" } : MethodName) ({ cls := "NightDitch$Text", name := "append", desc := "(I)V" } : MethodName)) ∈ q_gw := q_gw_in 685 (by decide +kernel)
theorem w_686 : (Cond.code ({ cls := "NightDitch$Text", name := "append", desc := "(I)V" } : MethodName) prog_8_method_4_code (2 : Nat) (Option.none : Option FieldType)) ∈ q_gw := q_gw_in 686 (by decide +kernel)
theorem w_687 : (Cond.methodLink "NightDitch$Tape" (58 : Nat) ({ cls := "NightDitch$Text", name := "isName", desc := "(I)Z" } : MethodName)) ∈ q_gw := q_gw_in 687 (by decide +kernel)
theorem w_688 : (Cond.methodLink "NightDitch$Tape" (37 : Nat) ({ cls := "NightDitch$Tape", name := "isNext", desc := "(II)Z" } : MethodName)) ∈ q_gw := q_gw_in 688 (by decide +kernel)
theorem w_690 : (Cond.instanceMethod ({ cls := "NightDitch$Tape", name := "isNext", desc := "(II)Z" } : MethodName)) ∈ q_gw := q_gw_in 690 (by decide +kernel)
theorem w_691 : (Cond.code ({ cls := "NightDitch$Tape", name := "isNext", desc := "(II)Z" } : MethodName) prog_7_method_12_code (3 : Nat) (Option.some FieldType.boolean)) ∈ q_gw := q_gw_in 691 (by decide +kernel)
theorem w_692 : (Cond.methodLink "NightDitch$Tape" (61 : Nat) ({ cls := "NightDitch$Tape", name := "isNegated", desc := "(I)Z" } : MethodName)) ∈ q_gw := q_gw_in 692 (by decide +kernel)
theorem w_694 : (Cond.instanceMethod ({ cls := "NightDitch$Tape", name := "isNegated", desc := "(I)Z" } : MethodName)) ∈ q_gw := q_gw_in 694 (by decide +kernel)
theorem w_695 : (Cond.code ({ cls := "NightDitch$Tape", name := "isNegated", desc := "(I)Z" } : MethodName) prog_7_method_7_code (3 : Nat) (Option.some FieldType.boolean)) ∈ q_gw := q_gw_in 695 (by decide +kernel)
theorem w_696 : (Cond.methodLink "NightDitch$Tape" (64 : Nat) ({ cls := "NightDitch$Tape", name := "isBracket", desc := "(I)Z" } : MethodName)) ∈ q_gw := q_gw_in 696 (by decide +kernel)
theorem w_698 : (Cond.instanceMethod ({ cls := "NightDitch$Tape", name := "isBracket", desc := "(I)Z" } : MethodName)) ∈ q_gw := q_gw_in 698 (by decide +kernel)
theorem w_699 : (Cond.code ({ cls := "NightDitch$Tape", name := "isBracket", desc := "(I)Z" } : MethodName) prog_7_method_8_code (3 : Nat) (Option.some FieldType.boolean)) ∈ q_gw := q_gw_in 699 (by decide +kernel)
theorem w_700 : (Cond.methodLink "NightDitch$Tape" (67 : Nat) ({ cls := "NightDitch$Tape", name := "passes", desc := "(I)Z" } : MethodName)) ∈ q_gw := q_gw_in 700 (by decide +kernel)
theorem w_702 : (Cond.instanceMethod ({ cls := "NightDitch$Tape", name := "passes", desc := "(I)Z" } : MethodName)) ∈ q_gw := q_gw_in 702 (by decide +kernel)
theorem w_703 : (Cond.code ({ cls := "NightDitch$Tape", name := "passes", desc := "(I)Z" } : MethodName) prog_7_method_11_code (3 : Nat) (Option.some FieldType.boolean)) ∈ q_gw := q_gw_in 703 (by decide +kernel)
theorem w_704 : (Cond.methodLink "NightDitch" (223 : Nat) ({ cls := "NightDitch$Text", name := "become", desc := "(LNightDitch$Text;)V" } : MethodName)) ∈ q_gw := q_gw_in 704 (by decide +kernel)
theorem w_705 : (Cond.methodLink "NightDitchLaw" (110 : Nat) ({ cls := "NightDitch", name := "plain", desc := "()I" } : MethodName)) ∈ q_gw := q_gw_in 705 (by decide +kernel)
theorem w_706 : (Cond.instanceMethod ({ cls := "NightDitch", name := "plain", desc := "()I" } : MethodName)) ∈ q_gw := q_gw_in 706 (by decide +kernel)
theorem w_707 : (Cond.selects "NightDitch" ({ cls := "NightDitch", name := "plain", desc := "()I" } : MethodName) ({ cls := "NightDitch", name := "plain", desc := "()I" } : MethodName)) ∈ q_gw := q_gw_in 707 (by decide +kernel)
theorem w_708 : (Cond.code ({ cls := "NightDitch", name := "plain", desc := "()I" } : MethodName) prog_1_method_25_code (2 : Nat) (Option.some FieldType.int)) ∈ q_gw := q_gw_in 708 (by decide +kernel)
theorem w_709 : (Cond.methodLink "NightDitch" (228 : Nat) ({ cls := "NightDitch$Text", name := "isThere", desc := "()Z" } : MethodName)) ∈ q_gw := q_gw_in 709 (by decide +kernel)
theorem w_710 : (Cond.methodLink "NightDitchLaw" (114 : Nat) ({ cls := "NightDitch", name := "gives", desc := "(I)I" } : MethodName)) ∈ q_gw := q_gw_in 710 (by decide +kernel)
theorem w_711 : (Cond.instanceMethod ({ cls := "NightDitch", name := "gives", desc := "(I)I" } : MethodName)) ∈ q_gw := q_gw_in 711 (by decide +kernel)
theorem w_712 : (Cond.selects "NightDitch" ({ cls := "NightDitch", name := "gives", desc := "(I)I" } : MethodName) ({ cls := "NightDitch", name := "gives", desc := "(I)I" } : MethodName)) ∈ q_gw := q_gw_in 712 (by decide +kernel)
theorem w_713 : (Cond.code ({ cls := "NightDitch", name := "gives", desc := "(I)I" } : MethodName) prog_1_method_26_code (2 : Nat) (Option.some FieldType.int)) ∈ q_gw := q_gw_in 713 (by decide +kernel)
theorem w_714 : (Cond.methodLink "NightDitch" (232 : Nat) ({ cls := "NightDitch$Text", name := "valueFor", desc := "(LNightDitch$Ditch;II)I" } : MethodName)) ∈ q_gw := q_gw_in 714 (by decide +kernel)
theorem w_715 : (Cond.methodLink "NightDitchLaw" (118 : Nat) ({ cls := "NightDitch", name := "seed", desc := "(I)I" } : MethodName)) ∈ q_gw := q_gw_in 715 (by decide +kernel)
theorem w_716 : (Cond.instanceMethod ({ cls := "NightDitch", name := "seed", desc := "(I)I" } : MethodName)) ∈ q_gw := q_gw_in 716 (by decide +kernel)
theorem w_717 : (Cond.selects "NightDitch" ({ cls := "NightDitch", name := "seed", desc := "(I)I" } : MethodName) ({ cls := "NightDitch", name := "seed", desc := "(I)I" } : MethodName)) ∈ q_gw := q_gw_in 717 (by decide +kernel)
theorem w_718 : (Cond.code ({ cls := "NightDitch", name := "seed", desc := "(I)I" } : MethodName) prog_1_method_27_code (3 : Nat) (Option.some FieldType.int)) ∈ q_gw := q_gw_in 718 (by decide +kernel)
theorem w_719 : (Cond.methodLink "NightDitchLaw" (122 : Nat) ({ cls := "NightDitch", name := "nights", desc := "(I)I" } : MethodName)) ∈ q_gw := q_gw_in 719 (by decide +kernel)
theorem w_720 : (Cond.instanceMethod ({ cls := "NightDitch", name := "nights", desc := "(I)I" } : MethodName)) ∈ q_gw := q_gw_in 720 (by decide +kernel)
theorem w_721 : (Cond.selects "NightDitch" ({ cls := "NightDitch", name := "nights", desc := "(I)I" } : MethodName) ({ cls := "NightDitch", name := "nights", desc := "(I)I" } : MethodName)) ∈ q_gw := q_gw_in 721 (by decide +kernel)
theorem w_722 : (Cond.code ({ cls := "NightDitch", name := "nights", desc := "(I)I" } : MethodName) prog_1_method_28_code (3 : Nat) (Option.some FieldType.int)) ∈ q_gw := q_gw_in 722 (by decide +kernel)
theorem w_723 : (Cond.methodLink "NightDitch" (242 : Nat) ({ cls := "NightDitch$Ditch", name := "passNights", desc := "(I)V" } : MethodName)) ∈ q_gw := q_gw_in 723 (by decide +kernel)
theorem w_724 : (Cond.instanceMethod ({ cls := "NightDitch$Ditch", name := "passNights", desc := "(I)V" } : MethodName)) ∈ q_gw := q_gw_in 724 (by decide +kernel)
theorem w_725 : (Cond.selects "NightDitch$Ditch" ({ cls := "NightDitch$Ditch", name := "passNights", desc := "(I)V" } : MethodName) ({ cls := "NightDitch$Ditch", name := "passNights", desc := "(I)V" } : MethodName)) ∈ q_gw := q_gw_in 725 (by decide +kernel)
theorem w_726 : (Cond.code ({ cls := "NightDitch$Ditch", name := "passNights", desc := "(I)V" } : MethodName) prog_2_method_21_code (4 : Nat) (Option.none : Option FieldType)) ∈ q_gw := q_gw_in 726 (by decide +kernel)
theorem w_727 : (Cond.methodLink "NightDitch$Ditch" (178 : Nat) ({ cls := "NightDitch$Ditch", name := "passMeet", desc := "(LNightDitch$Meet;)V" } : MethodName)) ∈ q_gw := q_gw_in 727 (by decide +kernel)
theorem w_729 : (Cond.instanceMethod ({ cls := "NightDitch$Ditch", name := "passMeet", desc := "(LNightDitch$Meet;)V" } : MethodName)) ∈ q_gw := q_gw_in 729 (by decide +kernel)
theorem w_730 : (Cond.code ({ cls := "NightDitch$Ditch", name := "passMeet", desc := "(LNightDitch$Meet;)V" } : MethodName) prog_2_method_22_code (7 : Nat) (Option.none : Option FieldType)) ∈ q_gw := q_gw_in 730 (by decide +kernel)
theorem w_731 : (Cond.methodLink "NightDitch$Ditch" (182 : Nat) ({ cls := "NightDitch$Ditch", name := "draw", desc := "()I" } : MethodName)) ∈ q_gw := q_gw_in 731 (by decide +kernel)
theorem w_733 : (Cond.instanceMethod ({ cls := "NightDitch$Ditch", name := "draw", desc := "()I" } : MethodName)) ∈ q_gw := q_gw_in 733 (by decide +kernel)
theorem w_734 : (Cond.code ({ cls := "NightDitch$Ditch", name := "draw", desc := "()I" } : MethodName) prog_2_method_23_code (1 : Nat) (Option.some FieldType.int)) ∈ q_gw := q_gw_in 734 (by decide +kernel)
theorem w_735 : (Cond.constant "NightDitch$Ditch" (192 : Nat) (1103515245 : Int32)) ∈ q_gw := q_gw_in 735 (by decide +kernel)
theorem w_736 : (Cond.constant "NightDitch$Ditch" (185 : Nat) (1000000 : Int32)) ∈ q_gw := q_gw_in 736 (by decide +kernel)
theorem w_737 : (Cond.methodLink "NightDitchLaw" (126 : Nat) ({ cls := "NightDitch", name := "ahead", desc := "(II)I" } : MethodName)) ∈ q_gw := q_gw_in 737 (by decide +kernel)
theorem w_738 : (Cond.instanceMethod ({ cls := "NightDitch", name := "ahead", desc := "(II)I" } : MethodName)) ∈ q_gw := q_gw_in 738 (by decide +kernel)
theorem w_739 : (Cond.selects "NightDitch" ({ cls := "NightDitch", name := "ahead", desc := "(II)I" } : MethodName) ({ cls := "NightDitch", name := "ahead", desc := "(II)I" } : MethodName)) ∈ q_gw := q_gw_in 739 (by decide +kernel)
theorem w_740 : (Cond.code ({ cls := "NightDitch", name := "ahead", desc := "(II)I" } : MethodName) prog_1_method_29_code (3 : Nat) (Option.some FieldType.int)) ∈ q_gw := q_gw_in 740 (by decide +kernel)
theorem w_741 : (Cond.methodLink "NightDitchLaw" (130 : Nat) ({ cls := "NightDitch", name := "purse", desc := "(I)I" } : MethodName)) ∈ q_gw := q_gw_in 741 (by decide +kernel)
theorem w_742 : (Cond.instanceMethod ({ cls := "NightDitch", name := "purse", desc := "(I)I" } : MethodName)) ∈ q_gw := q_gw_in 742 (by decide +kernel)
theorem w_743 : (Cond.selects "NightDitch" ({ cls := "NightDitch", name := "purse", desc := "(I)I" } : MethodName) ({ cls := "NightDitch", name := "purse", desc := "(I)I" } : MethodName)) ∈ q_gw := q_gw_in 743 (by decide +kernel)
theorem w_744 : (Cond.code ({ cls := "NightDitch", name := "purse", desc := "(I)I" } : MethodName) prog_1_method_30_code (2 : Nat) (Option.some FieldType.int)) ∈ q_gw := q_gw_in 744 (by decide +kernel)
theorem w_745 : (Cond.methodLink "NightDitch" (251 : Nat) ({ cls := "NightDitch$Ditch", name := "richest", desc := "()I" } : MethodName)) ∈ q_gw := q_gw_in 745 (by decide +kernel)
theorem w_746 : (Cond.instanceMethod ({ cls := "NightDitch$Ditch", name := "richest", desc := "()I" } : MethodName)) ∈ q_gw := q_gw_in 746 (by decide +kernel)
theorem w_747 : (Cond.selects "NightDitch$Ditch" ({ cls := "NightDitch$Ditch", name := "richest", desc := "()I" } : MethodName) ({ cls := "NightDitch$Ditch", name := "richest", desc := "()I" } : MethodName)) ∈ q_gw := q_gw_in 747 (by decide +kernel)
theorem w_748 : (Cond.code ({ cls := "NightDitch$Ditch", name := "richest", desc := "()I" } : MethodName) prog_2_method_24_code (3 : Nat) (Option.some FieldType.int)) ∈ q_gw := q_gw_in 748 (by decide +kernel)
theorem w_749 : (Cond.methodLink "NightDitch" (254 : Nat) ({ cls := "NightDitch$Ditch", name := "poorest", desc := "()I" } : MethodName)) ∈ q_gw := q_gw_in 749 (by decide +kernel)
theorem w_750 : (Cond.instanceMethod ({ cls := "NightDitch$Ditch", name := "poorest", desc := "()I" } : MethodName)) ∈ q_gw := q_gw_in 750 (by decide +kernel)
theorem w_751 : (Cond.selects "NightDitch$Ditch" ({ cls := "NightDitch$Ditch", name := "poorest", desc := "()I" } : MethodName) ({ cls := "NightDitch$Ditch", name := "poorest", desc := "()I" } : MethodName)) ∈ q_gw := q_gw_in 751 (by decide +kernel)
theorem w_752 : (Cond.code ({ cls := "NightDitch$Ditch", name := "poorest", desc := "()I" } : MethodName) prog_2_method_25_code (3 : Nat) (Option.some FieldType.int)) ∈ q_gw := q_gw_in 752 (by decide +kernel)
theorem w_753 : (Cond.methodLink "NightDitchLaw" (134 : Nat) ({ cls := "NightDitch", name := "sheet", desc := "(III)I" } : MethodName)) ∈ q_gw := q_gw_in 753 (by decide +kernel)
theorem w_754 : (Cond.instanceMethod ({ cls := "NightDitch", name := "sheet", desc := "(III)I" } : MethodName)) ∈ q_gw := q_gw_in 754 (by decide +kernel)
theorem w_755 : (Cond.selects "NightDitch" ({ cls := "NightDitch", name := "sheet", desc := "(III)I" } : MethodName) ({ cls := "NightDitch", name := "sheet", desc := "(III)I" } : MethodName)) ∈ q_gw := q_gw_in 755 (by decide +kernel)
theorem w_756 : (Cond.code ({ cls := "NightDitch", name := "sheet", desc := "(III)I" } : MethodName) prog_1_method_31_code (4 : Nat) (Option.some FieldType.int)) ∈ q_gw := q_gw_in 756 (by decide +kernel)
theorem w_757 : (Cond.methodLink "NightDitch" (257 : Nat) ({ cls := "NightDitch$Sheets", name := "has", desc := "(I)Z" } : MethodName)) ∈ q_gw := q_gw_in 757 (by decide +kernel)
theorem w_758 : (Cond.instanceMethod ({ cls := "NightDitch$Sheets", name := "has", desc := "(I)Z" } : MethodName)) ∈ q_gw := q_gw_in 758 (by decide +kernel)
theorem w_759 : (Cond.selects "NightDitch$Sheets" ({ cls := "NightDitch$Sheets", name := "has", desc := "(I)Z" } : MethodName) ({ cls := "NightDitch$Sheets", name := "has", desc := "(I)Z" } : MethodName)) ∈ q_gw := q_gw_in 759 (by decide +kernel)
theorem w_760 : (Cond.code ({ cls := "NightDitch$Sheets", name := "has", desc := "(I)Z" } : MethodName) prog_6_method_2_code (2 : Nat) (Option.some FieldType.boolean)) ∈ q_gw := q_gw_in 760 (by decide +kernel)
theorem nw_761 : (Cond.methodLinkNest "NightDitch$Sheets" (23 : Nat) ({ cls := "NightDitch", name := "isWithin", desc := "(III)Z" } : MethodName) "NightDitch") ∈ q_nw := q_nw_in 761 (by decide +kernel)
theorem w_762 : (Cond.methodLink "NightDitch" (260 : Nat) ({ cls := "NightDitch$Sheets", name := "isWidth", desc := "(I)Z" } : MethodName)) ∈ q_gw := q_gw_in 762 (by decide +kernel)
theorem w_763 : (Cond.instanceMethod ({ cls := "NightDitch$Sheets", name := "isWidth", desc := "(I)Z" } : MethodName)) ∈ q_gw := q_gw_in 763 (by decide +kernel)
theorem w_764 : (Cond.selects "NightDitch$Sheets" ({ cls := "NightDitch$Sheets", name := "isWidth", desc := "(I)Z" } : MethodName) ({ cls := "NightDitch$Sheets", name := "isWidth", desc := "(I)Z" } : MethodName)) ∈ q_gw := q_gw_in 764 (by decide +kernel)
theorem w_765 : (Cond.code ({ cls := "NightDitch$Sheets", name := "isWidth", desc := "(I)Z" } : MethodName) prog_6_method_3_code (2 : Nat) (Option.some FieldType.boolean)) ∈ q_gw := q_gw_in 765 (by decide +kernel)
theorem w_766 : (Cond.constant "NightDitch" (263 : Nat) (-1000000007 : Int32)) ∈ q_gw := q_gw_in 766 (by decide +kernel)
theorem w_767 : (Cond.methodLink "NightDitch" (264 : Nat) ({ cls := "NightDitch$Sheets", name := "lay", desc := "(III)I" } : MethodName)) ∈ q_gw := q_gw_in 767 (by decide +kernel)
theorem w_768 : (Cond.instanceMethod ({ cls := "NightDitch$Sheets", name := "lay", desc := "(III)I" } : MethodName)) ∈ q_gw := q_gw_in 768 (by decide +kernel)
theorem w_769 : (Cond.selects "NightDitch$Sheets" ({ cls := "NightDitch$Sheets", name := "lay", desc := "(III)I" } : MethodName) ({ cls := "NightDitch$Sheets", name := "lay", desc := "(III)I" } : MethodName)) ∈ q_gw := q_gw_in 769 (by decide +kernel)
theorem w_770 : (Cond.code ({ cls := "NightDitch$Sheets", name := "lay", desc := "(III)I" } : MethodName) prog_6_method_5_code (5 : Nat) (Option.some FieldType.int)) ∈ q_gw := q_gw_in 770 (by decide +kernel)
theorem w_771 : (Cond.methodLink "NightDitchLaw" (140 : Nat) ({ cls := "NightDitch", name := "write", desc := "(IIJ)J" } : MethodName)) ∈ q_gw := q_gw_in 771 (by decide +kernel)
theorem w_772 : (Cond.instanceMethod ({ cls := "NightDitch", name := "write", desc := "(IIJ)J" } : MethodName)) ∈ q_gw := q_gw_in 772 (by decide +kernel)
theorem w_773 : (Cond.selects "NightDitch" ({ cls := "NightDitch", name := "write", desc := "(IIJ)J" } : MethodName) ({ cls := "NightDitch", name := "write", desc := "(IIJ)J" } : MethodName)) ∈ q_gw := q_gw_in 773 (by decide +kernel)
theorem w_774 : (Cond.code ({ cls := "NightDitch", name := "write", desc := "(IIJ)J" } : MethodName) prog_1_method_32_code (5 : Nat) (Option.some FieldType.long)) ∈ q_gw := q_gw_in 774 (by decide +kernel)
theorem w_775 : (Cond.methodLink "NightDitch" (267 : Nat) ({ cls := "NightDitch$Sheets", name := "isMissing", desc := "(I)Z" } : MethodName)) ∈ q_gw := q_gw_in 775 (by decide +kernel)
theorem w_776 : (Cond.instanceMethod ({ cls := "NightDitch$Sheets", name := "isMissing", desc := "(I)Z" } : MethodName)) ∈ q_gw := q_gw_in 776 (by decide +kernel)
theorem w_777 : (Cond.selects "NightDitch$Sheets" ({ cls := "NightDitch$Sheets", name := "isMissing", desc := "(I)Z" } : MethodName) ({ cls := "NightDitch$Sheets", name := "isMissing", desc := "(I)Z" } : MethodName)) ∈ q_gw := q_gw_in 777 (by decide +kernel)
theorem w_778 : (Cond.code ({ cls := "NightDitch$Sheets", name := "isMissing", desc := "(I)Z" } : MethodName) prog_6_method_4_code (2 : Nat) (Option.some FieldType.boolean)) ∈ q_gw := q_gw_in 778 (by decide +kernel)
theorem w_779 : (Cond.constant "NightDitch" (270 : Nat) (-1000000006 : Int32)) ∈ q_gw := q_gw_in 779 (by decide +kernel)
theorem w_780 : (Cond.methodLink "NightDitch" (274 : Nat) ({ cls := "NightDitch$Sheets", name := "put", desc := "(IIJ)J" } : MethodName)) ∈ q_gw := q_gw_in 780 (by decide +kernel)
theorem w_781 : (Cond.instanceMethod ({ cls := "NightDitch$Sheets", name := "put", desc := "(IIJ)J" } : MethodName)) ∈ q_gw := q_gw_in 781 (by decide +kernel)
theorem w_782 : (Cond.selects "NightDitch$Sheets" ({ cls := "NightDitch$Sheets", name := "put", desc := "(IIJ)J" } : MethodName) ({ cls := "NightDitch$Sheets", name := "put", desc := "(IIJ)J" } : MethodName)) ∈ q_gw := q_gw_in 782 (by decide +kernel)
theorem w_783 : (Cond.code ({ cls := "NightDitch$Sheets", name := "put", desc := "(IIJ)J" } : MethodName) prog_6_method_6_code (7 : Nat) (Option.some FieldType.long)) ∈ q_gw := q_gw_in 783 (by decide +kernel)
theorem w_784 : (Cond.methodLink "NightDitch$Sheets" (27 : Nat) ({ cls := "NightDitch$Sheets", name := "lowest", desc := "(IJ)J" } : MethodName)) ∈ q_gw := q_gw_in 784 (by decide +kernel)
theorem w_785 : (Cond.static ({ cls := "NightDitch$Sheets", name := "lowest", desc := "(IJ)J" } : MethodName)) ∈ q_gw := q_gw_in 785 (by decide +kernel)
theorem w_786 : (Cond.code ({ cls := "NightDitch$Sheets", name := "lowest", desc := "(IJ)J" } : MethodName) prog_6_method_7_code (3 : Nat) (Option.some FieldType.long)) ∈ q_gw := q_gw_in 786 (by decide +kernel)
theorem w_787 : (Cond.methodLink "NightDitchLaw" (145 : Nat) ({ cls := "NightDitch", name := "copy", desc := "(IIIII)I" } : MethodName)) ∈ q_gw := q_gw_in 787 (by decide +kernel)
theorem w_788 : (Cond.instanceMethod ({ cls := "NightDitch", name := "copy", desc := "(IIIII)I" } : MethodName)) ∈ q_gw := q_gw_in 788 (by decide +kernel)
theorem w_789 : (Cond.selects "NightDitch" ({ cls := "NightDitch", name := "copy", desc := "(IIIII)I" } : MethodName) ({ cls := "NightDitch", name := "copy", desc := "(IIIII)I" } : MethodName)) ∈ q_gw := q_gw_in 789 (by decide +kernel)
theorem w_790 : (Cond.code ({ cls := "NightDitch", name := "copy", desc := "(IIIII)I" } : MethodName) prog_1_method_33_code (6 : Nat) (Option.some FieldType.int)) ∈ q_gw := q_gw_in 790 (by decide +kernel)
theorem w_791 : (Cond.methodLink "NightDitch" (281 : Nat) ({ cls := "NightDitch$Sheets", name := "holds", desc := "(III)Z" } : MethodName)) ∈ q_gw := q_gw_in 791 (by decide +kernel)
theorem w_792 : (Cond.instanceMethod ({ cls := "NightDitch$Sheets", name := "holds", desc := "(III)Z" } : MethodName)) ∈ q_gw := q_gw_in 792 (by decide +kernel)
theorem w_793 : (Cond.selects "NightDitch$Sheets" ({ cls := "NightDitch$Sheets", name := "holds", desc := "(III)Z" } : MethodName) ({ cls := "NightDitch$Sheets", name := "holds", desc := "(III)Z" } : MethodName)) ∈ q_gw := q_gw_in 793 (by decide +kernel)
theorem w_794 : (Cond.code ({ cls := "NightDitch$Sheets", name := "holds", desc := "(III)Z" } : MethodName) prog_6_method_8_code (4 : Nat) (Option.some FieldType.boolean)) ∈ q_gw := q_gw_in 794 (by decide +kernel)
theorem w_795 : (Cond.methodLink "NightDitch" (288 : Nat) ({ cls := "java/lang/System", name := "arraycopy", desc := "(Ljava/lang/Object;ILjava/lang/Object;II)V" } : MethodName)) ∈ q_gw := q_gw_in 795 (by decide +kernel)
theorem w_796 : (Cond.methodLink "NightDitchLaw" (150 : Nat) ({ cls := "NightDitch", name := "worths", desc := "(I)I" } : MethodName)) ∈ q_gw := q_gw_in 796 (by decide +kernel)
theorem w_797 : (Cond.instanceMethod ({ cls := "NightDitch", name := "worths", desc := "(I)I" } : MethodName)) ∈ q_gw := q_gw_in 797 (by decide +kernel)
theorem w_798 : (Cond.selects "NightDitch" ({ cls := "NightDitch", name := "worths", desc := "(I)I" } : MethodName) ({ cls := "NightDitch", name := "worths", desc := "(I)I" } : MethodName)) ∈ q_gw := q_gw_in 798 (by decide +kernel)
theorem w_799 : (Cond.code ({ cls := "NightDitch", name := "worths", desc := "(I)I" } : MethodName) prog_1_method_34_code (6 : Nat) (Option.some FieldType.int)) ∈ q_gw := q_gw_in 799 (by decide +kernel)
theorem w_800 : (Cond.methodLink "NightDitchLaw" (154 : Nat) ({ cls := "NightDitch", name := "read", desc := "(I)I" } : MethodName)) ∈ q_gw := q_gw_in 800 (by decide +kernel)
theorem w_801 : (Cond.instanceMethod ({ cls := "NightDitch", name := "read", desc := "(I)I" } : MethodName)) ∈ q_gw := q_gw_in 801 (by decide +kernel)
theorem w_802 : (Cond.selects "NightDitch" ({ cls := "NightDitch", name := "read", desc := "(I)I" } : MethodName) ({ cls := "NightDitch", name := "read", desc := "(I)I" } : MethodName)) ∈ q_gw := q_gw_in 802 (by decide +kernel)
theorem w_803 : (Cond.code ({ cls := "NightDitch", name := "read", desc := "(I)I" } : MethodName) prog_1_method_35_code (3 : Nat) (Option.some FieldType.int)) ∈ q_gw := q_gw_in 803 (by decide +kernel)
theorem w_804 : (Cond.methodLink "NightDitchLaw" (158 : Nat) ({ cls := "NightDitch", name := "image", desc := "()I" } : MethodName)) ∈ q_gw := q_gw_in 804 (by decide +kernel)
theorem w_805 : (Cond.instanceMethod ({ cls := "NightDitch", name := "image", desc := "()I" } : MethodName)) ∈ q_gw := q_gw_in 805 (by decide +kernel)
theorem w_806 : (Cond.selects "NightDitch" ({ cls := "NightDitch", name := "image", desc := "()I" } : MethodName) ({ cls := "NightDitch", name := "image", desc := "()I" } : MethodName)) ∈ q_gw := q_gw_in 806 (by decide +kernel)
theorem w_807 : (Cond.code ({ cls := "NightDitch", name := "image", desc := "()I" } : MethodName) prog_1_method_36_code (1 : Nat) (Option.some FieldType.int)) ∈ q_gw := q_gw_in 807 (by decide +kernel)
theorem w_808 : (Cond.methodLink "NightDitchLaw" (162 : Nat) ({ cls := "NightDitch", name := "undo", desc := "()I" } : MethodName)) ∈ q_gw := q_gw_in 808 (by decide +kernel)
theorem w_809 : (Cond.instanceMethod ({ cls := "NightDitch", name := "undo", desc := "()I" } : MethodName)) ∈ q_gw := q_gw_in 809 (by decide +kernel)
theorem w_810 : (Cond.selects "NightDitch" ({ cls := "NightDitch", name := "undo", desc := "()I" } : MethodName) ({ cls := "NightDitch", name := "undo", desc := "()I" } : MethodName)) ∈ q_gw := q_gw_in 810 (by decide +kernel)
theorem w_811 : (Cond.code ({ cls := "NightDitch", name := "undo", desc := "()I" } : MethodName) prog_1_method_37_code (1 : Nat) (Option.some FieldType.int)) ∈ q_gw := q_gw_in 811 (by decide +kernel)
theorem w_812 : (Cond.methodLink "NightDitchLaw" (166 : Nat) ({ cls := "NightDitch", name := "tear", desc := "()I" } : MethodName)) ∈ q_gw := q_gw_in 812 (by decide +kernel)
theorem w_813 : (Cond.instanceMethod ({ cls := "NightDitch", name := "tear", desc := "()I" } : MethodName)) ∈ q_gw := q_gw_in 813 (by decide +kernel)
theorem w_814 : (Cond.selects "NightDitch" ({ cls := "NightDitch", name := "tear", desc := "()I" } : MethodName) ({ cls := "NightDitch", name := "tear", desc := "()I" } : MethodName)) ∈ q_gw := q_gw_in 814 (by decide +kernel)
theorem w_815 : (Cond.code ({ cls := "NightDitch", name := "tear", desc := "()I" } : MethodName) prog_1_method_38_code (2 : Nat) (Option.some FieldType.int)) ∈ q_gw := q_gw_in 815 (by decide +kernel)
theorem w_816 : (Cond.methodLink "NightDitchLaw" (170 : Nat) ({ cls := "NightDitch", name := "count", desc := "(I)I" } : MethodName)) ∈ q_gw := q_gw_in 816 (by decide +kernel)
theorem w_817 : (Cond.instanceMethod ({ cls := "NightDitch", name := "count", desc := "(I)I" } : MethodName)) ∈ q_gw := q_gw_in 817 (by decide +kernel)
theorem w_818 : (Cond.selects "NightDitch" ({ cls := "NightDitch", name := "count", desc := "(I)I" } : MethodName) ({ cls := "NightDitch", name := "count", desc := "(I)I" } : MethodName)) ∈ q_gw := q_gw_in 818 (by decide +kernel)
theorem w_819 : (Cond.code ({ cls := "NightDitch", name := "count", desc := "(I)I" } : MethodName) prog_1_method_39_code (2 : Nat) (Option.some FieldType.int)) ∈ q_gw := q_gw_in 819 (by decide +kernel)
theorem w_820 : (Cond.methodLink "NightDitchLaw" (174 : Nat) ({ cls := "NightDitch", name := "status", desc := "(I)I" } : MethodName)) ∈ q_gw := q_gw_in 820 (by decide +kernel)
theorem w_821 : (Cond.instanceMethod ({ cls := "NightDitch", name := "status", desc := "(I)I" } : MethodName)) ∈ q_gw := q_gw_in 821 (by decide +kernel)
theorem w_822 : (Cond.selects "NightDitch" ({ cls := "NightDitch", name := "status", desc := "(I)I" } : MethodName) ({ cls := "NightDitch", name := "status", desc := "(I)I" } : MethodName)) ∈ q_gw := q_gw_in 822 (by decide +kernel)
theorem w_823 : (Cond.code ({ cls := "NightDitch", name := "status", desc := "(I)I" } : MethodName) prog_1_method_40_code (7 : Nat) (Option.some FieldType.int)) ∈ q_gw := q_gw_in 823 (by decide +kernel)
theorem w_824 : (Cond.classLink "NightDitchLaw" (10 : Nat) "NightDitchModel") ∈ q_gw := q_gw_in 824 (by decide +kernel)
theorem w_825 : (Cond.instantiable "NightDitchModel" (39 : Nat)) ∈ q_gw := q_gw_in 825 (by decide +kernel)
theorem w_826 : (Cond.methodLink "NightDitchLaw" (12 : Nat) ({ cls := "NightDitchModel", name := "<init>", desc := "()V" } : MethodName)) ∈ q_gw := q_gw_in 826 (by decide +kernel)
theorem w_827 : (Cond.instanceMethod ({ cls := "NightDitchModel", name := "<init>", desc := "()V" } : MethodName)) ∈ q_gw := q_gw_in 827 (by decide +kernel)
theorem w_828 : (Cond.code ({ cls := "NightDitchModel", name := "<init>", desc := "()V" } : MethodName) prog_10_method_1_code (1 : Nat) (Option.none : Option FieldType)) ∈ q_gw := q_gw_in 828 (by decide +kernel)
theorem w_829 : (Cond.methodLink "NightDitchModel" (1 : Nat) ({ cls := "java/lang/Object", name := "<init>", desc := "()V" } : MethodName)) ∈ q_gw := q_gw_in 829 (by decide +kernel)
theorem w_830 : (Cond.fieldLink "NightDitchModel" (9 : Nat) "NightDitchModel" "now" "[I") ∈ q_gw := q_gw_in 830 (by decide +kernel)
theorem w_831 : (Cond.fieldLink "NightDitchModel" (13 : Nat) "NightDitchModel" "kept" "[I") ∈ q_gw := q_gw_in 831 (by decide +kernel)
theorem w_832 : (Cond.fieldLink "NightDitchModel" (16 : Nat) "NightDitchModel" "aside" "[I") ∈ q_gw := q_gw_in 832 (by decide +kernel)
theorem w_833 : (Cond.fieldLink "NightDitchModel" (283 : Nat) "NightDitchModel" "isKept" "Z") ∈ q_gw := q_gw_in 833 (by decide +kernel)
theorem w_834 : (Cond.fieldLink "NightDitchModel" (19 : Nat) "NightDitchModel" "found" "[I") ∈ q_gw := q_gw_in 834 (by decide +kernel)
theorem w_835 : (Cond.fieldLink "NightDitchModel" (64 : Nat) "NightDitchModel" "foundAll" "I") ∈ q_gw := q_gw_in 835 (by decide +kernel)
theorem w_836 : (Cond.fieldLink "NightDitchModel" (22 : Nat) "NightDitchModel" "digits" "[I") ∈ q_gw := q_gw_in 836 (by decide +kernel)
theorem w_837 : (Cond.fieldLink "NightDitchModel" (135 : Nat) "NightDitchModel" "takesAbove" "I") ∈ q_gw := q_gw_in 837 (by decide +kernel)
theorem w_838 : (Cond.fieldLink "NightDitchModel" (138 : Nat) "NightDitchModel" "takesBelow" "I") ∈ q_gw := q_gw_in 838 (by decide +kernel)
theorem w_839 : (Cond.fieldLink "NightDitchModel" (141 : Nat) "NightDitchModel" "watchesAbove" "I") ∈ q_gw := q_gw_in 839 (by decide +kernel)
theorem w_840 : (Cond.fieldLink "NightDitchModel" (144 : Nat) "NightDitchModel" "watchesBelow" "I") ∈ q_gw := q_gw_in 840 (by decide +kernel)
theorem w_841 : (Cond.fieldLink "NightDitchModel" (152 : Nat) "NightDitchModel" "taking" "J") ∈ q_gw := q_gw_in 841 (by decide +kernel)
theorem w_842 : (Cond.fieldLink "NightDitchModel" (156 : Nat) "NightDitchModel" "watching" "J") ∈ q_gw := q_gw_in 842 (by decide +kernel)
theorem w_843 : (Cond.fieldLink "NightDitchModel" (161 : Nat) "NightDitchModel" "open" "J") ∈ q_gw := q_gw_in 843 (by decide +kernel)
theorem w_844 : (Cond.fieldLink "NightDitchModel" (120 : Nat) "NightDitchModel" "wants" "I") ∈ q_gw := q_gw_in 844 (by decide +kernel)
theorem w_845 : (Cond.fieldLink "NightDitchModel" (123 : Nat) "NightDitchModel" "pays" "I") ∈ q_gw := q_gw_in 845 (by decide +kernel)
theorem w_846 : (Cond.fieldLink "NightDitchModel" (126 : Nat) "NightDitchModel" "gets" "I") ∈ q_gw := q_gw_in 846 (by decide +kernel)
theorem w_847 : (Cond.fieldLink "NightDitchModel" (129 : Nat) "NightDitchModel" "sleep" "I") ∈ q_gw := q_gw_in 847 (by decide +kernel)
theorem w_848 : (Cond.fieldLink "NightDitchModel" (132 : Nat) "NightDitchModel" "sees" "I") ∈ q_gw := q_gw_in 848 (by decide +kernel)
theorem w_849 : (Cond.fieldLink "NightDitchModel" (25 : Nat) "NightDitchModel" "lostBy" "[J") ∈ q_gw := q_gw_in 849 (by decide +kernel)
theorem w_850 : (Cond.fieldLink "NightDitchModel" (29 : Nat) "NightDitchModel" "row" "[I") ∈ q_gw := q_gw_in 850 (by decide +kernel)
theorem w_851 : (Cond.fieldLink "NightDitchModel" (32 : Nat) "NightDitchModel" "isIn" "[Z") ∈ q_gw := q_gw_in 851 (by decide +kernel)
theorem w_852 : (Cond.fieldLink "NightDitchModel" (182 : Nat) "NightDitchModel" "bestRow" "I") ∈ q_gw := q_gw_in 852 (by decide +kernel)
theorem w_853 : (Cond.fieldLink "NightDitchModel" (179 : Nat) "NightDitchModel" "leastLost" "J") ∈ q_gw := q_gw_in 853 (by decide +kernel)
theorem w_854 : (Cond.fieldLink "NightDitchModel" (36 : Nat) "NightDitchModel" "tape" "[I") ∈ q_gw := q_gw_in 854 (by decide +kernel)
theorem w_855 : (Cond.fieldLink "NightDitchModel" (208 : Nat) "NightDitchModel" "taped" "I") ∈ q_gw := q_gw_in 855 (by decide +kernel)
theorem w_856 : (Cond.fieldLink "NightDitchModel" (39 : Nat) "NightDitchModel" "fresh" "[I") ∈ q_gw := q_gw_in 856 (by decide +kernel)
theorem w_857 : (Cond.fieldLink "NightDitchModel" (211 : Nat) "NightDitchModel" "freshMany" "I") ∈ q_gw := q_gw_in 857 (by decide +kernel)
theorem w_858 : (Cond.fieldLink "NightDitchModel" (42 : Nat) "NightDitchModel" "waits" "[I") ∈ q_gw := q_gw_in 858 (by decide +kernel)
theorem w_859 : (Cond.fieldLink "NightDitchModel" (214 : Nat) "NightDitchModel" "held" "I") ∈ q_gw := q_gw_in 859 (by decide +kernel)
theorem w_860 : (Cond.fieldLink "NightDitchModel" (223 : Nat) "NightDitchModel" "opened" "I") ∈ q_gw := q_gw_in 860 (by decide +kernel)
theorem w_861 : (Cond.fieldLink "NightDitchModel" (220 : Nat) "NightDitchModel" "at" "I") ∈ q_gw := q_gw_in 861 (by decide +kernel)
theorem w_862 : (Cond.fieldLink "NightDitchModel" (238 : Nat) "NightDitchModel" "isFault" "Z") ∈ q_gw := q_gw_in 862 (by decide +kernel)
theorem w_863 : (Cond.fieldLink "NightDitchModel" (45 : Nat) "NightDitchModel" "pile" "[I") ∈ q_gw := q_gw_in 863 (by decide +kernel)
theorem w_864 : (Cond.fieldLink "NightDitchModel" (48 : Nat) "NightDitchModel" "asItBegins" "[I") ∈ q_gw := q_gw_in 864 (by decide +kernel)
theorem w_865 : (Cond.fieldLink "NightDitchModel" (51 : Nat) "NightDitchModel" "widths" "[I") ∈ q_gw := q_gw_in 865 (by decide +kernel)
theorem w_866 : (Cond.fieldLink "NightDitchModel" (54 : Nat) "NightDitchModel" "sizes" "[I") ∈ q_gw := q_gw_in 866 (by decide +kernel)
theorem w_867 : (Cond.fieldLink "NightDitchModel" (57 : Nat) "NightDitchModel" "cells" "[J") ∈ q_gw := q_gw_in 867 (by decide +kernel)
theorem w_868 : (Cond.fieldLink "NightDitchModel" (60 : Nat) "NightDitchModel" "moved" "[J") ∈ q_gw := q_gw_in 868 (by decide +kernel)
theorem w_948 : (Cond.arrayClass FieldType.boolean) ∈ q_gw := q_gw_in 948 (by decide +kernel)
theorem w_949 : (Cond.methodLink "NightDitchLaw" (17 : Nat) ({ cls := "NightDitchModel", name := "farm", desc := "(III)I" } : MethodName)) ∈ q_gw := q_gw_in 949 (by decide +kernel)
theorem w_950 : (Cond.instanceMethod ({ cls := "NightDitchModel", name := "farm", desc := "(III)I" } : MethodName)) ∈ q_gw := q_gw_in 950 (by decide +kernel)
theorem w_951 : (Cond.selects "NightDitchModel" ({ cls := "NightDitchModel", name := "farm", desc := "(III)I" } : MethodName) ({ cls := "NightDitchModel", name := "farm", desc := "(III)I" } : MethodName)) ∈ q_gw := q_gw_in 951 (by decide +kernel)
theorem w_952 : (Cond.code ({ cls := "NightDitchModel", name := "farm", desc := "(III)I" } : MethodName) prog_10_method_8_code (6 : Nat) (Option.some FieldType.int)) ∈ q_gw := q_gw_in 952 (by decide +kernel)
theorem w_953 : (Cond.methodLink "NightDitchModel" (68 : Nat) ({ cls := "NightDitchModel", name := "in", desc := "(III)Z" } : MethodName)) ∈ q_gw := q_gw_in 953 (by decide +kernel)
theorem w_954 : (Cond.static ({ cls := "NightDitchModel", name := "in", desc := "(III)Z" } : MethodName)) ∈ q_gw := q_gw_in 954 (by decide +kernel)
theorem w_955 : (Cond.code ({ cls := "NightDitchModel", name := "in", desc := "(III)Z" } : MethodName) prog_10_method_3_code (3 : Nat) (Option.some FieldType.boolean)) ∈ q_gw := q_gw_in 955 (by decide +kernel)
theorem w_956 : (Cond.constant "NightDitchModel" (63 : Nat) (-1000000001 : Int32)) ∈ q_gw := q_gw_in 956 (by decide +kernel)
theorem w_957 : (Cond.methodLink "NightDitchModel" (72 : Nat) ({ cls := "NightDitchModel", name := "finds", desc := "(I)I" } : MethodName)) ∈ q_gw := q_gw_in 957 (by decide +kernel)
theorem w_959 : (Cond.instanceMethod ({ cls := "NightDitchModel", name := "finds", desc := "(I)I" } : MethodName)) ∈ q_gw := q_gw_in 959 (by decide +kernel)
theorem w_960 : (Cond.code ({ cls := "NightDitchModel", name := "finds", desc := "(I)I" } : MethodName) prog_10_method_2_code (2 : Nat) (Option.some FieldType.int)) ∈ q_gw := q_gw_in 960 (by decide +kernel)
theorem w_961 : (Cond.constant "NightDitchModel" (76 : Nat) (-1000000002 : Int32)) ∈ q_gw := q_gw_in 961 (by decide +kernel)
theorem w_962 : (Cond.methodLink "NightDitchModel" (77 : Nat) ({ cls := "NightDitchModel", name := "put", desc := "(III)V" } : MethodName)) ∈ q_gw := q_gw_in 962 (by decide +kernel)
theorem w_964 : (Cond.instanceMethod ({ cls := "NightDitchModel", name := "put", desc := "(III)V" } : MethodName)) ∈ q_gw := q_gw_in 964 (by decide +kernel)
theorem w_965 : (Cond.code ({ cls := "NightDitchModel", name := "put", desc := "(III)V" } : MethodName) prog_10_method_7_code (4 : Nat) (Option.none : Option FieldType)) ∈ q_gw := q_gw_in 965 (by decide +kernel)
theorem w_966 : (Cond.methodLink "NightDitchLaw" (21 : Nat) ({ cls := "NightDitchModel", name := "set", desc := "(III)I" } : MethodName)) ∈ q_gw := q_gw_in 966 (by decide +kernel)
theorem w_967 : (Cond.instanceMethod ({ cls := "NightDitchModel", name := "set", desc := "(III)I" } : MethodName)) ∈ q_gw := q_gw_in 967 (by decide +kernel)
theorem w_968 : (Cond.selects "NightDitchModel" ({ cls := "NightDitchModel", name := "set", desc := "(III)I" } : MethodName) ({ cls := "NightDitchModel", name := "set", desc := "(III)I" } : MethodName)) ∈ q_gw := q_gw_in 968 (by decide +kernel)
theorem w_969 : (Cond.code ({ cls := "NightDitchModel", name := "set", desc := "(III)I" } : MethodName) prog_10_method_9_code (5 : Nat) (Option.some FieldType.int)) ∈ q_gw := q_gw_in 969 (by decide +kernel)
theorem w_970 : (Cond.methodLink "NightDitchModel" (81 : Nat) ({ cls := "NightDitchModel", name := "isFarm", desc := "(I)Z" } : MethodName)) ∈ q_gw := q_gw_in 970 (by decide +kernel)
theorem w_972 : (Cond.instanceMethod ({ cls := "NightDitchModel", name := "isFarm", desc := "(I)Z" } : MethodName)) ∈ q_gw := q_gw_in 972 (by decide +kernel)
theorem w_973 : (Cond.code ({ cls := "NightDitchModel", name := "isFarm", desc := "(I)Z" } : MethodName) prog_10_method_5_code (2 : Nat) (Option.some FieldType.boolean)) ∈ q_gw := q_gw_in 973 (by decide +kernel)
theorem w_974 : (Cond.methodLink "NightDitchModel" (85 : Nat) ({ cls := "NightDitchModel", name := "get", desc := "(II)I" } : MethodName)) ∈ q_gw := q_gw_in 974 (by decide +kernel)
theorem w_976 : (Cond.instanceMethod ({ cls := "NightDitchModel", name := "get", desc := "(II)I" } : MethodName)) ∈ q_gw := q_gw_in 976 (by decide +kernel)
theorem w_977 : (Cond.code ({ cls := "NightDitchModel", name := "get", desc := "(II)I" } : MethodName) prog_10_method_6_code (3 : Nat) (Option.some FieldType.int)) ∈ q_gw := q_gw_in 977 (by decide +kernel)
theorem w_978 : (Cond.methodLink "NightDitchLaw" (26 : Nat) ({ cls := "NightDitchModel", name := "of", desc := "(II)I" } : MethodName)) ∈ q_gw := q_gw_in 978 (by decide +kernel)
theorem w_979 : (Cond.instanceMethod ({ cls := "NightDitchModel", name := "of", desc := "(II)I" } : MethodName)) ∈ q_gw := q_gw_in 979 (by decide +kernel)
theorem w_980 : (Cond.selects "NightDitchModel" ({ cls := "NightDitchModel", name := "of", desc := "(II)I" } : MethodName) ({ cls := "NightDitchModel", name := "of", desc := "(II)I" } : MethodName)) ∈ q_gw := q_gw_in 980 (by decide +kernel)
theorem w_981 : (Cond.code ({ cls := "NightDitchModel", name := "of", desc := "(II)I" } : MethodName) prog_10_method_14_code (4 : Nat) (Option.some FieldType.int)) ∈ q_gw := q_gw_in 981 (by decide +kernel)
theorem w_982 : (Cond.methodLink "NightDitchModel" (101 : Nat) ({ cls := "NightDitchModel", name := "placeOf", desc := "(I)I" } : MethodName)) ∈ q_gw := q_gw_in 982 (by decide +kernel)
theorem w_984 : (Cond.instanceMethod ({ cls := "NightDitchModel", name := "placeOf", desc := "(I)I" } : MethodName)) ∈ q_gw := q_gw_in 984 (by decide +kernel)
theorem w_985 : (Cond.code ({ cls := "NightDitchModel", name := "placeOf", desc := "(I)I" } : MethodName) prog_10_method_10_code (3 : Nat) (Option.some FieldType.int)) ∈ q_gw := q_gw_in 985 (by decide +kernel)
theorem w_986 : (Cond.methodLink "NightDitchModel" (104 : Nat) ({ cls := "NightDitchModel", name := "paysAt", desc := "(II)I" } : MethodName)) ∈ q_gw := q_gw_in 986 (by decide +kernel)
theorem w_988 : (Cond.instanceMethod ({ cls := "NightDitchModel", name := "paysAt", desc := "(II)I" } : MethodName)) ∈ q_gw := q_gw_in 988 (by decide +kernel)
theorem w_989 : (Cond.code ({ cls := "NightDitchModel", name := "paysAt", desc := "(II)I" } : MethodName) prog_10_method_11_code (5 : Nat) (Option.some FieldType.int)) ∈ q_gw := q_gw_in 989 (by decide +kernel)
theorem w_990 : (Cond.methodLink "NightDitchModel" (89 : Nat) ({ cls := "NightDitchModel", name := "says", desc := "(II)I" } : MethodName)) ∈ q_gw := q_gw_in 990 (by decide +kernel)
theorem w_992 : (Cond.instanceMethod ({ cls := "NightDitchModel", name := "says", desc := "(II)I" } : MethodName)) ∈ q_gw := q_gw_in 992 (by decide +kernel)
theorem w_993 : (Cond.code ({ cls := "NightDitchModel", name := "says", desc := "(II)I" } : MethodName) prog_10_method_59_code (6 : Nat) (Option.some FieldType.int)) ∈ q_gw := q_gw_in 993 (by decide +kernel)
theorem w_994 : (Cond.methodLink "NightDitchModel" (254 : Nat) ({ cls := "NightDitchModel", name := "factOf", desc := "(III)I" } : MethodName)) ∈ q_gw := q_gw_in 994 (by decide +kernel)
theorem w_996 : (Cond.instanceMethod ({ cls := "NightDitchModel", name := "factOf", desc := "(III)I" } : MethodName)) ∈ q_gw := q_gw_in 996 (by decide +kernel)
theorem w_997 : (Cond.code ({ cls := "NightDitchModel", name := "factOf", desc := "(III)I" } : MethodName) prog_10_method_57_code (4 : Nat) (Option.some FieldType.int)) ∈ q_gw := q_gw_in 997 (by decide +kernel)
theorem w_998 : (Cond.methodLink "NightDitchModel" (257 : Nat) ({ cls := "NightDitchModel", name := "done", desc := "(III)I" } : MethodName)) ∈ q_gw := q_gw_in 998 (by decide +kernel)
theorem w_999 : (Cond.static ({ cls := "NightDitchModel", name := "done", desc := "(III)I" } : MethodName)) ∈ q_gw := q_gw_in 999 (by decide +kernel)
theorem w_1000 : (Cond.code ({ cls := "NightDitchModel", name := "done", desc := "(III)I" } : MethodName) prog_10_method_58_code (3 : Nat) (Option.some FieldType.int)) ∈ q_gw := q_gw_in 1000 (by decide +kernel)
theorem w_1001 : (Cond.constantLong "NightDitchModel" (92 : Nat) (100 : Int64)) ∈ q_gw := q_gw_in 1001 (by decide +kernel)
theorem w_1002 : (Cond.constantLong "NightDitchModel" (94 : Nat) (99999 : Int64)) ∈ q_gw := q_gw_in 1002 (by decide +kernel)
theorem w_1003 : (Cond.constant "NightDitchModel" (96 : Nat) (99999 : Int32)) ∈ q_gw := q_gw_in 1003 (by decide +kernel)
theorem w_1004 : (Cond.methodLink "NightDitchModel" (107 : Nat) ({ cls := "NightDitchModel", name := "wantsBy", desc := "(II)I" } : MethodName)) ∈ q_gw := q_gw_in 1004 (by decide +kernel)
theorem w_1006 : (Cond.instanceMethod ({ cls := "NightDitchModel", name := "wantsBy", desc := "(II)I" } : MethodName)) ∈ q_gw := q_gw_in 1006 (by decide +kernel)
theorem w_1007 : (Cond.code ({ cls := "NightDitchModel", name := "wantsBy", desc := "(II)I" } : MethodName) prog_10_method_12_code (3 : Nat) (Option.some FieldType.int)) ∈ q_gw := q_gw_in 1007 (by decide +kernel)
theorem w_1008 : (Cond.methodLink "NightDitchModel" (97 : Nat) ({ cls := "NightDitchModel", name := "within", desc := "(III)I" } : MethodName)) ∈ q_gw := q_gw_in 1008 (by decide +kernel)
theorem w_1009 : (Cond.static ({ cls := "NightDitchModel", name := "within", desc := "(III)I" } : MethodName)) ∈ q_gw := q_gw_in 1009 (by decide +kernel)
theorem w_1010 : (Cond.code ({ cls := "NightDitchModel", name := "within", desc := "(III)I" } : MethodName) prog_10_method_4_code (3 : Nat) (Option.some FieldType.int)) ∈ q_gw := q_gw_in 1010 (by decide +kernel)
theorem w_1011 : (Cond.methodLink "NightDitchModel" (110 : Nat) ({ cls := "NightDitchModel", name := "minds", desc := "(I)I" } : MethodName)) ∈ q_gw := q_gw_in 1011 (by decide +kernel)
theorem w_1013 : (Cond.instanceMethod ({ cls := "NightDitchModel", name := "minds", desc := "(I)I" } : MethodName)) ∈ q_gw := q_gw_in 1013 (by decide +kernel)
theorem w_1014 : (Cond.code ({ cls := "NightDitchModel", name := "minds", desc := "(I)I" } : MethodName) prog_10_method_13_code (4 : Nat) (Option.some FieldType.int)) ∈ q_gw := q_gw_in 1014 (by decide +kernel)
theorem w_1015 : (Cond.methodLink "NightDitchLaw" (30 : Nat) ({ cls := "NightDitchModel", name := "as", desc := "(II)I" } : MethodName)) ∈ q_gw := q_gw_in 1015 (by decide +kernel)
theorem w_1016 : (Cond.instanceMethod ({ cls := "NightDitchModel", name := "as", desc := "(II)I" } : MethodName)) ∈ q_gw := q_gw_in 1016 (by decide +kernel)
theorem w_1017 : (Cond.selects "NightDitchModel" ({ cls := "NightDitchModel", name := "as", desc := "(II)I" } : MethodName) ({ cls := "NightDitchModel", name := "as", desc := "(II)I" } : MethodName)) ∈ q_gw := q_gw_in 1017 (by decide +kernel)
theorem w_1018 : (Cond.code ({ cls := "NightDitchModel", name := "as", desc := "(II)I" } : MethodName) prog_10_method_16_code (3 : Nat) (Option.some FieldType.int)) ∈ q_gw := q_gw_in 1018 (by decide +kernel)
theorem w_1019 : (Cond.methodLink "NightDitchModel" (113 : Nat) ({ cls := "NightDitchModel", name := "isUnder", desc := "(II)Z" } : MethodName)) ∈ q_gw := q_gw_in 1019 (by decide +kernel)
theorem w_1020 : (Cond.static ({ cls := "NightDitchModel", name := "isUnder", desc := "(II)Z" } : MethodName)) ∈ q_gw := q_gw_in 1020 (by decide +kernel)
theorem w_1021 : (Cond.code ({ cls := "NightDitchModel", name := "isUnder", desc := "(II)Z" } : MethodName) prog_10_method_15_code (2 : Nat) (Option.some FieldType.boolean)) ∈ q_gw := q_gw_in 1021 (by decide +kernel)
theorem w_1022 : (Cond.constant "NightDitchModel" (117 : Nat) (-1000000003 : Int32)) ∈ q_gw := q_gw_in 1022 (by decide +kernel)
theorem w_1023 : (Cond.methodLink "NightDitchLaw" (34 : Nat) ({ cls := "NightDitchModel", name := "rule", desc := "(II)I" } : MethodName)) ∈ q_gw := q_gw_in 1023 (by decide +kernel)
theorem w_1024 : (Cond.instanceMethod ({ cls := "NightDitchModel", name := "rule", desc := "(II)I" } : MethodName)) ∈ q_gw := q_gw_in 1024 (by decide +kernel)
theorem w_1025 : (Cond.selects "NightDitchModel" ({ cls := "NightDitchModel", name := "rule", desc := "(II)I" } : MethodName) ({ cls := "NightDitchModel", name := "rule", desc := "(II)I" } : MethodName)) ∈ q_gw := q_gw_in 1025 (by decide +kernel)
theorem w_1026 : (Cond.code ({ cls := "NightDitchModel", name := "rule", desc := "(II)I" } : MethodName) prog_10_method_17_code (4 : Nat) (Option.some FieldType.int)) ∈ q_gw := q_gw_in 1026 (by decide +kernel)
theorem w_1027 : (Cond.methodLink "NightDitchLaw" (39 : Nat) ({ cls := "NightDitchModel", name := "dry", desc := "(I)I" } : MethodName)) ∈ q_gw := q_gw_in 1027 (by decide +kernel)
theorem w_1028 : (Cond.instanceMethod ({ cls := "NightDitchModel", name := "dry", desc := "(I)I" } : MethodName)) ∈ q_gw := q_gw_in 1028 (by decide +kernel)
theorem w_1029 : (Cond.selects "NightDitchModel" ({ cls := "NightDitchModel", name := "dry", desc := "(I)I" } : MethodName) ({ cls := "NightDitchModel", name := "dry", desc := "(I)I" } : MethodName)) ∈ q_gw := q_gw_in 1029 (by decide +kernel)
theorem w_1030 : (Cond.code ({ cls := "NightDitchModel", name := "dry", desc := "(I)I" } : MethodName) prog_10_method_18_code (3 : Nat) (Option.some FieldType.int)) ∈ q_gw := q_gw_in 1030 (by decide +kernel)
theorem w_1031 : (Cond.methodLink "NightDitchLaw" (44 : Nat) ({ cls := "NightDitchModel", name := "year", desc := "()I" } : MethodName)) ∈ q_gw := q_gw_in 1031 (by decide +kernel)
theorem w_1032 : (Cond.instanceMethod ({ cls := "NightDitchModel", name := "year", desc := "()I" } : MethodName)) ∈ q_gw := q_gw_in 1032 (by decide +kernel)
theorem w_1033 : (Cond.selects "NightDitchModel" ({ cls := "NightDitchModel", name := "year", desc := "()I" } : MethodName) ({ cls := "NightDitchModel", name := "year", desc := "()I" } : MethodName)) ∈ q_gw := q_gw_in 1033 (by decide +kernel)
theorem w_1034 : (Cond.code ({ cls := "NightDitchModel", name := "year", desc := "()I" } : MethodName) prog_10_method_19_code (2 : Nat) (Option.some FieldType.int)) ∈ q_gw := q_gw_in 1034 (by decide +kernel)
theorem w_1035 : (Cond.constant "NightDitchModel" (118 : Nat) (-1000000005 : Int32)) ∈ q_gw := q_gw_in 1035 (by decide +kernel)
theorem w_1036 : (Cond.methodLink "NightDitchLaw" (48 : Nat) ({ cls := "NightDitchModel", name := "turn", desc := "(I)I" } : MethodName)) ∈ q_gw := q_gw_in 1036 (by decide +kernel)
theorem w_1037 : (Cond.instanceMethod ({ cls := "NightDitchModel", name := "turn", desc := "(I)I" } : MethodName)) ∈ q_gw := q_gw_in 1037 (by decide +kernel)
theorem w_1038 : (Cond.selects "NightDitchModel" ({ cls := "NightDitchModel", name := "turn", desc := "(I)I" } : MethodName) ({ cls := "NightDitchModel", name := "turn", desc := "(I)I" } : MethodName)) ∈ q_gw := q_gw_in 1038 (by decide +kernel)
theorem w_1039 : (Cond.code ({ cls := "NightDitchModel", name := "turn", desc := "(I)I" } : MethodName) prog_10_method_20_code (2 : Nat) (Option.some FieldType.int)) ∈ q_gw := q_gw_in 1039 (by decide +kernel)
theorem w_1040 : (Cond.methodLink "NightDitchLaw" (52 : Nat) ({ cls := "NightDitchModel", name := "swap", desc := "(II)I" } : MethodName)) ∈ q_gw := q_gw_in 1040 (by decide +kernel)
theorem w_1041 : (Cond.instanceMethod ({ cls := "NightDitchModel", name := "swap", desc := "(II)I" } : MethodName)) ∈ q_gw := q_gw_in 1041 (by decide +kernel)
theorem w_1042 : (Cond.selects "NightDitchModel" ({ cls := "NightDitchModel", name := "swap", desc := "(II)I" } : MethodName) ({ cls := "NightDitchModel", name := "swap", desc := "(II)I" } : MethodName)) ∈ q_gw := q_gw_in 1042 (by decide +kernel)
theorem w_1043 : (Cond.code ({ cls := "NightDitchModel", name := "swap", desc := "(II)I" } : MethodName) prog_10_method_21_code (4 : Nat) (Option.some FieldType.int)) ∈ q_gw := q_gw_in 1043 (by decide +kernel)
theorem w_1044 : (Cond.methodLink "NightDitchLaw" (56 : Nat) ({ cls := "NightDitchModel", name := "turns", desc := "(I)I" } : MethodName)) ∈ q_gw := q_gw_in 1044 (by decide +kernel)
theorem w_1045 : (Cond.instanceMethod ({ cls := "NightDitchModel", name := "turns", desc := "(I)I" } : MethodName)) ∈ q_gw := q_gw_in 1045 (by decide +kernel)
theorem w_1046 : (Cond.selects "NightDitchModel" ({ cls := "NightDitchModel", name := "turns", desc := "(I)I" } : MethodName) ({ cls := "NightDitchModel", name := "turns", desc := "(I)I" } : MethodName)) ∈ q_gw := q_gw_in 1046 (by decide +kernel)
theorem w_1047 : (Cond.code ({ cls := "NightDitchModel", name := "turns", desc := "(I)I" } : MethodName) prog_10_method_22_code (5 : Nat) (Option.some FieldType.int)) ∈ q_gw := q_gw_in 1047 (by decide +kernel)
theorem w_1048 : (Cond.methodLink "NightDitchLaw" (60 : Nat) ({ cls := "NightDitchModel", name := "told", desc := "()I" } : MethodName)) ∈ q_gw := q_gw_in 1048 (by decide +kernel)
theorem w_1049 : (Cond.instanceMethod ({ cls := "NightDitchModel", name := "told", desc := "()I" } : MethodName)) ∈ q_gw := q_gw_in 1049 (by decide +kernel)
theorem w_1050 : (Cond.selects "NightDitchModel" ({ cls := "NightDitchModel", name := "told", desc := "()I" } : MethodName) ({ cls := "NightDitchModel", name := "told", desc := "()I" } : MethodName)) ∈ q_gw := q_gw_in 1050 (by decide +kernel)
theorem w_1051 : (Cond.code ({ cls := "NightDitchModel", name := "told", desc := "()I" } : MethodName) prog_10_method_23_code (3 : Nat) (Option.some FieldType.int)) ∈ q_gw := q_gw_in 1051 (by decide +kernel)
theorem w_1052 : (Cond.constant "NightDitchModel" (119 : Nat) (-1000000004 : Int32)) ∈ q_gw := q_gw_in 1052 (by decide +kernel)
theorem w_1053 : (Cond.methodLink "NightDitchLaw" (65 : Nat) ({ cls := "NightDitchModel", name := "best", desc := "(I)J" } : MethodName)) ∈ q_gw := q_gw_in 1053 (by decide +kernel)
theorem w_1054 : (Cond.instanceMethod ({ cls := "NightDitchModel", name := "best", desc := "(I)J" } : MethodName)) ∈ q_gw := q_gw_in 1054 (by decide +kernel)
theorem w_1055 : (Cond.selects "NightDitchModel" ({ cls := "NightDitchModel", name := "best", desc := "(I)J" } : MethodName) ({ cls := "NightDitchModel", name := "best", desc := "(I)J" } : MethodName)) ∈ q_gw := q_gw_in 1055 (by decide +kernel)
theorem w_1056 : (Cond.code ({ cls := "NightDitchModel", name := "best", desc := "(I)J" } : MethodName) prog_10_method_33_code (2 : Nat) (Option.some FieldType.long)) ∈ q_gw := q_gw_in 1056 (by decide +kernel)
theorem w_1057 : (Cond.methodLink "NightDitchModel" (193 : Nat) ({ cls := "NightDitchModel", name := "findBest", desc := "()V" } : MethodName)) ∈ q_gw := q_gw_in 1057 (by decide +kernel)
theorem w_1059 : (Cond.instanceMethod ({ cls := "NightDitchModel", name := "findBest", desc := "()V" } : MethodName)) ∈ q_gw := q_gw_in 1059 (by decide +kernel)
theorem w_1060 : (Cond.code ({ cls := "NightDitchModel", name := "findBest", desc := "()V" } : MethodName) prog_10_method_32_code (3 : Nat) (Option.none : Option FieldType)) ∈ q_gw := q_gw_in 1060 (by decide +kernel)
theorem w_1061 : (Cond.methodLink "NightDitchModel" (185 : Nat) ({ cls := "NightDitchModel", name := "findLost", desc := "()V" } : MethodName)) ∈ q_gw := q_gw_in 1061 (by decide +kernel)
theorem w_1063 : (Cond.instanceMethod ({ cls := "NightDitchModel", name := "findLost", desc := "()V" } : MethodName)) ∈ q_gw := q_gw_in 1063 (by decide +kernel)
theorem w_1064 : (Cond.code ({ cls := "NightDitchModel", name := "findLost", desc := "()V" } : MethodName) prog_10_method_30_code (6 : Nat) (Option.none : Option FieldType)) ∈ q_gw := q_gw_in 1064 (by decide +kernel)
theorem w_1065 : (Cond.methodLink "NightDitchModel" (164 : Nat) ({ cls := "NightDitchModel", name := "findRest", desc := "(III)V" } : MethodName)) ∈ q_gw := q_gw_in 1065 (by decide +kernel)
theorem w_1067 : (Cond.instanceMethod ({ cls := "NightDitchModel", name := "findRest", desc := "(III)V" } : MethodName)) ∈ q_gw := q_gw_in 1067 (by decide +kernel)
theorem w_1068 : (Cond.code ({ cls := "NightDitchModel", name := "findRest", desc := "(III)V" } : MethodName) prog_10_method_25_code (11 : Nat) (Option.none : Option FieldType)) ∈ q_gw := q_gw_in 1068 (by decide +kernel)
theorem w_1069 : (Cond.methodLink "NightDitchModel" (147 : Nat) ({ cls := "NightDitchModel", name := "divisor", desc := "(II)I" } : MethodName)) ∈ q_gw := q_gw_in 1069 (by decide +kernel)
theorem w_1070 : (Cond.static ({ cls := "NightDitchModel", name := "divisor", desc := "(II)I" } : MethodName)) ∈ q_gw := q_gw_in 1070 (by decide +kernel)
theorem w_1071 : (Cond.code ({ cls := "NightDitchModel", name := "divisor", desc := "(II)I" } : MethodName) prog_10_method_24_code (5 : Nat) (Option.some FieldType.int)) ∈ q_gw := q_gw_in 1071 (by decide +kernel)
theorem w_1072 : (Cond.constantLong "NightDitchModel" (150 : Nat) (1000000 : Int64)) ∈ q_gw := q_gw_in 1072 (by decide +kernel)
theorem w_1073 : (Cond.constantLong "NightDitchModel" (159 : Nat) (100000000 : Int64)) ∈ q_gw := q_gw_in 1073 (by decide +kernel)
theorem w_1074 : (Cond.methodLink "NightDitchModel" (175 : Nat) ({ cls := "NightDitchModel", name := "lostThere", desc := "()J" } : MethodName)) ∈ q_gw := q_gw_in 1074 (by decide +kernel)
theorem w_1076 : (Cond.instanceMethod ({ cls := "NightDitchModel", name := "lostThere", desc := "()J" } : MethodName)) ∈ q_gw := q_gw_in 1076 (by decide +kernel)
theorem w_1077 : (Cond.code ({ cls := "NightDitchModel", name := "lostThere", desc := "()J" } : MethodName) prog_10_method_27_code (1 : Nat) (Option.some FieldType.long)) ∈ q_gw := q_gw_in 1077 (by decide +kernel)
theorem w_1078 : (Cond.constantLong "NightDitchModel" (188 : Nat) (-1 : Int64)) ∈ q_gw := q_gw_in 1078 (by decide +kernel)
theorem w_1079 : (Cond.methodLink "NightDitchModel" (190 : Nat) ({ cls := "NightDitchModel", name := "tryRow", desc := "()V" } : MethodName)) ∈ q_gw := q_gw_in 1079 (by decide +kernel)
theorem w_1081 : (Cond.instanceMethod ({ cls := "NightDitchModel", name := "tryRow", desc := "()V" } : MethodName)) ∈ q_gw := q_gw_in 1081 (by decide +kernel)
theorem w_1082 : (Cond.code ({ cls := "NightDitchModel", name := "tryRow", desc := "()V" } : MethodName) prog_10_method_31_code (6 : Nat) (Option.none : Option FieldType)) ∈ q_gw := q_gw_in 1082 (by decide +kernel)
theorem w_1083 : (Cond.methodLink "NightDitchLaw" (69 : Nat) ({ cls := "NightDitchModel", name := "share", desc := "(I)I" } : MethodName)) ∈ q_gw := q_gw_in 1083 (by decide +kernel)
theorem w_1084 : (Cond.instanceMethod ({ cls := "NightDitchModel", name := "share", desc := "(I)I" } : MethodName)) ∈ q_gw := q_gw_in 1084 (by decide +kernel)
theorem w_1085 : (Cond.selects "NightDitchModel" ({ cls := "NightDitchModel", name := "share", desc := "(I)I" } : MethodName) ({ cls := "NightDitchModel", name := "share", desc := "(I)I" } : MethodName)) ∈ q_gw := q_gw_in 1085 (by decide +kernel)
theorem w_1086 : (Cond.code ({ cls := "NightDitchModel", name := "share", desc := "(I)I" } : MethodName) prog_10_method_35_code (2 : Nat) (Option.some FieldType.int)) ∈ q_gw := q_gw_in 1086 (by decide +kernel)
theorem w_1087 : (Cond.methodLink "NightDitchModel" (196 : Nat) ({ cls := "NightDitchModel", name := "hoursAll", desc := "()I" } : MethodName)) ∈ q_gw := q_gw_in 1087 (by decide +kernel)
theorem w_1089 : (Cond.instanceMethod ({ cls := "NightDitchModel", name := "hoursAll", desc := "()I" } : MethodName)) ∈ q_gw := q_gw_in 1089 (by decide +kernel)
theorem w_1090 : (Cond.code ({ cls := "NightDitchModel", name := "hoursAll", desc := "()I" } : MethodName) prog_10_method_34_code (3 : Nat) (Option.some FieldType.int)) ∈ q_gw := q_gw_in 1090 (by decide +kernel)
theorem w_1091 : (Cond.methodLink "NightDitchLaw" (73 : Nat) ({ cls := "NightDitchModel", name := "rest", desc := "(II)I" } : MethodName)) ∈ q_gw := q_gw_in 1091 (by decide +kernel)
theorem w_1092 : (Cond.instanceMethod ({ cls := "NightDitchModel", name := "rest", desc := "(II)I" } : MethodName)) ∈ q_gw := q_gw_in 1092 (by decide +kernel)
theorem w_1093 : (Cond.selects "NightDitchModel" ({ cls := "NightDitchModel", name := "rest", desc := "(II)I" } : MethodName) ({ cls := "NightDitchModel", name := "rest", desc := "(II)I" } : MethodName)) ∈ q_gw := q_gw_in 1093 (by decide +kernel)
theorem w_1094 : (Cond.code ({ cls := "NightDitchModel", name := "rest", desc := "(II)I" } : MethodName) prog_10_method_36_code (3 : Nat) (Option.some FieldType.int)) ∈ q_gw := q_gw_in 1094 (by decide +kernel)
theorem w_1095 : (Cond.methodLink "NightDitchModel" (167 : Nat) ({ cls := "NightDitchModel", name := "meets", desc := "()I" } : MethodName)) ∈ q_gw := q_gw_in 1095 (by decide +kernel)
theorem w_1097 : (Cond.instanceMethod ({ cls := "NightDitchModel", name := "meets", desc := "()I" } : MethodName)) ∈ q_gw := q_gw_in 1097 (by decide +kernel)
theorem w_1098 : (Cond.code ({ cls := "NightDitchModel", name := "meets", desc := "()I" } : MethodName) prog_10_method_28_code (1 : Nat) (Option.some FieldType.int)) ∈ q_gw := q_gw_in 1098 (by decide +kernel)
theorem w_1099 : (Cond.methodLink "NightDitchModel" (171 : Nat) ({ cls := "NightDitchModel", name := "findMeet", desc := "(I)V" } : MethodName)) ∈ q_gw := q_gw_in 1099 (by decide +kernel)
theorem w_1101 : (Cond.instanceMethod ({ cls := "NightDitchModel", name := "findMeet", desc := "(I)V" } : MethodName)) ∈ q_gw := q_gw_in 1101 (by decide +kernel)
theorem w_1102 : (Cond.code ({ cls := "NightDitchModel", name := "findMeet", desc := "(I)V" } : MethodName) prog_10_method_26_code (3 : Nat) (Option.none : Option FieldType)) ∈ q_gw := q_gw_in 1102 (by decide +kernel)
theorem w_1103 : (Cond.methodLink "NightDitchLaw" (77 : Nat) ({ cls := "NightDitchModel", name := "lost", desc := "(I)J" } : MethodName)) ∈ q_gw := q_gw_in 1103 (by decide +kernel)
theorem w_1104 : (Cond.instanceMethod ({ cls := "NightDitchModel", name := "lost", desc := "(I)J" } : MethodName)) ∈ q_gw := q_gw_in 1104 (by decide +kernel)
theorem w_1105 : (Cond.selects "NightDitchModel" ({ cls := "NightDitchModel", name := "lost", desc := "(I)J" } : MethodName) ({ cls := "NightDitchModel", name := "lost", desc := "(I)J" } : MethodName)) ∈ q_gw := q_gw_in 1105 (by decide +kernel)
theorem w_1106 : (Cond.code ({ cls := "NightDitchModel", name := "lost", desc := "(I)J" } : MethodName) prog_10_method_37_code (2 : Nat) (Option.some FieldType.long)) ∈ q_gw := q_gw_in 1106 (by decide +kernel)
theorem w_1107 : (Cond.methodLink "NightDitchModel" (199 : Nat) ({ cls := "NightDitchModel", name := "lostAll", desc := "()J" } : MethodName)) ∈ q_gw := q_gw_in 1107 (by decide +kernel)
theorem w_1109 : (Cond.instanceMethod ({ cls := "NightDitchModel", name := "lostAll", desc := "()J" } : MethodName)) ∈ q_gw := q_gw_in 1109 (by decide +kernel)
theorem w_1110 : (Cond.code ({ cls := "NightDitchModel", name := "lostAll", desc := "()J" } : MethodName) prog_10_method_29_code (4 : Nat) (Option.some FieldType.long)) ∈ q_gw := q_gw_in 1110 (by decide +kernel)
theorem w_1111 : (Cond.methodLink "NightDitchLaw" (81 : Nat) ({ cls := "NightDitchModel", name := "least", desc := "(I)I" } : MethodName)) ∈ q_gw := q_gw_in 1111 (by decide +kernel)
theorem w_1112 : (Cond.instanceMethod ({ cls := "NightDitchModel", name := "least", desc := "(I)I" } : MethodName)) ∈ q_gw := q_gw_in 1112 (by decide +kernel)
theorem w_1113 : (Cond.selects "NightDitchModel" ({ cls := "NightDitchModel", name := "least", desc := "(I)I" } : MethodName) ({ cls := "NightDitchModel", name := "least", desc := "(I)I" } : MethodName)) ∈ q_gw := q_gw_in 1113 (by decide +kernel)
theorem w_1114 : (Cond.code ({ cls := "NightDitchModel", name := "least", desc := "(I)I" } : MethodName) prog_10_method_39_code (7 : Nat) (Option.some FieldType.int)) ∈ q_gw := q_gw_in 1114 (by decide +kernel)
theorem w_1115 : (Cond.constant "NightDitchModel" (202 : Nat) (1000000 : Int32)) ∈ q_gw := q_gw_in 1115 (by decide +kernel)
theorem w_1116 : (Cond.methodLink "NightDitchModel" (203 : Nat) ({ cls := "NightDitchModel", name := "mostTaking", desc := "()J" } : MethodName)) ∈ q_gw := q_gw_in 1116 (by decide +kernel)
theorem w_1118 : (Cond.instanceMethod ({ cls := "NightDitchModel", name := "mostTaking", desc := "()J" } : MethodName)) ∈ q_gw := q_gw_in 1118 (by decide +kernel)
theorem w_1119 : (Cond.code ({ cls := "NightDitchModel", name := "mostTaking", desc := "()J" } : MethodName) prog_10_method_38_code (4 : Nat) (Option.some FieldType.long)) ∈ q_gw := q_gw_in 1119 (by decide +kernel)
theorem w_1120 : (Cond.methodLink "NightDitchLaw" (85 : Nat) ({ cls := "NightDitchModel", name := "hire", desc := "(I)J" } : MethodName)) ∈ q_gw := q_gw_in 1120 (by decide +kernel)
theorem w_1121 : (Cond.instanceMethod ({ cls := "NightDitchModel", name := "hire", desc := "(I)J" } : MethodName)) ∈ q_gw := q_gw_in 1121 (by decide +kernel)
theorem w_1122 : (Cond.selects "NightDitchModel" ({ cls := "NightDitchModel", name := "hire", desc := "(I)J" } : MethodName) ({ cls := "NightDitchModel", name := "hire", desc := "(I)J" } : MethodName)) ∈ q_gw := q_gw_in 1122 (by decide +kernel)
theorem w_1123 : (Cond.code ({ cls := "NightDitchModel", name := "hire", desc := "(I)J" } : MethodName) prog_10_method_40_code (6 : Nat) (Option.some FieldType.long)) ∈ q_gw := q_gw_in 1123 (by decide +kernel)
theorem w_1124 : (Cond.methodLink "NightDitchLaw" (89 : Nat) ({ cls := "NightDitchModel", name := "breaks", desc := "(I)I" } : MethodName)) ∈ q_gw := q_gw_in 1124 (by decide +kernel)
theorem w_1125 : (Cond.instanceMethod ({ cls := "NightDitchModel", name := "breaks", desc := "(I)I" } : MethodName)) ∈ q_gw := q_gw_in 1125 (by decide +kernel)
theorem w_1126 : (Cond.selects "NightDitchModel" ({ cls := "NightDitchModel", name := "breaks", desc := "(I)I" } : MethodName) ({ cls := "NightDitchModel", name := "breaks", desc := "(I)I" } : MethodName)) ∈ q_gw := q_gw_in 1126 (by decide +kernel)
theorem w_1127 : (Cond.code ({ cls := "NightDitchModel", name := "breaks", desc := "(I)I" } : MethodName) prog_10_method_41_code (5 : Nat) (Option.some FieldType.int)) ∈ q_gw := q_gw_in 1127 (by decide +kernel)
theorem w_1128 : (Cond.methodLink "NightDitchLaw" (93 : Nat) ({ cls := "NightDitchModel", name := "blame", desc := "(I)I" } : MethodName)) ∈ q_gw := q_gw_in 1128 (by decide +kernel)
theorem w_1129 : (Cond.instanceMethod ({ cls := "NightDitchModel", name := "blame", desc := "(I)I" } : MethodName)) ∈ q_gw := q_gw_in 1129 (by decide +kernel)
theorem w_1130 : (Cond.selects "NightDitchModel" ({ cls := "NightDitchModel", name := "blame", desc := "(I)I" } : MethodName) ({ cls := "NightDitchModel", name := "blame", desc := "(I)I" } : MethodName)) ∈ q_gw := q_gw_in 1130 (by decide +kernel)
theorem w_1131 : (Cond.code ({ cls := "NightDitchModel", name := "blame", desc := "(I)I" } : MethodName) prog_10_method_42_code (4 : Nat) (Option.some FieldType.int)) ∈ q_gw := q_gw_in 1131 (by decide +kernel)
theorem w_1132 : (Cond.constantLong "NightDitchModel" (206 : Nat) (10000 : Int64)) ∈ q_gw := q_gw_in 1132 (by decide +kernel)
theorem w_1133 : (Cond.methodLink "NightDitchLaw" (97 : Nat) ({ cls := "NightDitchModel", name := "always", desc := "()I" } : MethodName)) ∈ q_gw := q_gw_in 1133 (by decide +kernel)
theorem w_1134 : (Cond.instanceMethod ({ cls := "NightDitchModel", name := "always", desc := "()I" } : MethodName)) ∈ q_gw := q_gw_in 1134 (by decide +kernel)
theorem w_1135 : (Cond.selects "NightDitchModel" ({ cls := "NightDitchModel", name := "always", desc := "()I" } : MethodName) ({ cls := "NightDitchModel", name := "always", desc := "()I" } : MethodName)) ∈ q_gw := q_gw_in 1135 (by decide +kernel)
theorem w_1136 : (Cond.code ({ cls := "NightDitchModel", name := "always", desc := "()I" } : MethodName) prog_10_method_43_code (3 : Nat) (Option.some FieldType.int)) ∈ q_gw := q_gw_in 1136 (by decide +kernel)
theorem w_1137 : (Cond.methodLink "NightDitchLaw" (101 : Nat) ({ cls := "NightDitchModel", name := "feed", desc := "(II)I" } : MethodName)) ∈ q_gw := q_gw_in 1137 (by decide +kernel)
theorem w_1138 : (Cond.instanceMethod ({ cls := "NightDitchModel", name := "feed", desc := "(II)I" } : MethodName)) ∈ q_gw := q_gw_in 1138 (by decide +kernel)
theorem w_1139 : (Cond.selects "NightDitchModel" ({ cls := "NightDitchModel", name := "feed", desc := "(II)I" } : MethodName) ({ cls := "NightDitchModel", name := "feed", desc := "(II)I" } : MethodName)) ∈ q_gw := q_gw_in 1139 (by decide +kernel)
theorem w_1140 : (Cond.code ({ cls := "NightDitchModel", name := "feed", desc := "(II)I" } : MethodName) prog_10_method_44_code (4 : Nat) (Option.some FieldType.int)) ∈ q_gw := q_gw_in 1140 (by decide +kernel)
theorem w_1141 : (Cond.methodLink "NightDitchLaw" (105 : Nat) ({ cls := "NightDitchModel", name := "wipe", desc := "()I" } : MethodName)) ∈ q_gw := q_gw_in 1141 (by decide +kernel)
theorem w_1142 : (Cond.instanceMethod ({ cls := "NightDitchModel", name := "wipe", desc := "()I" } : MethodName)) ∈ q_gw := q_gw_in 1142 (by decide +kernel)
theorem w_1143 : (Cond.selects "NightDitchModel" ({ cls := "NightDitchModel", name := "wipe", desc := "()I" } : MethodName) ({ cls := "NightDitchModel", name := "wipe", desc := "()I" } : MethodName)) ∈ q_gw := q_gw_in 1143 (by decide +kernel)
theorem w_1144 : (Cond.code ({ cls := "NightDitchModel", name := "wipe", desc := "()I" } : MethodName) prog_10_method_45_code (2 : Nat) (Option.some FieldType.int)) ∈ q_gw := q_gw_in 1144 (by decide +kernel)
theorem w_1145 : (Cond.methodLink "NightDitchLaw" (109 : Nat) ({ cls := "NightDitchModel", name := "text", desc := "()I" } : MethodName)) ∈ q_gw := q_gw_in 1145 (by decide +kernel)
theorem w_1146 : (Cond.instanceMethod ({ cls := "NightDitchModel", name := "text", desc := "()I" } : MethodName)) ∈ q_gw := q_gw_in 1146 (by decide +kernel)
theorem w_1147 : (Cond.selects "NightDitchModel" ({ cls := "NightDitchModel", name := "text", desc := "()I" } : MethodName) ({ cls := "NightDitchModel", name := "text", desc := "()I" } : MethodName)) ∈ q_gw := q_gw_in 1147 (by decide +kernel)
theorem w_1148 : (Cond.code ({ cls := "NightDitchModel", name := "text", desc := "()I" } : MethodName) prog_10_method_55_code (3 : Nat) (Option.some FieldType.int)) ∈ q_gw := q_gw_in 1148 (by decide +kernel)
theorem w_1149 : (Cond.methodLink "NightDitchModel" (248 : Nat) ({ cls := "NightDitchModel", name := "operand", desc := "()Z" } : MethodName)) ∈ q_gw := q_gw_in 1149 (by decide +kernel)
theorem w_1151 : (Cond.instanceMethod ({ cls := "NightDitchModel", name := "operand", desc := "()Z" } : MethodName)) ∈ q_gw := q_gw_in 1151 (by decide +kernel)
theorem w_1152 : (Cond.code ({ cls := "NightDitchModel", name := "operand", desc := "()Z" } : MethodName) prog_10_method_52_code (4 : Nat) (Option.some FieldType.boolean)) ∈ q_gw := q_gw_in 1152 (by decide +kernel)
theorem w_1153 : (Cond.methodLink "NightDitchModel" (226 : Nat) ({ cls := "NightDitchModel", name := "isDigit", desc := "(I)Z" } : MethodName)) ∈ q_gw := q_gw_in 1153 (by decide +kernel)
theorem w_1154 : (Cond.static ({ cls := "NightDitchModel", name := "isDigit", desc := "(I)Z" } : MethodName)) ∈ q_gw := q_gw_in 1154 (by decide +kernel)
theorem w_1155 : (Cond.code ({ cls := "NightDitchModel", name := "isDigit", desc := "(I)Z" } : MethodName) prog_10_method_50_code (1 : Nat) (Option.some FieldType.boolean)) ∈ q_gw := q_gw_in 1155 (by decide +kernel)
theorem w_1156 : (Cond.methodLink "NightDitchModel" (217 : Nat) ({ cls := "NightDitchModel", name := "emit", desc := "(I)V" } : MethodName)) ∈ q_gw := q_gw_in 1156 (by decide +kernel)
theorem w_1158 : (Cond.instanceMethod ({ cls := "NightDitchModel", name := "emit", desc := "(I)V" } : MethodName)) ∈ q_gw := q_gw_in 1158 (by decide +kernel)
theorem w_1159 : (Cond.code ({ cls := "NightDitchModel", name := "emit", desc := "(I)V" } : MethodName) prog_10_method_46_code (2 : Nat) (Option.none : Option FieldType)) ∈ q_gw := q_gw_in 1159 (by decide +kernel)
theorem w_1160 : (Cond.methodLink "NightDitchModel" (229 : Nat) ({ cls := "NightDitchModel", name := "ends", desc := "()Z" } : MethodName)) ∈ q_gw := q_gw_in 1160 (by decide +kernel)
theorem w_1162 : (Cond.instanceMethod ({ cls := "NightDitchModel", name := "ends", desc := "()Z" } : MethodName)) ∈ q_gw := q_gw_in 1162 (by decide +kernel)
theorem w_1163 : (Cond.code ({ cls := "NightDitchModel", name := "ends", desc := "()Z" } : MethodName) prog_10_method_51_code (1 : Nat) (Option.some FieldType.boolean)) ∈ q_gw := q_gw_in 1163 (by decide +kernel)
theorem w_1164 : (Cond.methodLink "NightDitchModel" (233 : Nat) ({ cls := "NightDitchModel", name := "nameOf", desc := "(I)I" } : MethodName)) ∈ q_gw := q_gw_in 1164 (by decide +kernel)
theorem w_1165 : (Cond.static ({ cls := "NightDitchModel", name := "nameOf", desc := "(I)I" } : MethodName)) ∈ q_gw := q_gw_in 1165 (by decide +kernel)
theorem w_1166 : (Cond.code ({ cls := "NightDitchModel", name := "nameOf", desc := "(I)I" } : MethodName) prog_10_method_49_code (1 : Nat) (Option.some FieldType.int)) ∈ q_gw := q_gw_in 1166 (by decide +kernel)
theorem w_1167 : (Cond.methodLink "NightDitchModel" (236 : Nat) ({ cls := "NightDitchModel", name := "waits", desc := "(I)V" } : MethodName)) ∈ q_gw := q_gw_in 1167 (by decide +kernel)
theorem w_1169 : (Cond.instanceMethod ({ cls := "NightDitchModel", name := "waits", desc := "(I)V" } : MethodName)) ∈ q_gw := q_gw_in 1169 (by decide +kernel)
theorem w_1170 : (Cond.code ({ cls := "NightDitchModel", name := "waits", desc := "(I)V" } : MethodName) prog_10_method_48_code (2 : Nat) (Option.none : Option FieldType)) ∈ q_gw := q_gw_in 1170 (by decide +kernel)
theorem w_1171 : (Cond.methodLink "NightDitchModel" (251 : Nat) ({ cls := "NightDitchModel", name := "operator", desc := "()Z" } : MethodName)) ∈ q_gw := q_gw_in 1171 (by decide +kernel)
theorem w_1173 : (Cond.instanceMethod ({ cls := "NightDitchModel", name := "operator", desc := "()Z" } : MethodName)) ∈ q_gw := q_gw_in 1173 (by decide +kernel)
theorem w_1174 : (Cond.code ({ cls := "NightDitchModel", name := "operator", desc := "()Z" } : MethodName) prog_10_method_54_code (2 : Nat) (Option.some FieldType.boolean)) ∈ q_gw := q_gw_in 1174 (by decide +kernel)
theorem w_1175 : (Cond.methodLink "NightDitchModel" (242 : Nat) ({ cls := "NightDitchModel", name := "settles", desc := "(I)V" } : MethodName)) ∈ q_gw := q_gw_in 1175 (by decide +kernel)
theorem w_1177 : (Cond.instanceMethod ({ cls := "NightDitchModel", name := "settles", desc := "(I)V" } : MethodName)) ∈ q_gw := q_gw_in 1177 (by decide +kernel)
theorem w_1178 : (Cond.code ({ cls := "NightDitchModel", name := "settles", desc := "(I)V" } : MethodName) prog_10_method_47_code (2 : Nat) (Option.none : Option FieldType)) ∈ q_gw := q_gw_in 1178 (by decide +kernel)
theorem w_1179 : (Cond.methodLink "NightDitchModel" (245 : Nat) ({ cls := "NightDitchModel", name := "top", desc := "()I" } : MethodName)) ∈ q_gw := q_gw_in 1179 (by decide +kernel)
theorem w_1181 : (Cond.instanceMethod ({ cls := "NightDitchModel", name := "top", desc := "()I" } : MethodName)) ∈ q_gw := q_gw_in 1181 (by decide +kernel)
theorem w_1182 : (Cond.code ({ cls := "NightDitchModel", name := "top", desc := "()I" } : MethodName) prog_10_method_53_code (1 : Nat) (Option.some FieldType.int)) ∈ q_gw := q_gw_in 1182 (by decide +kernel)
theorem w_1183 : (Cond.methodLink "NightDitchLaw" (113 : Nat) ({ cls := "NightDitchModel", name := "plain", desc := "()I" } : MethodName)) ∈ q_gw := q_gw_in 1183 (by decide +kernel)
theorem w_1184 : (Cond.instanceMethod ({ cls := "NightDitchModel", name := "plain", desc := "()I" } : MethodName)) ∈ q_gw := q_gw_in 1184 (by decide +kernel)
theorem w_1185 : (Cond.selects "NightDitchModel" ({ cls := "NightDitchModel", name := "plain", desc := "()I" } : MethodName) ({ cls := "NightDitchModel", name := "plain", desc := "()I" } : MethodName)) ∈ q_gw := q_gw_in 1185 (by decide +kernel)
theorem w_1186 : (Cond.code ({ cls := "NightDitchModel", name := "plain", desc := "()I" } : MethodName) prog_10_method_56_code (2 : Nat) (Option.some FieldType.int)) ∈ q_gw := q_gw_in 1186 (by decide +kernel)
theorem w_1187 : (Cond.methodLink "NightDitchLaw" (117 : Nat) ({ cls := "NightDitchModel", name := "gives", desc := "(I)I" } : MethodName)) ∈ q_gw := q_gw_in 1187 (by decide +kernel)
theorem w_1188 : (Cond.instanceMethod ({ cls := "NightDitchModel", name := "gives", desc := "(I)I" } : MethodName)) ∈ q_gw := q_gw_in 1188 (by decide +kernel)
theorem w_1189 : (Cond.selects "NightDitchModel" ({ cls := "NightDitchModel", name := "gives", desc := "(I)I" } : MethodName) ({ cls := "NightDitchModel", name := "gives", desc := "(I)I" } : MethodName)) ∈ q_gw := q_gw_in 1189 (by decide +kernel)
theorem w_1190 : (Cond.code ({ cls := "NightDitchModel", name := "gives", desc := "(I)I" } : MethodName) prog_10_method_60_code (2 : Nat) (Option.some FieldType.int)) ∈ q_gw := q_gw_in 1190 (by decide +kernel)
theorem w_1191 : (Cond.methodLink "NightDitchLaw" (121 : Nat) ({ cls := "NightDitchModel", name := "seed", desc := "(I)I" } : MethodName)) ∈ q_gw := q_gw_in 1191 (by decide +kernel)
theorem w_1192 : (Cond.instanceMethod ({ cls := "NightDitchModel", name := "seed", desc := "(I)I" } : MethodName)) ∈ q_gw := q_gw_in 1192 (by decide +kernel)
theorem w_1193 : (Cond.selects "NightDitchModel" ({ cls := "NightDitchModel", name := "seed", desc := "(I)I" } : MethodName) ({ cls := "NightDitchModel", name := "seed", desc := "(I)I" } : MethodName)) ∈ q_gw := q_gw_in 1193 (by decide +kernel)
theorem w_1194 : (Cond.code ({ cls := "NightDitchModel", name := "seed", desc := "(I)I" } : MethodName) prog_10_method_61_code (3 : Nat) (Option.some FieldType.int)) ∈ q_gw := q_gw_in 1194 (by decide +kernel)
theorem w_1195 : (Cond.methodLink "NightDitchLaw" (125 : Nat) ({ cls := "NightDitchModel", name := "nights", desc := "(I)I" } : MethodName)) ∈ q_gw := q_gw_in 1195 (by decide +kernel)
theorem w_1196 : (Cond.instanceMethod ({ cls := "NightDitchModel", name := "nights", desc := "(I)I" } : MethodName)) ∈ q_gw := q_gw_in 1196 (by decide +kernel)
theorem w_1197 : (Cond.selects "NightDitchModel" ({ cls := "NightDitchModel", name := "nights", desc := "(I)I" } : MethodName) ({ cls := "NightDitchModel", name := "nights", desc := "(I)I" } : MethodName)) ∈ q_gw := q_gw_in 1197 (by decide +kernel)
theorem w_1198 : (Cond.code ({ cls := "NightDitchModel", name := "nights", desc := "(I)I" } : MethodName) prog_10_method_66_code (2 : Nat) (Option.some FieldType.int)) ∈ q_gw := q_gw_in 1198 (by decide +kernel)
theorem w_1199 : (Cond.methodLink "NightDitchModel" (270 : Nat) ({ cls := "NightDitchModel", name := "goesOn", desc := "(I)I" } : MethodName)) ∈ q_gw := q_gw_in 1199 (by decide +kernel)
theorem w_1201 : (Cond.instanceMethod ({ cls := "NightDitchModel", name := "goesOn", desc := "(I)I" } : MethodName)) ∈ q_gw := q_gw_in 1201 (by decide +kernel)
theorem w_1202 : (Cond.code ({ cls := "NightDitchModel", name := "goesOn", desc := "(I)I" } : MethodName) prog_10_method_65_code (4 : Nat) (Option.some FieldType.int)) ∈ q_gw := q_gw_in 1202 (by decide +kernel)
theorem w_1203 : (Cond.methodLink "NightDitchModel" (267 : Nat) ({ cls := "NightDitchModel", name := "night", desc := "()V" } : MethodName)) ∈ q_gw := q_gw_in 1203 (by decide +kernel)
theorem w_1205 : (Cond.instanceMethod ({ cls := "NightDitchModel", name := "night", desc := "()V" } : MethodName)) ∈ q_gw := q_gw_in 1205 (by decide +kernel)
theorem w_1206 : (Cond.code ({ cls := "NightDitchModel", name := "night", desc := "()V" } : MethodName) prog_10_method_64_code (2 : Nat) (Option.none : Option FieldType)) ∈ q_gw := q_gw_in 1206 (by decide +kernel)
theorem w_1207 : (Cond.methodLink "NightDitchModel" (264 : Nat) ({ cls := "NightDitchModel", name := "meet", desc := "(I)V" } : MethodName)) ∈ q_gw := q_gw_in 1207 (by decide +kernel)
theorem w_1209 : (Cond.instanceMethod ({ cls := "NightDitchModel", name := "meet", desc := "(I)V" } : MethodName)) ∈ q_gw := q_gw_in 1209 (by decide +kernel)
theorem w_1210 : (Cond.code ({ cls := "NightDitchModel", name := "meet", desc := "(I)V" } : MethodName) prog_10_method_63_code (7 : Nat) (Option.none : Option FieldType)) ∈ q_gw := q_gw_in 1210 (by decide +kernel)
theorem w_1211 : (Cond.methodLink "NightDitchModel" (261 : Nat) ({ cls := "NightDitchModel", name := "draw", desc := "()I" } : MethodName)) ∈ q_gw := q_gw_in 1211 (by decide +kernel)
theorem w_1213 : (Cond.instanceMethod ({ cls := "NightDitchModel", name := "draw", desc := "()I" } : MethodName)) ∈ q_gw := q_gw_in 1213 (by decide +kernel)
theorem w_1214 : (Cond.code ({ cls := "NightDitchModel", name := "draw", desc := "()I" } : MethodName) prog_10_method_62_code (1 : Nat) (Option.some FieldType.int)) ∈ q_gw := q_gw_in 1214 (by decide +kernel)
theorem w_1215 : (Cond.constant "NightDitchModel" (260 : Nat) (1103515245 : Int32)) ∈ q_gw := q_gw_in 1215 (by decide +kernel)
theorem w_1216 : (Cond.methodLink "NightDitchLaw" (129 : Nat) ({ cls := "NightDitchModel", name := "ahead", desc := "(II)I" } : MethodName)) ∈ q_gw := q_gw_in 1216 (by decide +kernel)
theorem w_1217 : (Cond.instanceMethod ({ cls := "NightDitchModel", name := "ahead", desc := "(II)I" } : MethodName)) ∈ q_gw := q_gw_in 1217 (by decide +kernel)
theorem w_1218 : (Cond.selects "NightDitchModel" ({ cls := "NightDitchModel", name := "ahead", desc := "(II)I" } : MethodName) ({ cls := "NightDitchModel", name := "ahead", desc := "(II)I" } : MethodName)) ∈ q_gw := q_gw_in 1218 (by decide +kernel)
theorem w_1219 : (Cond.code ({ cls := "NightDitchModel", name := "ahead", desc := "(II)I" } : MethodName) prog_10_method_67_code (6 : Nat) (Option.some FieldType.int)) ∈ q_gw := q_gw_in 1219 (by decide +kernel)
theorem w_1220 : (Cond.methodLink "NightDitchLaw" (133 : Nat) ({ cls := "NightDitchModel", name := "purse", desc := "(I)I" } : MethodName)) ∈ q_gw := q_gw_in 1220 (by decide +kernel)
theorem w_1221 : (Cond.instanceMethod ({ cls := "NightDitchModel", name := "purse", desc := "(I)I" } : MethodName)) ∈ q_gw := q_gw_in 1221 (by decide +kernel)
theorem w_1222 : (Cond.selects "NightDitchModel" ({ cls := "NightDitchModel", name := "purse", desc := "(I)I" } : MethodName) ({ cls := "NightDitchModel", name := "purse", desc := "(I)I" } : MethodName)) ∈ q_gw := q_gw_in 1222 (by decide +kernel)
theorem w_1223 : (Cond.code ({ cls := "NightDitchModel", name := "purse", desc := "(I)I" } : MethodName) prog_10_method_68_code (5 : Nat) (Option.some FieldType.int)) ∈ q_gw := q_gw_in 1223 (by decide +kernel)
theorem w_1224 : (Cond.methodLink "NightDitchLaw" (137 : Nat) ({ cls := "NightDitchModel", name := "sheet", desc := "(III)I" } : MethodName)) ∈ q_gw := q_gw_in 1224 (by decide +kernel)
theorem w_1225 : (Cond.instanceMethod ({ cls := "NightDitchModel", name := "sheet", desc := "(III)I" } : MethodName)) ∈ q_gw := q_gw_in 1225 (by decide +kernel)
theorem w_1226 : (Cond.selects "NightDitchModel" ({ cls := "NightDitchModel", name := "sheet", desc := "(III)I" } : MethodName) ({ cls := "NightDitchModel", name := "sheet", desc := "(III)I" } : MethodName)) ∈ q_gw := q_gw_in 1226 (by decide +kernel)
theorem w_1227 : (Cond.code ({ cls := "NightDitchModel", name := "sheet", desc := "(III)I" } : MethodName) prog_10_method_70_code (5 : Nat) (Option.some FieldType.int)) ∈ q_gw := q_gw_in 1227 (by decide +kernel)
theorem w_1228 : (Cond.methodLink "NightDitchModel" (273 : Nat) ({ cls := "NightDitchModel", name := "isSheet", desc := "(I)Z" } : MethodName)) ∈ q_gw := q_gw_in 1228 (by decide +kernel)
theorem w_1229 : (Cond.static ({ cls := "NightDitchModel", name := "isSheet", desc := "(I)Z" } : MethodName)) ∈ q_gw := q_gw_in 1229 (by decide +kernel)
theorem w_1230 : (Cond.code ({ cls := "NightDitchModel", name := "isSheet", desc := "(I)Z" } : MethodName) prog_10_method_69_code (1 : Nat) (Option.some FieldType.boolean)) ∈ q_gw := q_gw_in 1230 (by decide +kernel)
theorem w_1231 : (Cond.constant "NightDitchModel" (276 : Nat) (-1000000007 : Int32)) ∈ q_gw := q_gw_in 1231 (by decide +kernel)
theorem w_1232 : (Cond.methodLink "NightDitchLaw" (144 : Nat) ({ cls := "NightDitchModel", name := "write", desc := "(IIJ)J" } : MethodName)) ∈ q_gw := q_gw_in 1232 (by decide +kernel)
theorem w_1233 : (Cond.instanceMethod ({ cls := "NightDitchModel", name := "write", desc := "(IIJ)J" } : MethodName)) ∈ q_gw := q_gw_in 1233 (by decide +kernel)
theorem w_1234 : (Cond.selects "NightDitchModel" ({ cls := "NightDitchModel", name := "write", desc := "(IIJ)J" } : MethodName) ({ cls := "NightDitchModel", name := "write", desc := "(IIJ)J" } : MethodName)) ∈ q_gw := q_gw_in 1234 (by decide +kernel)
theorem w_1235 : (Cond.code ({ cls := "NightDitchModel", name := "write", desc := "(IIJ)J" } : MethodName) prog_10_method_71_code (7 : Nat) (Option.some FieldType.long)) ∈ q_gw := q_gw_in 1235 (by decide +kernel)
theorem w_1236 : (Cond.constant "NightDitchModel" (277 : Nat) (-1000000006 : Int32)) ∈ q_gw := q_gw_in 1236 (by decide +kernel)
theorem w_1237 : (Cond.methodLink "NightDitchLaw" (149 : Nat) ({ cls := "NightDitchModel", name := "copy", desc := "(IIIII)I" } : MethodName)) ∈ q_gw := q_gw_in 1237 (by decide +kernel)
theorem w_1238 : (Cond.instanceMethod ({ cls := "NightDitchModel", name := "copy", desc := "(IIIII)I" } : MethodName)) ∈ q_gw := q_gw_in 1238 (by decide +kernel)
theorem w_1239 : (Cond.selects "NightDitchModel" ({ cls := "NightDitchModel", name := "copy", desc := "(IIIII)I" } : MethodName) ({ cls := "NightDitchModel", name := "copy", desc := "(IIIII)I" } : MethodName)) ∈ q_gw := q_gw_in 1239 (by decide +kernel)
theorem w_1240 : (Cond.code ({ cls := "NightDitchModel", name := "copy", desc := "(IIIII)I" } : MethodName) prog_10_method_73_code (7 : Nat) (Option.some FieldType.int)) ∈ q_gw := q_gw_in 1240 (by decide +kernel)
theorem w_1241 : (Cond.methodLink "NightDitchModel" (278 : Nat) ({ cls := "NightDitchModel", name := "has", desc := "(III)Z" } : MethodName)) ∈ q_gw := q_gw_in 1241 (by decide +kernel)
theorem w_1243 : (Cond.instanceMethod ({ cls := "NightDitchModel", name := "has", desc := "(III)Z" } : MethodName)) ∈ q_gw := q_gw_in 1243 (by decide +kernel)
theorem w_1244 : (Cond.code ({ cls := "NightDitchModel", name := "has", desc := "(III)Z" } : MethodName) prog_10_method_72_code (4 : Nat) (Option.some FieldType.boolean)) ∈ q_gw := q_gw_in 1244 (by decide +kernel)
theorem w_1245 : (Cond.methodLink "NightDitchLaw" (153 : Nat) ({ cls := "NightDitchModel", name := "worths", desc := "(I)I" } : MethodName)) ∈ q_gw := q_gw_in 1245 (by decide +kernel)
theorem w_1246 : (Cond.instanceMethod ({ cls := "NightDitchModel", name := "worths", desc := "(I)I" } : MethodName)) ∈ q_gw := q_gw_in 1246 (by decide +kernel)
theorem w_1247 : (Cond.selects "NightDitchModel" ({ cls := "NightDitchModel", name := "worths", desc := "(I)I" } : MethodName) ({ cls := "NightDitchModel", name := "worths", desc := "(I)I" } : MethodName)) ∈ q_gw := q_gw_in 1247 (by decide +kernel)
theorem w_1248 : (Cond.code ({ cls := "NightDitchModel", name := "worths", desc := "(I)I" } : MethodName) prog_10_method_74_code (6 : Nat) (Option.some FieldType.int)) ∈ q_gw := q_gw_in 1248 (by decide +kernel)
theorem w_1249 : (Cond.constantLong "NightDitchModel" (281 : Nat) (999 : Int64)) ∈ q_gw := q_gw_in 1249 (by decide +kernel)
theorem w_1250 : (Cond.methodLink "NightDitchLaw" (157 : Nat) ({ cls := "NightDitchModel", name := "read", desc := "(I)I" } : MethodName)) ∈ q_gw := q_gw_in 1250 (by decide +kernel)
theorem w_1251 : (Cond.instanceMethod ({ cls := "NightDitchModel", name := "read", desc := "(I)I" } : MethodName)) ∈ q_gw := q_gw_in 1251 (by decide +kernel)
theorem w_1252 : (Cond.selects "NightDitchModel" ({ cls := "NightDitchModel", name := "read", desc := "(I)I" } : MethodName) ({ cls := "NightDitchModel", name := "read", desc := "(I)I" } : MethodName)) ∈ q_gw := q_gw_in 1252 (by decide +kernel)
theorem w_1253 : (Cond.code ({ cls := "NightDitchModel", name := "read", desc := "(I)I" } : MethodName) prog_10_method_75_code (3 : Nat) (Option.some FieldType.int)) ∈ q_gw := q_gw_in 1253 (by decide +kernel)
theorem w_1254 : (Cond.methodLink "NightDitchLaw" (161 : Nat) ({ cls := "NightDitchModel", name := "image", desc := "()I" } : MethodName)) ∈ q_gw := q_gw_in 1254 (by decide +kernel)
theorem w_1255 : (Cond.instanceMethod ({ cls := "NightDitchModel", name := "image", desc := "()I" } : MethodName)) ∈ q_gw := q_gw_in 1255 (by decide +kernel)
theorem w_1256 : (Cond.selects "NightDitchModel" ({ cls := "NightDitchModel", name := "image", desc := "()I" } : MethodName) ({ cls := "NightDitchModel", name := "image", desc := "()I" } : MethodName)) ∈ q_gw := q_gw_in 1256 (by decide +kernel)
theorem w_1257 : (Cond.code ({ cls := "NightDitchModel", name := "image", desc := "()I" } : MethodName) prog_10_method_76_code (2 : Nat) (Option.some FieldType.int)) ∈ q_gw := q_gw_in 1257 (by decide +kernel)
theorem w_1258 : (Cond.methodLink "NightDitchLaw" (165 : Nat) ({ cls := "NightDitchModel", name := "undo", desc := "()I" } : MethodName)) ∈ q_gw := q_gw_in 1258 (by decide +kernel)
theorem w_1259 : (Cond.instanceMethod ({ cls := "NightDitchModel", name := "undo", desc := "()I" } : MethodName)) ∈ q_gw := q_gw_in 1259 (by decide +kernel)
theorem w_1260 : (Cond.selects "NightDitchModel" ({ cls := "NightDitchModel", name := "undo", desc := "()I" } : MethodName) ({ cls := "NightDitchModel", name := "undo", desc := "()I" } : MethodName)) ∈ q_gw := q_gw_in 1260 (by decide +kernel)
theorem w_1261 : (Cond.code ({ cls := "NightDitchModel", name := "undo", desc := "()I" } : MethodName) prog_10_method_77_code (2 : Nat) (Option.some FieldType.int)) ∈ q_gw := q_gw_in 1261 (by decide +kernel)
theorem w_1262 : (Cond.methodLink "NightDitchLaw" (169 : Nat) ({ cls := "NightDitchModel", name := "tear", desc := "()I" } : MethodName)) ∈ q_gw := q_gw_in 1262 (by decide +kernel)
theorem w_1263 : (Cond.instanceMethod ({ cls := "NightDitchModel", name := "tear", desc := "()I" } : MethodName)) ∈ q_gw := q_gw_in 1263 (by decide +kernel)
theorem w_1264 : (Cond.selects "NightDitchModel" ({ cls := "NightDitchModel", name := "tear", desc := "()I" } : MethodName) ({ cls := "NightDitchModel", name := "tear", desc := "()I" } : MethodName)) ∈ q_gw := q_gw_in 1264 (by decide +kernel)
theorem w_1265 : (Cond.code ({ cls := "NightDitchModel", name := "tear", desc := "()I" } : MethodName) prog_10_method_78_code (2 : Nat) (Option.some FieldType.int)) ∈ q_gw := q_gw_in 1265 (by decide +kernel)
theorem w_1266 : (Cond.methodLink "NightDitchLaw" (173 : Nat) ({ cls := "NightDitchModel", name := "count", desc := "(I)I" } : MethodName)) ∈ q_gw := q_gw_in 1266 (by decide +kernel)
theorem w_1267 : (Cond.instanceMethod ({ cls := "NightDitchModel", name := "count", desc := "(I)I" } : MethodName)) ∈ q_gw := q_gw_in 1267 (by decide +kernel)
theorem w_1268 : (Cond.selects "NightDitchModel" ({ cls := "NightDitchModel", name := "count", desc := "(I)I" } : MethodName) ({ cls := "NightDitchModel", name := "count", desc := "(I)I" } : MethodName)) ∈ q_gw := q_gw_in 1268 (by decide +kernel)
theorem w_1269 : (Cond.code ({ cls := "NightDitchModel", name := "count", desc := "(I)I" } : MethodName) prog_10_method_79_code (2 : Nat) (Option.some FieldType.int)) ∈ q_gw := q_gw_in 1269 (by decide +kernel)
theorem w_1270 : (Cond.methodLink "NightDitchLaw" (177 : Nat) ({ cls := "NightDitchModel", name := "status", desc := "(I)I" } : MethodName)) ∈ q_gw := q_gw_in 1270 (by decide +kernel)
theorem w_1271 : (Cond.instanceMethod ({ cls := "NightDitchModel", name := "status", desc := "(I)I" } : MethodName)) ∈ q_gw := q_gw_in 1271 (by decide +kernel)
theorem w_1272 : (Cond.selects "NightDitchModel" ({ cls := "NightDitchModel", name := "status", desc := "(I)I" } : MethodName) ({ cls := "NightDitchModel", name := "status", desc := "(I)I" } : MethodName)) ∈ q_gw := q_gw_in 1272 (by decide +kernel)
theorem w_1273 : (Cond.code ({ cls := "NightDitchModel", name := "status", desc := "(I)I" } : MethodName) prog_10_method_80_code (2 : Nat) (Option.some FieldType.int)) ∈ q_gw := q_gw_in 1273 (by decide +kernel)
theorem w_1274 : (Cond.constantLong "NightDitchLaw" (138 : Nat) (4294967295 : Int64)) ∈ q_gw := q_gw_in 1274 (by decide +kernel)
theorem ws_0 : Cond.selects "NightDitch" ⟨"NightDitch", "finding", "(I)I"⟩ ⟨"NightDitch", "finding", "(I)I"⟩ ∈ q_gw := q_gw_sel 0 (by decide +kernel)
theorem ws_1 : Cond.selects "NightDitch$Text" ⟨"NightDitch$Text", "push", "(I)V"⟩ ⟨"NightDitch$Text", "push", "(I)V"⟩ ∈ q_gw := q_gw_sel 1 (by decide +kernel)
theorem ws_2 : Cond.selects "NightDitch$Text" ⟨"NightDitch$Text", "work", "(I)V"⟩ ⟨"NightDitch$Text", "work", "(I)V"⟩ ∈ q_gw := q_gw_sel 2 (by decide +kernel)
theorem ws_3 : Cond.selects "NightDitch$Text" ⟨"NightDitch$Text", "pop", "()I"⟩ ⟨"NightDitch$Text", "pop", "()I"⟩ ∈ q_gw := q_gw_sel 3 (by decide +kernel)
theorem ws_4 : Cond.selects "NightDitch$Ditch" ⟨"NightDitch$Ditch", "digit", "(II)I"⟩ ⟨"NightDitch$Ditch", "digit", "(II)I"⟩ ∈ q_gw := q_gw_sel 4 (by decide +kernel)
theorem ws_5 : Cond.selects "NightDitch$Orders" ⟨"NightDitch$Orders", "fillPays", "(LNightDitch$Ditch;)V"⟩ ⟨"NightDitch$Orders", "fillPays", "(LNightDitch$Ditch;)V"⟩ ∈ q_gw := q_gw_sel 5 (by decide +kernel)
theorem ws_6 : Cond.selects "NightDitch$Orders" ⟨"NightDitch$Orders", "fillLost", "(LNightDitch$Ditch;II)V"⟩ ⟨"NightDitch$Orders", "fillLost", "(LNightDitch$Ditch;II)V"⟩ ∈ q_gw := q_gw_sel 6 (by decide +kernel)
theorem ws_7 : Cond.selects "NightDitch$Meet" ⟨"NightDitch$Meet", "putChances", "(IIII)V"⟩ ⟨"NightDitch$Meet", "putChances", "(IIII)V"⟩ ∈ q_gw := q_gw_sel 7 (by decide +kernel)
theorem ws_8 : Cond.selects "NightDitch$Orders" ⟨"NightDitch$Orders", "layFirst", "(I)V"⟩ ⟨"NightDitch$Orders", "layFirst", "(I)V"⟩ ∈ q_gw := q_gw_sel 8 (by decide +kernel)
theorem ws_9 : Cond.selects "NightDitch$Orders" ⟨"NightDitch$Orders", "layFrom", "(IIJI)V"⟩ ⟨"NightDitch$Orders", "layFrom", "(IIJI)V"⟩ ∈ q_gw := q_gw_sel 9 (by decide +kernel)
theorem ws_10 : Cond.selects "NightDitch$Orders" ⟨"NightDitch$Orders", "closeRing", "(JI)V"⟩ ⟨"NightDitch$Orders", "closeRing", "(JI)V"⟩ ∈ q_gw := q_gw_sel 10 (by decide +kernel)
theorem ws_11 : Cond.selects "NightDitch$Tape" ⟨"NightDitch$Tape", "isSum", "(I)Z"⟩ ⟨"NightDitch$Tape", "isSum", "(I)Z"⟩ ∈ q_gw := q_gw_sel 11 (by decide +kernel)
theorem ws_12 : Cond.selects "NightDitch$Tape" ⟨"NightDitch$Tape", "isProduct", "(I)Z"⟩ ⟨"NightDitch$Tape", "isProduct", "(I)Z"⟩ ∈ q_gw := q_gw_sel 12 (by decide +kernel)
theorem ws_13 : Cond.selects "NightDitch$Tape" ⟨"NightDitch$Tape", "isFactor", "(I)Z"⟩ ⟨"NightDitch$Tape", "isFactor", "(I)Z"⟩ ∈ q_gw := q_gw_sel 13 (by decide +kernel)
theorem ws_14 : Cond.selects "NightDitch$Tape" ⟨"NightDitch$Tape", "next", "()I"⟩ ⟨"NightDitch$Tape", "next", "()I"⟩ ∈ q_gw := q_gw_sel 14 (by decide +kernel)
theorem ws_15 : Cond.selects "NightDitch$Tape" ⟨"NightDitch$Tape", "takeNumber", "()V"⟩ ⟨"NightDitch$Tape", "takeNumber", "()V"⟩ ∈ q_gw := q_gw_sel 15 (by decide +kernel)
theorem ws_16 : Cond.selects "NightDitch$Tape" ⟨"NightDitch$Tape", "isNext", "(II)Z"⟩ ⟨"NightDitch$Tape", "isNext", "(II)Z"⟩ ∈ q_gw := q_gw_sel 16 (by decide +kernel)
theorem ws_17 : Cond.selects "NightDitch$Tape" ⟨"NightDitch$Tape", "isNegated", "(I)Z"⟩ ⟨"NightDitch$Tape", "isNegated", "(I)Z"⟩ ∈ q_gw := q_gw_sel 17 (by decide +kernel)
theorem ws_18 : Cond.selects "NightDitch$Tape" ⟨"NightDitch$Tape", "isBracket", "(I)Z"⟩ ⟨"NightDitch$Tape", "isBracket", "(I)Z"⟩ ∈ q_gw := q_gw_sel 18 (by decide +kernel)
theorem ws_19 : Cond.selects "NightDitch$Tape" ⟨"NightDitch$Tape", "passes", "(I)Z"⟩ ⟨"NightDitch$Tape", "passes", "(I)Z"⟩ ∈ q_gw := q_gw_sel 19 (by decide +kernel)
theorem ws_20 : Cond.selects "NightDitch$Ditch" ⟨"NightDitch$Ditch", "passMeet", "(LNightDitch$Meet;)V"⟩ ⟨"NightDitch$Ditch", "passMeet", "(LNightDitch$Meet;)V"⟩ ∈ q_gw := q_gw_sel 20 (by decide +kernel)
theorem ws_21 : Cond.selects "NightDitch$Ditch" ⟨"NightDitch$Ditch", "draw", "()I"⟩ ⟨"NightDitch$Ditch", "draw", "()I"⟩ ∈ q_gw := q_gw_sel 21 (by decide +kernel)
theorem ws_22 : Cond.selects "NightDitchModel" ⟨"NightDitchModel", "finds", "(I)I"⟩ ⟨"NightDitchModel", "finds", "(I)I"⟩ ∈ q_gw := q_gw_sel 22 (by decide +kernel)
theorem ws_23 : Cond.selects "NightDitchModel" ⟨"NightDitchModel", "put", "(III)V"⟩ ⟨"NightDitchModel", "put", "(III)V"⟩ ∈ q_gw := q_gw_sel 23 (by decide +kernel)
theorem ws_24 : Cond.selects "NightDitchModel" ⟨"NightDitchModel", "isFarm", "(I)Z"⟩ ⟨"NightDitchModel", "isFarm", "(I)Z"⟩ ∈ q_gw := q_gw_sel 24 (by decide +kernel)
theorem ws_25 : Cond.selects "NightDitchModel" ⟨"NightDitchModel", "get", "(II)I"⟩ ⟨"NightDitchModel", "get", "(II)I"⟩ ∈ q_gw := q_gw_sel 25 (by decide +kernel)
theorem ws_26 : Cond.selects "NightDitchModel" ⟨"NightDitchModel", "placeOf", "(I)I"⟩ ⟨"NightDitchModel", "placeOf", "(I)I"⟩ ∈ q_gw := q_gw_sel 26 (by decide +kernel)
theorem ws_27 : Cond.selects "NightDitchModel" ⟨"NightDitchModel", "paysAt", "(II)I"⟩ ⟨"NightDitchModel", "paysAt", "(II)I"⟩ ∈ q_gw := q_gw_sel 27 (by decide +kernel)
theorem ws_28 : Cond.selects "NightDitchModel" ⟨"NightDitchModel", "says", "(II)I"⟩ ⟨"NightDitchModel", "says", "(II)I"⟩ ∈ q_gw := q_gw_sel 28 (by decide +kernel)
theorem ws_29 : Cond.selects "NightDitchModel" ⟨"NightDitchModel", "factOf", "(III)I"⟩ ⟨"NightDitchModel", "factOf", "(III)I"⟩ ∈ q_gw := q_gw_sel 29 (by decide +kernel)
theorem ws_30 : Cond.selects "NightDitchModel" ⟨"NightDitchModel", "wantsBy", "(II)I"⟩ ⟨"NightDitchModel", "wantsBy", "(II)I"⟩ ∈ q_gw := q_gw_sel 30 (by decide +kernel)
theorem ws_31 : Cond.selects "NightDitchModel" ⟨"NightDitchModel", "minds", "(I)I"⟩ ⟨"NightDitchModel", "minds", "(I)I"⟩ ∈ q_gw := q_gw_sel 31 (by decide +kernel)
theorem ws_32 : Cond.selects "NightDitchModel" ⟨"NightDitchModel", "findBest", "()V"⟩ ⟨"NightDitchModel", "findBest", "()V"⟩ ∈ q_gw := q_gw_sel 32 (by decide +kernel)
theorem ws_33 : Cond.selects "NightDitchModel" ⟨"NightDitchModel", "findLost", "()V"⟩ ⟨"NightDitchModel", "findLost", "()V"⟩ ∈ q_gw := q_gw_sel 33 (by decide +kernel)
theorem ws_34 : Cond.selects "NightDitchModel" ⟨"NightDitchModel", "findRest", "(III)V"⟩ ⟨"NightDitchModel", "findRest", "(III)V"⟩ ∈ q_gw := q_gw_sel 34 (by decide +kernel)
theorem ws_35 : Cond.selects "NightDitchModel" ⟨"NightDitchModel", "lostThere", "()J"⟩ ⟨"NightDitchModel", "lostThere", "()J"⟩ ∈ q_gw := q_gw_sel 35 (by decide +kernel)
theorem ws_36 : Cond.selects "NightDitchModel" ⟨"NightDitchModel", "tryRow", "()V"⟩ ⟨"NightDitchModel", "tryRow", "()V"⟩ ∈ q_gw := q_gw_sel 36 (by decide +kernel)
theorem ws_37 : Cond.selects "NightDitchModel" ⟨"NightDitchModel", "hoursAll", "()I"⟩ ⟨"NightDitchModel", "hoursAll", "()I"⟩ ∈ q_gw := q_gw_sel 37 (by decide +kernel)
theorem ws_38 : Cond.selects "NightDitchModel" ⟨"NightDitchModel", "meets", "()I"⟩ ⟨"NightDitchModel", "meets", "()I"⟩ ∈ q_gw := q_gw_sel 38 (by decide +kernel)
theorem ws_39 : Cond.selects "NightDitchModel" ⟨"NightDitchModel", "findMeet", "(I)V"⟩ ⟨"NightDitchModel", "findMeet", "(I)V"⟩ ∈ q_gw := q_gw_sel 39 (by decide +kernel)
theorem ws_40 : Cond.selects "NightDitchModel" ⟨"NightDitchModel", "lostAll", "()J"⟩ ⟨"NightDitchModel", "lostAll", "()J"⟩ ∈ q_gw := q_gw_sel 40 (by decide +kernel)
theorem ws_41 : Cond.selects "NightDitchModel" ⟨"NightDitchModel", "mostTaking", "()J"⟩ ⟨"NightDitchModel", "mostTaking", "()J"⟩ ∈ q_gw := q_gw_sel 41 (by decide +kernel)
theorem ws_42 : Cond.selects "NightDitchModel" ⟨"NightDitchModel", "operand", "()Z"⟩ ⟨"NightDitchModel", "operand", "()Z"⟩ ∈ q_gw := q_gw_sel 42 (by decide +kernel)
theorem ws_43 : Cond.selects "NightDitchModel" ⟨"NightDitchModel", "emit", "(I)V"⟩ ⟨"NightDitchModel", "emit", "(I)V"⟩ ∈ q_gw := q_gw_sel 43 (by decide +kernel)
theorem ws_44 : Cond.selects "NightDitchModel" ⟨"NightDitchModel", "ends", "()Z"⟩ ⟨"NightDitchModel", "ends", "()Z"⟩ ∈ q_gw := q_gw_sel 44 (by decide +kernel)
theorem ws_45 : Cond.selects "NightDitchModel" ⟨"NightDitchModel", "waits", "(I)V"⟩ ⟨"NightDitchModel", "waits", "(I)V"⟩ ∈ q_gw := q_gw_sel 45 (by decide +kernel)
theorem ws_46 : Cond.selects "NightDitchModel" ⟨"NightDitchModel", "operator", "()Z"⟩ ⟨"NightDitchModel", "operator", "()Z"⟩ ∈ q_gw := q_gw_sel 46 (by decide +kernel)
theorem ws_47 : Cond.selects "NightDitchModel" ⟨"NightDitchModel", "settles", "(I)V"⟩ ⟨"NightDitchModel", "settles", "(I)V"⟩ ∈ q_gw := q_gw_sel 47 (by decide +kernel)
theorem ws_48 : Cond.selects "NightDitchModel" ⟨"NightDitchModel", "top", "()I"⟩ ⟨"NightDitchModel", "top", "()I"⟩ ∈ q_gw := q_gw_sel 48 (by decide +kernel)
theorem ws_49 : Cond.selects "NightDitchModel" ⟨"NightDitchModel", "goesOn", "(I)I"⟩ ⟨"NightDitchModel", "goesOn", "(I)I"⟩ ∈ q_gw := q_gw_sel 49 (by decide +kernel)
theorem ws_50 : Cond.selects "NightDitchModel" ⟨"NightDitchModel", "night", "()V"⟩ ⟨"NightDitchModel", "night", "()V"⟩ ∈ q_gw := q_gw_sel 50 (by decide +kernel)
theorem ws_51 : Cond.selects "NightDitchModel" ⟨"NightDitchModel", "meet", "(I)V"⟩ ⟨"NightDitchModel", "meet", "(I)V"⟩ ∈ q_gw := q_gw_sel 51 (by decide +kernel)
theorem ws_52 : Cond.selects "NightDitchModel" ⟨"NightDitchModel", "draw", "()I"⟩ ⟨"NightDitchModel", "draw", "()I"⟩ ∈ q_gw := q_gw_sel 52 (by decide +kernel)
theorem ws_53 : Cond.selects "NightDitchModel" ⟨"NightDitchModel", "has", "(III)Z"⟩ ⟨"NightDitchModel", "has", "(III)Z"⟩ ∈ q_gw := q_gw_sel 53 (by decide +kernel)
theorem w_ob : Cond.code Lib.objectInit ⟨#[0xb1]⟩ 1 none ∈ q_gw := q_gw_in 19 (by decide +kernel)
theorem kl_0 : ∀ w ∈ u_ws RX0 TX0 12, w ∈ q_gw := q_all _ [172, 174, 176, 178, 180, 182, 184, 186, 188, 190, 192, 194] (by decide +kernel) (by decide +kernel)
theorem kf_0 : q_Kf 0 RX0 TX0 12 tyX0 := ⟨rfl, kl_0, tyX0_ok, nmX0, by decide⟩
theorem df_0 : ∀ j, j < 12 → defaultValue (tyX0 j) = (match q_ft 0 j with | 0 => .int 0 | 1 => .long 0 | _ => .null) := by decide +kernel
theorem kl_1 : ∀ w ∈ u_ws RX1 TX1 7, w ∈ q_gw := q_all _ [73, 75, 77, 79, 81, 83, 85] (by decide +kernel) (by decide +kernel)
theorem kf_1 : q_Kf 1 RX1 TX1 7 tyX1 := ⟨rfl, kl_1, tyX1_ok, nmX1, by decide⟩
theorem df_1 : ∀ j, j < 7 → defaultValue (tyX1 j) = (match q_ft 1 j with | 0 => .int 0 | 1 => .long 0 | _ => .null) := by decide +kernel
theorem kl_2 : ∀ w ∈ u_ws RX2 TX2 13, w ∈ q_gw := q_all _ [115, 117, 119, 121, 123, 125, 127, 129, 131, 133, 135, 137, 139] (by decide +kernel) (by decide +kernel)
theorem kf_2 : q_Kf 2 RX2 TX2 13 tyX2 := ⟨rfl, kl_2, tyX2_ok, nmX2, by decide⟩
theorem df_2 : ∀ j, j < 13 → defaultValue (tyX2 j) = (match q_ft 2 j with | 0 => .int 0 | 1 => .long 0 | _ => .null) := by decide +kernel
theorem kl_3 : ∀ w ∈ u_ws RX3 TX3 7, w ∈ q_gw := q_all _ [214, 216, 218, 220, 222, 224, 226] (by decide +kernel) (by decide +kernel)
theorem kf_3 : q_Kf 3 RX3 TX3 7 tyX3 := ⟨rfl, kl_3, tyX3_ok, nmX3, by decide⟩
theorem df_3 : ∀ j, j < 7 → defaultValue (tyX3 j) = (match q_ft 3 j with | 0 => .int 0 | 1 => .long 0 | _ => .null) := by decide +kernel
theorem kl_4 : ∀ w ∈ u_ws RX4 TX4 3, w ∈ q_gw := q_all _ [268, 270, 272] (by decide +kernel) (by decide +kernel)
theorem kf_4 : q_Kf 4 RX4 TX4 3 tyX4 := ⟨rfl, kl_4, tyX4_ok, nmX4, by decide⟩
theorem df_4 : ∀ j, j < 3 → defaultValue (tyX4 j) = (match q_ft 4 j with | 0 => .int 0 | 1 => .long 0 | _ => .null) := by decide +kernel
theorem kl_5 : ∀ w ∈ u_ws RX5 TX5 4, w ∈ q_gw := q_all _ [245, 247, 249, 251] (by decide +kernel) (by decide +kernel)
theorem kf_5 : q_Kf 5 RX5 TX5 4 tyX5 := ⟨rfl, kl_5, tyX5_ok, nmX5, by decide⟩
theorem df_5 : ∀ j, j < 4 → defaultValue (tyX5 j) = (match q_ft 5 j with | 0 => .int 0 | 1 => .long 0 | _ => .null) := by decide +kernel
theorem kl_6 : ∀ w ∈ u_ws RX6 TX6 4, w ∈ q_gw := q_all _ [40, 42, 44, 46] (by decide +kernel) (by decide +kernel)
theorem kf_6 : q_Kf 6 RX6 TX6 4 tyX6 := ⟨rfl, kl_6, tyX6_ok, nmX6, by decide⟩
theorem df_6 : ∀ j, j < 4 → defaultValue (tyX6 j) = (match q_ft 6 j with | 0 => .int 0 | 1 => .long 0 | _ => .null) := by decide +kernel
theorem kl_7 : ∀ w ∈ u_ws RX7 TX7 8, w ∈ q_gw := q_all _ [283, 285, 287, 289, 291, 293, 295, 297] (by decide +kernel) (by decide +kernel)
theorem kf_7 : q_Kf 7 RX7 TX7 8 tyX7 := ⟨rfl, kl_7, tyX7_ok, nmX7, by decide⟩
theorem df_7 : ∀ j, j < 8 → defaultValue (tyX7 j) = (match q_ft 7 j with | 0 => .int 0 | 1 => .long 0 | _ => .null) := by decide +kernel
theorem kl_8 : ∀ w ∈ u_ws RX8 TX8 39, w ∈ q_gw := q_all _ [869, 871, 873, 875, 877, 879, 881, 883, 885, 887, 889, 891, 893, 895, 897, 899, 901, 903, 905, 907, 909, 911, 913, 915, 917, 919, 921, 923, 925, 927, 929, 931, 933, 935, 937, 939, 941, 943, 945] (by decide +kernel) (by decide +kernel)
theorem kf_8 : q_Kf 8 RX8 TX8 39 tyX8 := ⟨rfl, kl_8, tyX8_ok, nmX8, by decide⟩
theorem df_8 : ∀ j, j < 39 → defaultValue (tyX8 j) = (match q_ft 8 j with | 0 => .int 0 | 1 => .long 0 | _ => .null) := by decide +kernel
end
section
theorem w_J_maxI : Cond.code Lib.Math.max.name Lib.Math.max.code 2 (some .int) ∈ q_gw := q_gw_in 416 (by decide +kernel)
theorem w_J_minI : Cond.code Lib.Math.min.name Lib.Math.min.code 2 (some .int) ∈ q_gw := q_gw_in 409 (by decide +kernel)
theorem w_J_maxJ : Cond.code Lib.MathLoose.max_long.x Lib.MathLoose.max_long.code 4 (some .long) ∈ q_gw := q_gw_in 397 (by decide +kernel)
theorem w_J_minJ : Cond.code Lib.MathLoose.min_long.x Lib.MathLoose.min_long.code 4 (some .long) ∈ q_gw := q_gw_in 394 (by decide +kernel)
theorem fs_N_10 (M : Mt) (h : M.1.cls = "NightDitch") : q_Fs M 10 7 8 0 (.object "NightDitch$Ditch") true := ⟨RX7, TX7, tyX7, kf_7, by decide, by rw [h]; exact w_275, rfl, rfl⟩
theorem fs_N_16 (M : Mt) (h : M.1.cls = "NightDitch") : q_Fs M 16 7 8 1 (.object "NightDitch$Ditch") true := ⟨RX7, TX7, tyX7, kf_7, by decide, by rw [h]; exact w_276, rfl, rfl⟩
theorem fs_N_19 (M : Mt) (h : M.1.cls = "NightDitch") : q_Fs M 19 7 8 2 (.object "NightDitch$Ditch") true := ⟨RX7, TX7, tyX7, kf_7, by decide, by rw [h]; exact w_277, rfl, rfl⟩
theorem fs_N_25 (M : Mt) (h : M.1.cls = "NightDitch") : q_Fs M 25 7 8 3 (.object "NightDitch$Orders") true := ⟨RX7, TX7, tyX7, kf_7, by decide, by rw [h]; exact w_278, rfl, rfl⟩
theorem fs_N_32 (M : Mt) (h : M.1.cls = "NightDitch") : q_Fs M 32 7 8 4 (.object "NightDitch$Tape") true := ⟨RX7, TX7, tyX7, kf_7, by decide, by rw [h]; exact w_279, rfl, rfl⟩
theorem fs_N_39 (M : Mt) (h : M.1.cls = "NightDitch") : q_Fs M 39 7 8 5 (.object "NightDitch$Sheets") true := ⟨RX7, TX7, tyX7, kf_7, by decide, by rw [h]; exact w_280, rfl, rfl⟩
theorem fs_N_43 (M : Mt) (h : M.1.cls = "NightDitch") : q_Fs M 43 7 8 6 (.array .int) true := ⟨RX7, TX7, tyX7, kf_7, by decide, by rw [h]; exact w_281, rfl, rfl⟩
theorem fs_N_47 (M : Mt) (h : M.1.cls = "NightDitch") : q_Fs M 47 7 8 7 .boolean false := ⟨RX7, TX7, tyX7, kf_7, by decide, by rw [h]; exact w_282, rfl, rfl⟩
theorem fs_N_64 (M : Mt) (h : M.1.cls = "NightDitch") : q_Fs M 64 0 12 4 .int false := ⟨RX0, TX0, tyX0, kf_0, by decide, by rw [h]; exact w_155, rfl, rfl⟩
theorem fs_N_80 (M : Mt) (h : M.1.cls = "NightDitch") : q_Fs M 80 0 12 0 (.array (.object "NightDitch$Farm")) true := ⟨RX0, TX0, tyX0, kf_0, by decide, by rw [h]; exact w_143, rfl, rfl⟩
theorem fs_N_113 (M : Mt) (h : M.1.cls = "NightDitch") : q_Fs M 113 0 12 2 (.array .int) true := ⟨RX0, TX0, tyX0, kf_0, by decide, by rw [h]; exact w_149, rfl, rfl⟩
theorem fs_N_116 (M : Mt) (h : M.1.cls = "NightDitch") : q_Fs M 116 0 12 6 .int false := ⟨RX0, TX0, tyX0, kf_0, by decide, by rw [h]; exact w_161, rfl, rfl⟩
theorem fs_N_119 (M : Mt) (h : M.1.cls = "NightDitch") : q_Fs M 119 0 12 5 .int false := ⟨RX0, TX0, tyX0, kf_0, by decide, by rw [h]; exact w_158, rfl, rfl⟩
theorem fs_N_126 (M : Mt) (h : M.1.cls = "NightDitch") : q_Fs M 126 0 12 1 (.array .int) true := ⟨RX0, TX0, tyX0, kf_0, by decide, by rw [h]; exact w_146, rfl, rfl⟩
theorem fs_N_144 (M : Mt) (h : M.1.cls = "NightDitch") : q_Fs M 144 3 7 6 .int false := ⟨RX3, TX3, tyX3, kf_3, by decide, by rw [h]; exact w_213, rfl, rfl⟩
theorem fs_N_147 (M : Mt) (h : M.1.cls = "NightDitch") : q_Fs M 147 3 7 5 .long false := ⟨RX3, TX3, tyX3, kf_3, by decide, by rw [h]; exact w_211, rfl, rfl⟩
theorem fs_N_154 (M : Mt) (h : M.1.cls = "NightDitch") : q_Fs M 154 1 7 1 .int false := ⟨RX1, TX1, tyX1, kf_1, by decide, by rw [h]; exact w_61, rfl, rfl⟩
theorem fs_N_163 (M : Mt) (h : M.1.cls = "NightDitch") : q_Fs M 163 0 12 10 (.array (.object "NightDitch$Meet")) true := ⟨RX0, TX0, tyX0, kf_0, by decide, by rw [h]; exact w_170, rfl, rfl⟩
theorem fs_N_197 (M : Mt) (h : M.1.cls = "NightDitch") : q_Fs M 197 2 13 11 .int false := ⟨RX2, TX2, tyX2, kf_2, by decide, by rw [h]; exact w_112, rfl, rfl⟩
theorem fs_N_200 (M : Mt) (h : M.1.cls = "NightDitch") : q_Fs M 200 2 13 1 .int false := ⟨RX2, TX2, tyX2, kf_2, by decide, by rw [h]; exact w_95, rfl, rfl⟩
theorem fs_N_203 (M : Mt) (h : M.1.cls = "NightDitch") : q_Fs M 203 5 4 2 .int false := ⟨RX5, TX5, tyX5, kf_5, by decide, by rw [h]; exact w_242, rfl, rfl⟩
theorem fs_N_213 (M : Mt) (h : M.1.cls = "NightDitch") : q_Fs M 213 5 4 3 .int false := ⟨RX5, TX5, tyX5, kf_5, by decide, by rw [h]; exact w_244, rfl, rfl⟩
theorem fs_N_216 (M : Mt) (h : M.1.cls = "NightDitch") : q_Fs M 216 0 12 3 (.object "NightDitch$Text") true := ⟨RX0, TX0, tyX0, kf_0, by decide, by rw [h]; exact w_152, rfl, rfl⟩
theorem fs_N_220 (M : Mt) (h : M.1.cls = "NightDitch") : q_Fs M 220 5 4 1 (.object "NightDitch$Text") true := ⟨RX5, TX5, tyX5, kf_5, by decide, by rw [h]; exact w_240, rfl, rfl⟩
theorem fs_N_231 (M : Mt) (h : M.1.cls = "NightDitch") : q_Fs M 231 6 4 3 .int false := ⟨RX6, TX6, tyX6, kf_6, by decide, by rw [h]; exact w_39, rfl, rfl⟩
theorem fs_N_236 (M : Mt) (h : M.1.cls = "NightDitch") : q_Fs M 236 0 12 7 .int false := ⟨RX0, TX0, tyX0, kf_0, by decide, by rw [h]; exact w_164, rfl, rfl⟩
theorem fs_N_239 (M : Mt) (h : M.1.cls = "NightDitch") : q_Fs M 239 0 12 8 .int false := ⟨RX0, TX0, tyX0, kf_0, by decide, by rw [h]; exact w_166, rfl, rfl⟩
theorem fs_N_245 (M : Mt) (h : M.1.cls = "NightDitch") : q_Fs M 245 0 12 9 .int false := ⟨RX0, TX0, tyX0, kf_0, by decide, by rw [h]; exact w_168, rfl, rfl⟩
theorem fs_N_248 (M : Mt) (h : M.1.cls = "NightDitch") : q_Fs M 248 1 7 5 .int false := ⟨RX1, TX1, tyX1, kf_1, by decide, by rw [h]; exact w_70, rfl, rfl⟩
theorem fs_N_271 (M : Mt) (h : M.1.cls = "NightDitch") : q_Fs M 271 4 3 2 (.array .int) true := ⟨RX4, TX4, tyX4, kf_4, by decide, by rw [h]; exact w_267, rfl, rfl⟩
theorem fs_N_278 (M : Mt) (h : M.1.cls = "NightDitch") : q_Fs M 278 4 3 1 (.array .int) true := ⟨RX4, TX4, tyX4, kf_4, by decide, by rw [h]; exact w_265, rfl, rfl⟩
theorem fs_N_284 (M : Mt) (h : M.1.cls = "NightDitch") : q_Fs M 284 4 3 0 (.array (.array .long)) true := ⟨RX4, TX4, tyX4, kf_4, by decide, by rw [h]; exact w_263, rfl, rfl⟩
theorem fs_N_297 (M : Mt) (h : M.1.cls = "NightDitch") : q_Fs M 297 1 7 2 .int false := ⟨RX1, TX1, tyX1, kf_1, by decide, by rw [h]; exact w_64, rfl, rfl⟩
theorem fs_R_9 (M : Mt) (h : M.1.cls = "NightDitchModel") : q_Fs M 9 8 39 0 (.array .int) true := ⟨RX8, TX8, tyX8, kf_8, by decide, by rw [h]; exact w_830, rfl, rfl⟩
theorem fs_R_13 (M : Mt) (h : M.1.cls = "NightDitchModel") : q_Fs M 13 8 39 1 (.array .int) true := ⟨RX8, TX8, tyX8, kf_8, by decide, by rw [h]; exact w_831, rfl, rfl⟩
theorem fs_R_16 (M : Mt) (h : M.1.cls = "NightDitchModel") : q_Fs M 16 8 39 2 (.array .int) true := ⟨RX8, TX8, tyX8, kf_8, by decide, by rw [h]; exact w_832, rfl, rfl⟩
theorem fs_R_19 (M : Mt) (h : M.1.cls = "NightDitchModel") : q_Fs M 19 8 39 4 (.array .int) true := ⟨RX8, TX8, tyX8, kf_8, by decide, by rw [h]; exact w_834, rfl, rfl⟩
theorem fs_R_22 (M : Mt) (h : M.1.cls = "NightDitchModel") : q_Fs M 22 8 39 6 (.array .int) true := ⟨RX8, TX8, tyX8, kf_8, by decide, by rw [h]; exact w_836, rfl, rfl⟩
theorem fs_R_25 (M : Mt) (h : M.1.cls = "NightDitchModel") : q_Fs M 25 8 39 19 (.array .long) true := ⟨RX8, TX8, tyX8, kf_8, by decide, by rw [h]; exact w_849, rfl, rfl⟩
theorem fs_R_29 (M : Mt) (h : M.1.cls = "NightDitchModel") : q_Fs M 29 8 39 20 (.array .int) true := ⟨RX8, TX8, tyX8, kf_8, by decide, by rw [h]; exact w_850, rfl, rfl⟩
theorem fs_R_32 (M : Mt) (h : M.1.cls = "NightDitchModel") : q_Fs M 32 8 39 21 (.array .boolean) true := ⟨RX8, TX8, tyX8, kf_8, by decide, by rw [h]; exact w_851, rfl, rfl⟩
theorem fs_R_36 (M : Mt) (h : M.1.cls = "NightDitchModel") : q_Fs M 36 8 39 24 (.array .int) true := ⟨RX8, TX8, tyX8, kf_8, by decide, by rw [h]; exact w_854, rfl, rfl⟩
theorem fs_R_39 (M : Mt) (h : M.1.cls = "NightDitchModel") : q_Fs M 39 8 39 26 (.array .int) true := ⟨RX8, TX8, tyX8, kf_8, by decide, by rw [h]; exact w_856, rfl, rfl⟩
theorem fs_R_42 (M : Mt) (h : M.1.cls = "NightDitchModel") : q_Fs M 42 8 39 28 (.array .int) true := ⟨RX8, TX8, tyX8, kf_8, by decide, by rw [h]; exact w_858, rfl, rfl⟩
theorem fs_R_45 (M : Mt) (h : M.1.cls = "NightDitchModel") : q_Fs M 45 8 39 33 (.array .int) true := ⟨RX8, TX8, tyX8, kf_8, by decide, by rw [h]; exact w_863, rfl, rfl⟩
theorem fs_R_48 (M : Mt) (h : M.1.cls = "NightDitchModel") : q_Fs M 48 8 39 34 (.array .int) true := ⟨RX8, TX8, tyX8, kf_8, by decide, by rw [h]; exact w_864, rfl, rfl⟩
theorem fs_R_51 (M : Mt) (h : M.1.cls = "NightDitchModel") : q_Fs M 51 8 39 35 (.array .int) true := ⟨RX8, TX8, tyX8, kf_8, by decide, by rw [h]; exact w_865, rfl, rfl⟩
theorem fs_R_54 (M : Mt) (h : M.1.cls = "NightDitchModel") : q_Fs M 54 8 39 36 (.array .int) true := ⟨RX8, TX8, tyX8, kf_8, by decide, by rw [h]; exact w_866, rfl, rfl⟩
theorem fs_R_57 (M : Mt) (h : M.1.cls = "NightDitchModel") : q_Fs M 57 8 39 37 (.array .long) true := ⟨RX8, TX8, tyX8, kf_8, by decide, by rw [h]; exact w_867, rfl, rfl⟩
theorem fs_R_60 (M : Mt) (h : M.1.cls = "NightDitchModel") : q_Fs M 60 8 39 38 (.array .long) true := ⟨RX8, TX8, tyX8, kf_8, by decide, by rw [h]; exact w_868, rfl, rfl⟩
theorem fs_R_64 (M : Mt) (h : M.1.cls = "NightDitchModel") : q_Fs M 64 8 39 5 .int false := ⟨RX8, TX8, tyX8, kf_8, by decide, by rw [h]; exact w_835, rfl, rfl⟩
theorem fs_R_120 (M : Mt) (h : M.1.cls = "NightDitchModel") : q_Fs M 120 8 39 14 .int false := ⟨RX8, TX8, tyX8, kf_8, by decide, by rw [h]; exact w_844, rfl, rfl⟩
theorem fs_R_123 (M : Mt) (h : M.1.cls = "NightDitchModel") : q_Fs M 123 8 39 15 .int false := ⟨RX8, TX8, tyX8, kf_8, by decide, by rw [h]; exact w_845, rfl, rfl⟩
theorem fs_R_126 (M : Mt) (h : M.1.cls = "NightDitchModel") : q_Fs M 126 8 39 16 .int false := ⟨RX8, TX8, tyX8, kf_8, by decide, by rw [h]; exact w_846, rfl, rfl⟩
theorem fs_R_129 (M : Mt) (h : M.1.cls = "NightDitchModel") : q_Fs M 129 8 39 17 .int false := ⟨RX8, TX8, tyX8, kf_8, by decide, by rw [h]; exact w_847, rfl, rfl⟩
theorem fs_R_132 (M : Mt) (h : M.1.cls = "NightDitchModel") : q_Fs M 132 8 39 18 .int false := ⟨RX8, TX8, tyX8, kf_8, by decide, by rw [h]; exact w_848, rfl, rfl⟩
theorem fs_R_135 (M : Mt) (h : M.1.cls = "NightDitchModel") : q_Fs M 135 8 39 7 .int false := ⟨RX8, TX8, tyX8, kf_8, by decide, by rw [h]; exact w_837, rfl, rfl⟩
theorem fs_R_138 (M : Mt) (h : M.1.cls = "NightDitchModel") : q_Fs M 138 8 39 8 .int false := ⟨RX8, TX8, tyX8, kf_8, by decide, by rw [h]; exact w_838, rfl, rfl⟩
theorem fs_R_141 (M : Mt) (h : M.1.cls = "NightDitchModel") : q_Fs M 141 8 39 9 .int false := ⟨RX8, TX8, tyX8, kf_8, by decide, by rw [h]; exact w_839, rfl, rfl⟩
theorem fs_R_144 (M : Mt) (h : M.1.cls = "NightDitchModel") : q_Fs M 144 8 39 10 .int false := ⟨RX8, TX8, tyX8, kf_8, by decide, by rw [h]; exact w_840, rfl, rfl⟩
theorem fs_R_152 (M : Mt) (h : M.1.cls = "NightDitchModel") : q_Fs M 152 8 39 11 .long false := ⟨RX8, TX8, tyX8, kf_8, by decide, by rw [h]; exact w_841, rfl, rfl⟩
theorem fs_R_156 (M : Mt) (h : M.1.cls = "NightDitchModel") : q_Fs M 156 8 39 12 .long false := ⟨RX8, TX8, tyX8, kf_8, by decide, by rw [h]; exact w_842, rfl, rfl⟩
theorem fs_R_161 (M : Mt) (h : M.1.cls = "NightDitchModel") : q_Fs M 161 8 39 13 .long false := ⟨RX8, TX8, tyX8, kf_8, by decide, by rw [h]; exact w_843, rfl, rfl⟩
theorem fs_R_179 (M : Mt) (h : M.1.cls = "NightDitchModel") : q_Fs M 179 8 39 23 .long false := ⟨RX8, TX8, tyX8, kf_8, by decide, by rw [h]; exact w_853, rfl, rfl⟩
theorem fs_R_182 (M : Mt) (h : M.1.cls = "NightDitchModel") : q_Fs M 182 8 39 22 .int false := ⟨RX8, TX8, tyX8, kf_8, by decide, by rw [h]; exact w_852, rfl, rfl⟩
theorem fs_R_208 (M : Mt) (h : M.1.cls = "NightDitchModel") : q_Fs M 208 8 39 25 .int false := ⟨RX8, TX8, tyX8, kf_8, by decide, by rw [h]; exact w_855, rfl, rfl⟩
theorem fs_R_211 (M : Mt) (h : M.1.cls = "NightDitchModel") : q_Fs M 211 8 39 27 .int false := ⟨RX8, TX8, tyX8, kf_8, by decide, by rw [h]; exact w_857, rfl, rfl⟩
theorem fs_R_214 (M : Mt) (h : M.1.cls = "NightDitchModel") : q_Fs M 214 8 39 29 .int false := ⟨RX8, TX8, tyX8, kf_8, by decide, by rw [h]; exact w_859, rfl, rfl⟩
theorem fs_R_220 (M : Mt) (h : M.1.cls = "NightDitchModel") : q_Fs M 220 8 39 31 .int false := ⟨RX8, TX8, tyX8, kf_8, by decide, by rw [h]; exact w_861, rfl, rfl⟩
theorem fs_R_223 (M : Mt) (h : M.1.cls = "NightDitchModel") : q_Fs M 223 8 39 30 .int false := ⟨RX8, TX8, tyX8, kf_8, by decide, by rw [h]; exact w_860, rfl, rfl⟩
theorem fs_R_238 (M : Mt) (h : M.1.cls = "NightDitchModel") : q_Fs M 238 8 39 32 .boolean false := ⟨RX8, TX8, tyX8, kf_8, by decide, by rw [h]; exact w_862, rfl, rfl⟩
theorem fs_R_283 (M : Mt) (h : M.1.cls = "NightDitchModel") : q_Fs M 283 8 39 3 .boolean false := ⟨RX8, TX8, tyX8, kf_8, by decide, by rw [h]; exact w_833, rfl, rfl⟩
theorem fs_D_11 (M : Mt) (h : M.1.cls = "NightDitch$Ditch") : q_Fs M 11 0 12 0 (.array (.object "NightDitch$Farm")) true := ⟨RX0, TX0, tyX0, kf_0, by decide, by rw [h]; exact w_142, rfl, rfl⟩
theorem fs_D_17 (M : Mt) (h : M.1.cls = "NightDitch$Ditch") : q_Fs M 17 0 12 1 (.array .int) true := ⟨RX0, TX0, tyX0, kf_0, by decide, by rw [h]; exact w_145, rfl, rfl⟩
theorem fs_D_21 (M : Mt) (h : M.1.cls = "NightDitch$Ditch") : q_Fs M 21 0 12 2 (.array .int) true := ⟨RX0, TX0, tyX0, kf_0, by decide, by rw [h]; exact w_147, rfl, rfl⟩
theorem fs_D_27 (M : Mt) (h : M.1.cls = "NightDitch$Ditch") : q_Fs M 27 0 12 3 (.object "NightDitch$Text") true := ⟨RX0, TX0, tyX0, kf_0, by decide, by rw [h]; exact w_150, rfl, rfl⟩
theorem fs_D_31 (M : Mt) (h : M.1.cls = "NightDitch$Ditch") : q_Fs M 31 0 12 4 .int false := ⟨RX0, TX0, tyX0, kf_0, by decide, by rw [h]; exact w_153, rfl, rfl⟩
theorem fs_D_35 (M : Mt) (h : M.1.cls = "NightDitch$Ditch") : q_Fs M 35 0 12 5 .int false := ⟨RX0, TX0, tyX0, kf_0, by decide, by rw [h]; exact w_157, rfl, rfl⟩
theorem fs_D_38 (M : Mt) (h : M.1.cls = "NightDitch$Ditch") : q_Fs M 38 0 12 6 .int false := ⟨RX0, TX0, tyX0, kf_0, by decide, by rw [h]; exact w_160, rfl, rfl⟩
theorem fs_D_41 (M : Mt) (h : M.1.cls = "NightDitch$Ditch") : q_Fs M 41 0 12 7 .int false := ⟨RX0, TX0, tyX0, kf_0, by decide, by rw [h]; exact w_163, rfl, rfl⟩
theorem fs_D_44 (M : Mt) (h : M.1.cls = "NightDitch$Ditch") : q_Fs M 44 0 12 8 .int false := ⟨RX0, TX0, tyX0, kf_0, by decide, by rw [h]; exact w_165, rfl, rfl⟩
theorem fs_D_47 (M : Mt) (h : M.1.cls = "NightDitch$Ditch") : q_Fs M 47 0 12 9 .int false := ⟨RX0, TX0, tyX0, kf_0, by decide, by rw [h]; exact w_167, rfl, rfl⟩
theorem fs_D_52 (M : Mt) (h : M.1.cls = "NightDitch$Ditch") : q_Fs M 52 0 12 10 (.array (.object "NightDitch$Meet")) true := ⟨RX0, TX0, tyX0, kf_0, by decide, by rw [h]; exact w_169, rfl, rfl⟩
theorem fs_D_56 (M : Mt) (h : M.1.cls = "NightDitch$Ditch") : q_Fs M 56 0 12 11 (.array .int) true := ⟨RX0, TX0, tyX0, kf_0, by decide, by rw [h]; exact w_171, rfl, rfl⟩
theorem fs_D_82 (M : Mt) (h : M.1.cls = "NightDitch$Ditch") : q_Fs M 82 1 7 6 .int false := ⟨RX1, TX1, tyX1, kf_1, by decide, by rw [h]; exact w_72, rfl, rfl⟩
theorem fs_D_91 (M : Mt) (h : M.1.cls = "NightDitch$Ditch") : q_Fs M 91 1 7 1 .int false := ⟨RX1, TX1, tyX1, kf_1, by decide, by rw [h]; exact w_59, rfl, rfl⟩
theorem fs_D_110 (M : Mt) (h : M.1.cls = "NightDitch$Ditch") : q_Fs M 110 1 7 2 .int false := ⟨RX1, TX1, tyX1, kf_1, by decide, by rw [h]; exact w_63, rfl, rfl⟩
theorem fs_D_135 (M : Mt) (h : M.1.cls = "NightDitch$Ditch") : q_Fs M 135 2 13 0 .int false := ⟨RX2, TX2, tyX2, kf_2, by decide, by rw [h]; exact w_93, rfl, rfl⟩
theorem fs_D_138 (M : Mt) (h : M.1.cls = "NightDitch$Ditch") : q_Fs M 138 2 13 1 .int false := ⟨RX2, TX2, tyX2, kf_2, by decide, by rw [h]; exact w_94, rfl, rfl⟩
theorem fs_D_141 (M : Mt) (h : M.1.cls = "NightDitch$Ditch") : q_Fs M 141 2 13 2 .int false := ⟨RX2, TX2, tyX2, kf_2, by decide, by rw [h]; exact w_97, rfl, rfl⟩
theorem fs_D_143 (M : Mt) (h : M.1.cls = "NightDitch$Ditch") : q_Fs M 143 2 13 3 .int false := ⟨RX2, TX2, tyX2, kf_2, by decide, by rw [h]; exact w_99, rfl, rfl⟩
theorem fs_D_145 (M : Mt) (h : M.1.cls = "NightDitch$Ditch") : q_Fs M 145 2 13 4 .int false := ⟨RX2, TX2, tyX2, kf_2, by decide, by rw [h]; exact w_101, rfl, rfl⟩
theorem fs_D_151 (M : Mt) (h : M.1.cls = "NightDitch$Ditch") : q_Fs M 151 2 13 5 .int false := ⟨RX2, TX2, tyX2, kf_2, by decide, by rw [h]; exact w_103, rfl, rfl⟩
theorem fs_D_153 (M : Mt) (h : M.1.cls = "NightDitch$Ditch") : q_Fs M 153 1 7 4 .int false := ⟨RX1, TX1, tyX1, kf_1, by decide, by rw [h]; exact w_67, rfl, rfl⟩
theorem fs_D_158 (M : Mt) (h : M.1.cls = "NightDitch$Ditch") : q_Fs M 158 2 13 6 .int false := ⟨RX2, TX2, tyX2, kf_2, by decide, by rw [h]; exact w_105, rfl, rfl⟩
theorem fs_D_169 (M : Mt) (h : M.1.cls = "NightDitch$Ditch") : q_Fs M 169 2 13 11 .int false := ⟨RX2, TX2, tyX2, kf_2, by decide, by rw [h]; exact w_111, rfl, rfl⟩
theorem fs_D_186 (M : Mt) (h : M.1.cls = "NightDitch$Ditch") : q_Fs M 186 2 13 12 .int false := ⟨RX2, TX2, tyX2, kf_2, by decide, by rw [h]; exact w_114, rfl, rfl⟩
theorem fs_D_189 (M : Mt) (h : M.1.cls = "NightDitch$Ditch") : q_Fs M 189 1 7 5 .int false := ⟨RX1, TX1, tyX1, kf_1, by decide, by rw [h]; exact w_69, rfl, rfl⟩
theorem fs_F_9 (M : Mt) (h : M.1.cls = "NightDitch$Farm") : q_Fs M 9 1 7 0 .int false := ⟨RX1, TX1, tyX1, kf_1, by decide, by rw [h]; exact w_57, rfl, rfl⟩
theorem fs_F_15 (M : Mt) (h : M.1.cls = "NightDitch$Farm") : q_Fs M 15 1 7 1 .int false := ⟨RX1, TX1, tyX1, kf_1, by decide, by rw [h]; exact w_58, rfl, rfl⟩
theorem fs_F_18 (M : Mt) (h : M.1.cls = "NightDitch$Farm") : q_Fs M 18 1 7 2 .int false := ⟨RX1, TX1, tyX1, kf_1, by decide, by rw [h]; exact w_62, rfl, rfl⟩
theorem fs_F_21 (M : Mt) (h : M.1.cls = "NightDitch$Farm") : q_Fs M 21 1 7 3 .int false := ⟨RX1, TX1, tyX1, kf_1, by decide, by rw [h]; exact w_65, rfl, rfl⟩
theorem fs_F_24 (M : Mt) (h : M.1.cls = "NightDitch$Farm") : q_Fs M 24 1 7 4 .int false := ⟨RX1, TX1, tyX1, kf_1, by decide, by rw [h]; exact w_66, rfl, rfl⟩
theorem fs_F_27 (M : Mt) (h : M.1.cls = "NightDitch$Farm") : q_Fs M 27 1 7 5 .int false := ⟨RX1, TX1, tyX1, kf_1, by decide, by rw [h]; exact w_68, rfl, rfl⟩
theorem fs_F_30 (M : Mt) (h : M.1.cls = "NightDitch$Farm") : q_Fs M 30 1 7 6 .int false := ⟨RX1, TX1, tyX1, kf_1, by decide, by rw [h]; exact w_71, rfl, rfl⟩
theorem fs_M_7 (M : Mt) (h : M.1.cls = "NightDitch$Meet") : q_Fs M 7 2 13 8 .int false := ⟨RX2, TX2, tyX2, kf_2, by decide, by rw [h]; exact w_107, rfl, rfl⟩
theorem fs_M_13 (M : Mt) (h : M.1.cls = "NightDitch$Meet") : q_Fs M 13 2 13 10 .int false := ⟨RX2, TX2, tyX2, kf_2, by decide, by rw [h]; exact w_109, rfl, rfl⟩
theorem fs_M_16 (M : Mt) (h : M.1.cls = "NightDitch$Meet") : q_Fs M 16 2 13 5 .int false := ⟨RX2, TX2, tyX2, kf_2, by decide, by rw [h]; exact w_102, rfl, rfl⟩
theorem fs_M_19 (M : Mt) (h : M.1.cls = "NightDitch$Meet") : q_Fs M 19 2 13 6 .int false := ⟨RX2, TX2, tyX2, kf_2, by decide, by rw [h]; exact w_104, rfl, rfl⟩
theorem fs_M_22 (M : Mt) (h : M.1.cls = "NightDitch$Meet") : q_Fs M 22 2 13 3 .int false := ⟨RX2, TX2, tyX2, kf_2, by decide, by rw [h]; exact w_98, rfl, rfl⟩
theorem fs_M_25 (M : Mt) (h : M.1.cls = "NightDitch$Meet") : q_Fs M 25 2 13 4 .int false := ⟨RX2, TX2, tyX2, kf_2, by decide, by rw [h]; exact w_100, rfl, rfl⟩
theorem fs_M_28 (M : Mt) (h : M.1.cls = "NightDitch$Meet") : q_Fs M 28 2 13 2 .int false := ⟨RX2, TX2, tyX2, kf_2, by decide, by rw [h]; exact w_96, rfl, rfl⟩
theorem fs_M_35 (M : Mt) (h : M.1.cls = "NightDitch$Meet") : q_Fs M 35 2 13 7 .int false := ⟨RX2, TX2, tyX2, kf_2, by decide, by rw [h]; exact w_106, rfl, rfl⟩
theorem fs_M_38 (M : Mt) (h : M.1.cls = "NightDitch$Meet") : q_Fs M 38 2 13 9 .int false := ⟨RX2, TX2, tyX2, kf_2, by decide, by rw [h]; exact w_108, rfl, rfl⟩
theorem fs_M_47 (M : Mt) (h : M.1.cls = "NightDitch$Meet") : q_Fs M 47 2 13 11 .int false := ⟨RX2, TX2, tyX2, kf_2, by decide, by rw [h]; exact w_110, rfl, rfl⟩
theorem fs_M_50 (M : Mt) (h : M.1.cls = "NightDitch$Meet") : q_Fs M 50 2 13 12 .int false := ⟨RX2, TX2, tyX2, kf_2, by decide, by rw [h]; exact w_113, rfl, rfl⟩
theorem fs_O_9 (M : Mt) (h : M.1.cls = "NightDitch$Orders") : q_Fs M 9 3 7 0 (.array .int) true := ⟨RX3, TX3, tyX3, kf_3, by decide, by rw [h]; exact w_205, rfl, rfl⟩
theorem fs_O_15 (M : Mt) (h : M.1.cls = "NightDitch$Orders") : q_Fs M 15 3 7 1 (.array .long) true := ⟨RX3, TX3, tyX3, kf_3, by decide, by rw [h]; exact w_206, rfl, rfl⟩
theorem fs_O_19 (M : Mt) (h : M.1.cls = "NightDitch$Orders") : q_Fs M 19 3 7 2 (.array .int) true := ⟨RX3, TX3, tyX3, kf_3, by decide, by rw [h]; exact w_207, rfl, rfl⟩
theorem fs_O_25 (M : Mt) (h : M.1.cls = "NightDitch$Orders") : q_Fs M 25 3 7 3 (.object "NightDitch$Meet") true := ⟨RX3, TX3, tyX3, kf_3, by decide, by rw [h]; exact w_208, rfl, rfl⟩
theorem fs_O_29 (M : Mt) (h : M.1.cls = "NightDitch$Orders") : q_Fs M 29 3 7 4 .int false := ⟨RX3, TX3, tyX3, kf_3, by decide, by rw [h]; exact w_209, rfl, rfl⟩
theorem fs_O_33 (M : Mt) (h : M.1.cls = "NightDitch$Orders") : q_Fs M 33 3 7 5 .long false := ⟨RX3, TX3, tyX3, kf_3, by decide, by rw [h]; exact w_210, rfl, rfl⟩
theorem fs_O_37 (M : Mt) (h : M.1.cls = "NightDitch$Orders") : q_Fs M 37 3 7 6 .int false := ⟨RX3, TX3, tyX3, kf_3, by decide, by rw [h]; exact w_212, rfl, rfl⟩
theorem fs_O_40 (M : Mt) (h : M.1.cls = "NightDitch$Orders") : q_Fs M 40 0 12 4 .int false := ⟨RX0, TX0, tyX0, kf_0, by decide, by rw [h]; exact w_154, rfl, rfl⟩
theorem fs_O_55 (M : Mt) (h : M.1.cls = "NightDitch$Orders") : q_Fs M 55 0 12 3 (.object "NightDitch$Text") true := ⟨RX0, TX0, tyX0, kf_0, by decide, by rw [h]; exact w_151, rfl, rfl⟩
theorem fs_O_85 (M : Mt) (h : M.1.cls = "NightDitch$Orders") : q_Fs M 85 0 12 2 (.array .int) true := ⟨RX0, TX0, tyX0, kf_0, by decide, by rw [h]; exact w_148, rfl, rfl⟩
theorem fs_S_11 (M : Mt) (h : M.1.cls = "NightDitch$Sheets") : q_Fs M 11 4 3 0 (.array (.array .long)) true := ⟨RX4, TX4, tyX4, kf_4, by decide, by rw [h]; exact w_262, rfl, rfl⟩
theorem fs_S_16 (M : Mt) (h : M.1.cls = "NightDitch$Sheets") : q_Fs M 16 4 3 1 (.array .int) true := ⟨RX4, TX4, tyX4, kf_4, by decide, by rw [h]; exact w_264, rfl, rfl⟩
theorem fs_S_20 (M : Mt) (h : M.1.cls = "NightDitch$Sheets") : q_Fs M 20 4 3 2 (.array .int) true := ⟨RX4, TX4, tyX4, kf_4, by decide, by rw [h]; exact w_266, rfl, rfl⟩
theorem fs_P_9 (M : Mt) (h : M.1.cls = "NightDitch$Tape") : q_Fs M 9 5 4 0 (.array .int) true := ⟨RX5, TX5, tyX5, kf_5, by decide, by rw [h]; exact w_238, rfl, rfl⟩
theorem fs_P_18 (M : Mt) (h : M.1.cls = "NightDitch$Tape") : q_Fs M 18 5 4 1 (.object "NightDitch$Text") true := ⟨RX5, TX5, tyX5, kf_5, by decide, by rw [h]; exact w_239, rfl, rfl⟩
theorem fs_P_22 (M : Mt) (h : M.1.cls = "NightDitch$Tape") : q_Fs M 22 5 4 2 .int false := ⟨RX5, TX5, tyX5, kf_5, by decide, by rw [h]; exact w_241, rfl, rfl⟩
theorem fs_P_26 (M : Mt) (h : M.1.cls = "NightDitch$Tape") : q_Fs M 26 5 4 3 .int false := ⟨RX5, TX5, tyX5, kf_5, by decide, by rw [h]; exact w_243, rfl, rfl⟩
theorem fs_P_29 (M : Mt) (h : M.1.cls = "NightDitch$Tape") : q_Fs M 29 6 4 3 .int false := ⟨RX6, TX6, tyX6, kf_6, by decide, by rw [h]; exact w_38, rfl, rfl⟩
theorem fs_T_9 (M : Mt) (h : M.1.cls = "NightDitch$Text") : q_Fs M 9 6 4 0 (.array .int) true := ⟨RX6, TX6, tyX6, kf_6, by decide, by rw [h]; exact w_34, rfl, rfl⟩
theorem fs_T_15 (M : Mt) (h : M.1.cls = "NightDitch$Text") : q_Fs M 15 6 4 1 (.array .int) true := ⟨RX6, TX6, tyX6, kf_6, by decide, by rw [h]; exact w_35, rfl, rfl⟩
theorem fs_T_18 (M : Mt) (h : M.1.cls = "NightDitch$Text") : q_Fs M 18 6 4 2 .int false := ⟨RX6, TX6, tyX6, kf_6, by decide, by rw [h]; exact w_36, rfl, rfl⟩
theorem fs_T_22 (M : Mt) (h : M.1.cls = "NightDitch$Text") : q_Fs M 22 6 4 3 .int false := ⟨RX6, TX6, tyX6, kf_6, by decide, by rw [h]; exact w_37, rfl, rfl⟩
theorem fs_T_54 (M : Mt) (h : M.1.cls = "NightDitch$Text") : q_Fs M 54 0 12 6 .int false := ⟨RX0, TX0, tyX0, kf_0, by decide, by rw [h]; exact w_162, rfl, rfl⟩
theorem fs_T_59 (M : Mt) (h : M.1.cls = "NightDitch$Text") : q_Fs M 59 0 12 5 .int false := ⟨RX0, TX0, tyX0, kf_0, by decide, by rw [h]; exact w_159, rfl, rfl⟩
theorem fs_T_62 (M : Mt) (h : M.1.cls = "NightDitch$Text") : q_Fs M 62 0 12 0 (.array (.object "NightDitch$Farm")) true := ⟨RX0, TX0, tyX0, kf_0, by decide, by rw [h]; exact w_144, rfl, rfl⟩
theorem fs_T_66 (M : Mt) (h : M.1.cls = "NightDitch$Text") : q_Fs M 66 1 7 1 .int false := ⟨RX1, TX1, tyX1, kf_1, by decide, by rw [h]; exact w_60, rfl, rfl⟩
theorem fs_T_71 (M : Mt) (h : M.1.cls = "NightDitch$Text") : q_Fs M 71 0 12 4 .int false := ⟨RX0, TX0, tyX0, kf_0, by decide, by rw [h]; exact w_156, rfl, rfl⟩
theorem m_N_init : q_MI mt_N_init 0 := ⟨⟨w_16, w_1, by decide +kernel, ⟨by decide +kernel, by decide +kernel, by decide +kernel⟩, by decide⟩, w_15, rfl, rfl⟩
theorem m_N_farm : q_MV mt_N_farm 7 3 := ⟨⟨w_303, w_1, by decide +kernel, ⟨by decide +kernel, by decide +kernel, by decide +kernel⟩, by decide⟩, w_301, w_302, rfl, by decide⟩
theorem m_N_set : q_MV mt_N_set 7 3 := ⟨⟨w_331, w_1, by decide +kernel, ⟨by decide +kernel, by decide +kernel, by decide +kernel⟩, by decide⟩, w_329, w_330, rfl, by decide⟩
theorem m_N_of : q_MV mt_N_of 7 2 := ⟨⟨w_348, w_1, by decide +kernel, ⟨by decide +kernel, by decide +kernel, by decide +kernel⟩, by decide⟩, w_346, w_347, rfl, by decide⟩
theorem m_N_as : q_MV mt_N_as 7 2 := ⟨⟨w_422, w_1, by decide +kernel, ⟨by decide +kernel, by decide +kernel, by decide +kernel⟩, by decide⟩, w_420, w_421, rfl, by decide⟩
theorem m_N_rule : q_MV mt_N_rule 7 2 := ⟨⟨w_433, w_1, by decide +kernel, ⟨by decide +kernel, by decide +kernel, by decide +kernel⟩, by decide⟩, w_431, w_432, rfl, by decide⟩
theorem m_N_dry : q_MV mt_N_dry 7 1 := ⟨⟨w_439, w_1, by decide +kernel, ⟨by decide +kernel, by decide +kernel, by decide +kernel⟩, by decide⟩, w_437, w_438, rfl, by decide⟩
theorem m_N_year : q_MV mt_N_year 7 0 := ⟨⟨w_443, w_1, by decide +kernel, ⟨by decide +kernel, by decide +kernel, by decide +kernel⟩, by decide⟩, w_441, w_442, rfl, by decide⟩
theorem m_N_turn : q_MV mt_N_turn 7 1 := ⟨⟨w_453, w_1, by decide +kernel, ⟨by decide +kernel, by decide +kernel, by decide +kernel⟩, by decide⟩, w_451, w_452, rfl, by decide⟩
theorem m_N_swap : q_MV mt_N_swap 7 2 := ⟨⟨w_457, w_1, by decide +kernel, ⟨by decide +kernel, by decide +kernel, by decide +kernel⟩, by decide⟩, w_455, w_456, rfl, by decide⟩
theorem m_N_turns : q_MV mt_N_turns 7 1 := ⟨⟨w_461, w_1, by decide +kernel, ⟨by decide +kernel, by decide +kernel, by decide +kernel⟩, by decide⟩, w_459, w_460, rfl, by decide⟩
theorem m_N_told : q_MV mt_N_told 7 0 := ⟨⟨w_477, w_1, by decide +kernel, ⟨by decide +kernel, by decide +kernel, by decide +kernel⟩, by decide⟩, w_475, w_476, rfl, by decide⟩
theorem m_N_best : q_MV mt_N_best 7 1 := ⟨⟨w_486, w_1, by decide +kernel, ⟨by decide +kernel, by decide +kernel, by decide +kernel⟩, by decide⟩, w_484, w_485, rfl, by decide⟩
theorem m_N_share : q_MV mt_N_share 7 1 := ⟨⟨w_550, w_1, by decide +kernel, ⟨by decide +kernel, by decide +kernel, by decide +kernel⟩, by decide⟩, w_548, w_549, rfl, by decide⟩
theorem m_N_rest : q_MV mt_N_rest 7 2 := ⟨⟨w_558, w_1, by decide +kernel, ⟨by decide +kernel, by decide +kernel, by decide +kernel⟩, by decide⟩, w_556, w_557, rfl, by decide⟩
theorem m_N_lost : q_MV mt_N_lost 7 1 := ⟨⟨w_580, w_1, by decide +kernel, ⟨by decide +kernel, by decide +kernel, by decide +kernel⟩, by decide⟩, w_578, w_579, rfl, by decide⟩
theorem m_N_least : q_MV mt_N_least 7 1 := ⟨⟨w_590, w_1, by decide +kernel, ⟨by decide +kernel, by decide +kernel, by decide +kernel⟩, by decide⟩, w_588, w_589, rfl, by decide⟩
theorem m_N_hire : q_MV mt_N_hire 7 1 := ⟨⟨w_622, w_1, by decide +kernel, ⟨by decide +kernel, by decide +kernel, by decide +kernel⟩, by decide⟩, w_620, w_621, rfl, by decide⟩
theorem m_N_breaks : q_MV mt_N_breaks 7 1 := ⟨⟨w_626, w_1, by decide +kernel, ⟨by decide +kernel, by decide +kernel, by decide +kernel⟩, by decide⟩, w_624, w_625, rfl, by decide⟩
theorem m_N_blame : q_MV mt_N_blame 7 1 := ⟨⟨w_631, w_1, by decide +kernel, ⟨by decide +kernel, by decide +kernel, by decide +kernel⟩, by decide⟩, w_629, w_630, rfl, by decide⟩
theorem m_N_always : q_MV mt_N_always 7 0 := ⟨⟨w_638, w_1, by decide +kernel, ⟨by decide +kernel, by decide +kernel, by decide +kernel⟩, by decide⟩, w_636, w_637, rfl, by decide⟩
theorem m_N_feed : q_MV mt_N_feed 7 2 := ⟨⟨w_642, w_1, by decide +kernel, ⟨by decide +kernel, by decide +kernel, by decide +kernel⟩, by decide⟩, w_640, w_641, rfl, by decide⟩
theorem m_N_wipe : q_MV mt_N_wipe 7 0 := ⟨⟨w_650, w_1, by decide +kernel, ⟨by decide +kernel, by decide +kernel, by decide +kernel⟩, by decide⟩, w_648, w_649, rfl, by decide⟩
theorem m_N_text : q_MV mt_N_text 7 0 := ⟨⟨w_654, w_1, by decide +kernel, ⟨by decide +kernel, by decide +kernel, by decide +kernel⟩, by decide⟩, w_652, w_653, rfl, by decide⟩
theorem m_N_plain : q_MV mt_N_plain 7 0 := ⟨⟨w_708, w_1, by decide +kernel, ⟨by decide +kernel, by decide +kernel, by decide +kernel⟩, by decide⟩, w_706, w_707, rfl, by decide⟩
theorem m_N_gives : q_MV mt_N_gives 7 1 := ⟨⟨w_713, w_1, by decide +kernel, ⟨by decide +kernel, by decide +kernel, by decide +kernel⟩, by decide⟩, w_711, w_712, rfl, by decide⟩
theorem m_N_seed : q_MV mt_N_seed 7 1 := ⟨⟨w_718, w_1, by decide +kernel, ⟨by decide +kernel, by decide +kernel, by decide +kernel⟩, by decide⟩, w_716, w_717, rfl, by decide⟩
theorem m_N_nights : q_MV mt_N_nights 7 1 := ⟨⟨w_722, w_1, by decide +kernel, ⟨by decide +kernel, by decide +kernel, by decide +kernel⟩, by decide⟩, w_720, w_721, rfl, by decide⟩
theorem m_N_ahead : q_MV mt_N_ahead 7 2 := ⟨⟨w_740, w_1, by decide +kernel, ⟨by decide +kernel, by decide +kernel, by decide +kernel⟩, by decide⟩, w_738, w_739, rfl, by decide⟩
theorem m_N_purse : q_MV mt_N_purse 7 1 := ⟨⟨w_744, w_1, by decide +kernel, ⟨by decide +kernel, by decide +kernel, by decide +kernel⟩, by decide⟩, w_742, w_743, rfl, by decide⟩
theorem m_N_sheet : q_MV mt_N_sheet 7 3 := ⟨⟨w_756, w_1, by decide +kernel, ⟨by decide +kernel, by decide +kernel, by decide +kernel⟩, by decide⟩, w_754, w_755, rfl, by decide⟩
theorem m_N_write : q_MV mt_N_write 7 3 := ⟨⟨w_774, w_1, by decide +kernel, ⟨by decide +kernel, by decide +kernel, by decide +kernel⟩, by decide⟩, w_772, w_773, rfl, by decide⟩
theorem m_N_copy : q_MV mt_N_copy 7 5 := ⟨⟨w_790, w_1, by decide +kernel, ⟨by decide +kernel, by decide +kernel, by decide +kernel⟩, by decide⟩, w_788, w_789, rfl, by decide⟩
theorem m_N_worths : q_MV mt_N_worths 7 1 := ⟨⟨w_799, w_1, by decide +kernel, ⟨by decide +kernel, by decide +kernel, by decide +kernel⟩, by decide⟩, w_797, w_798, rfl, by decide⟩
theorem m_N_read : q_MV mt_N_read 7 1 := ⟨⟨w_803, w_1, by decide +kernel, ⟨by decide +kernel, by decide +kernel, by decide +kernel⟩, by decide⟩, w_801, w_802, rfl, by decide⟩
theorem m_N_image : q_MV mt_N_image 7 0 := ⟨⟨w_807, w_1, by decide +kernel, ⟨by decide +kernel, by decide +kernel, by decide +kernel⟩, by decide⟩, w_805, w_806, rfl, by decide⟩
theorem m_N_undo : q_MV mt_N_undo 7 0 := ⟨⟨w_811, w_1, by decide +kernel, ⟨by decide +kernel, by decide +kernel, by decide +kernel⟩, by decide⟩, w_809, w_810, rfl, by decide⟩
theorem m_N_tear : q_MV mt_N_tear 7 0 := ⟨⟨w_815, w_1, by decide +kernel, ⟨by decide +kernel, by decide +kernel, by decide +kernel⟩, by decide⟩, w_813, w_814, rfl, by decide⟩
theorem m_N_count : q_MV mt_N_count 7 1 := ⟨⟨w_819, w_1, by decide +kernel, ⟨by decide +kernel, by decide +kernel, by decide +kernel⟩, by decide⟩, w_817, w_818, rfl, by decide⟩
theorem m_N_status : q_MV mt_N_status 7 1 := ⟨⟨w_823, w_1, by decide +kernel, ⟨by decide +kernel, by decide +kernel, by decide +kernel⟩, by decide⟩, w_821, w_822, rfl, by decide⟩
theorem m_N_finding : q_MV mt_N_finding 7 1 := ⟨⟨w_318, w_1, by decide +kernel, ⟨by decide +kernel, by decide +kernel, by decide +kernel⟩, by decide⟩, w_317, ws_0, rfl, by decide⟩
theorem m_N_isWithin : q_MS mt_N_isWithin 3 := ⟨⟨w_306, w_1, by decide +kernel, ⟨by decide +kernel, by decide +kernel, by decide +kernel⟩, by decide⟩, w_305⟩
theorem m_N_isPart : q_MS mt_N_isPart 2 := ⟨⟨w_309, w_1, by decide +kernel, ⟨by decide +kernel, by decide +kernel, by decide +kernel⟩, by decide⟩, w_308⟩
theorem m_N_millionths : q_MS mt_N_millionths 2 := ⟨⟨w_516, w_1, by decide +kernel, ⟨by decide +kernel, by decide +kernel, by decide +kernel⟩, by decide⟩, w_515⟩
theorem m_R_init : q_MI mt_R_init 0 := ⟨⟨w_828, w_9, by decide +kernel, ⟨by decide +kernel, by decide +kernel, by decide +kernel⟩, by decide⟩, w_827, rfl, rfl⟩
theorem m_R_finds : q_MV mt_R_finds 8 1 := ⟨⟨w_960, w_9, by decide +kernel, ⟨by decide +kernel, by decide +kernel, by decide +kernel⟩, by decide⟩, w_959, ws_22, rfl, by decide⟩
theorem m_R_in : q_MS mt_R_in 3 := ⟨⟨w_955, w_9, by decide +kernel, ⟨by decide +kernel, by decide +kernel, by decide +kernel⟩, by decide⟩, w_954⟩
theorem m_R_within : q_MS mt_R_within 3 := ⟨⟨w_1010, w_9, by decide +kernel, ⟨by decide +kernel, by decide +kernel, by decide +kernel⟩, by decide⟩, w_1009⟩
theorem m_R_isFarm : q_MV mt_R_isFarm 8 1 := ⟨⟨w_973, w_9, by decide +kernel, ⟨by decide +kernel, by decide +kernel, by decide +kernel⟩, by decide⟩, w_972, ws_24, rfl, by decide⟩
theorem m_R_get : q_MV mt_R_get 8 2 := ⟨⟨w_977, w_9, by decide +kernel, ⟨by decide +kernel, by decide +kernel, by decide +kernel⟩, by decide⟩, w_976, ws_25, rfl, by decide⟩
theorem m_R_put : q_MV mt_R_put 8 3 := ⟨⟨w_965, w_9, by decide +kernel, ⟨by decide +kernel, by decide +kernel, by decide +kernel⟩, by decide⟩, w_964, ws_23, rfl, by decide⟩
theorem m_R_farm : q_MV mt_R_farm 8 3 := ⟨⟨w_952, w_9, by decide +kernel, ⟨by decide +kernel, by decide +kernel, by decide +kernel⟩, by decide⟩, w_950, w_951, rfl, by decide⟩
theorem m_R_set : q_MV mt_R_set 8 3 := ⟨⟨w_969, w_9, by decide +kernel, ⟨by decide +kernel, by decide +kernel, by decide +kernel⟩, by decide⟩, w_967, w_968, rfl, by decide⟩
theorem m_R_placeOf : q_MV mt_R_placeOf 8 1 := ⟨⟨w_985, w_9, by decide +kernel, ⟨by decide +kernel, by decide +kernel, by decide +kernel⟩, by decide⟩, w_984, ws_26, rfl, by decide⟩
theorem m_R_paysAt : q_MV mt_R_paysAt 8 2 := ⟨⟨w_989, w_9, by decide +kernel, ⟨by decide +kernel, by decide +kernel, by decide +kernel⟩, by decide⟩, w_988, ws_27, rfl, by decide⟩
theorem m_R_wantsBy : q_MV mt_R_wantsBy 8 2 := ⟨⟨w_1007, w_9, by decide +kernel, ⟨by decide +kernel, by decide +kernel, by decide +kernel⟩, by decide⟩, w_1006, ws_30, rfl, by decide⟩
theorem m_R_minds : q_MV mt_R_minds 8 1 := ⟨⟨w_1014, w_9, by decide +kernel, ⟨by decide +kernel, by decide +kernel, by decide +kernel⟩, by decide⟩, w_1013, ws_31, rfl, by decide⟩
theorem m_R_of : q_MV mt_R_of 8 2 := ⟨⟨w_981, w_9, by decide +kernel, ⟨by decide +kernel, by decide +kernel, by decide +kernel⟩, by decide⟩, w_979, w_980, rfl, by decide⟩
theorem m_R_isUnder : q_MS mt_R_isUnder 2 := ⟨⟨w_1021, w_9, by decide +kernel, ⟨by decide +kernel, by decide +kernel, by decide +kernel⟩, by decide⟩, w_1020⟩
theorem m_R_as : q_MV mt_R_as 8 2 := ⟨⟨w_1018, w_9, by decide +kernel, ⟨by decide +kernel, by decide +kernel, by decide +kernel⟩, by decide⟩, w_1016, w_1017, rfl, by decide⟩
theorem m_R_rule : q_MV mt_R_rule 8 2 := ⟨⟨w_1026, w_9, by decide +kernel, ⟨by decide +kernel, by decide +kernel, by decide +kernel⟩, by decide⟩, w_1024, w_1025, rfl, by decide⟩
theorem m_R_dry : q_MV mt_R_dry 8 1 := ⟨⟨w_1030, w_9, by decide +kernel, ⟨by decide +kernel, by decide +kernel, by decide +kernel⟩, by decide⟩, w_1028, w_1029, rfl, by decide⟩
theorem m_R_year : q_MV mt_R_year 8 0 := ⟨⟨w_1034, w_9, by decide +kernel, ⟨by decide +kernel, by decide +kernel, by decide +kernel⟩, by decide⟩, w_1032, w_1033, rfl, by decide⟩
theorem m_R_turn : q_MV mt_R_turn 8 1 := ⟨⟨w_1039, w_9, by decide +kernel, ⟨by decide +kernel, by decide +kernel, by decide +kernel⟩, by decide⟩, w_1037, w_1038, rfl, by decide⟩
theorem m_R_swap : q_MV mt_R_swap 8 2 := ⟨⟨w_1043, w_9, by decide +kernel, ⟨by decide +kernel, by decide +kernel, by decide +kernel⟩, by decide⟩, w_1041, w_1042, rfl, by decide⟩
theorem m_R_turns : q_MV mt_R_turns 8 1 := ⟨⟨w_1047, w_9, by decide +kernel, ⟨by decide +kernel, by decide +kernel, by decide +kernel⟩, by decide⟩, w_1045, w_1046, rfl, by decide⟩
theorem m_R_told : q_MV mt_R_told 8 0 := ⟨⟨w_1051, w_9, by decide +kernel, ⟨by decide +kernel, by decide +kernel, by decide +kernel⟩, by decide⟩, w_1049, w_1050, rfl, by decide⟩
theorem m_R_divisor : q_MS mt_R_divisor 2 := ⟨⟨w_1071, w_9, by decide +kernel, ⟨by decide +kernel, by decide +kernel, by decide +kernel⟩, by decide⟩, w_1070⟩
theorem m_R_findRest : q_MV mt_R_findRest 8 3 := ⟨⟨w_1068, w_9, by decide +kernel, ⟨by decide +kernel, by decide +kernel, by decide +kernel⟩, by decide⟩, w_1067, ws_34, rfl, by decide⟩
theorem m_R_findMeet : q_MV mt_R_findMeet 8 1 := ⟨⟨w_1102, w_9, by decide +kernel, ⟨by decide +kernel, by decide +kernel, by decide +kernel⟩, by decide⟩, w_1101, ws_39, rfl, by decide⟩
theorem m_R_lostThere : q_MV mt_R_lostThere 8 0 := ⟨⟨w_1077, w_9, by decide +kernel, ⟨by decide +kernel, by decide +kernel, by decide +kernel⟩, by decide⟩, w_1076, ws_35, rfl, by decide⟩
theorem m_R_meets : q_MV mt_R_meets 8 0 := ⟨⟨w_1098, w_9, by decide +kernel, ⟨by decide +kernel, by decide +kernel, by decide +kernel⟩, by decide⟩, w_1097, ws_38, rfl, by decide⟩
theorem m_R_lostAll : q_MV mt_R_lostAll 8 0 := ⟨⟨w_1110, w_9, by decide +kernel, ⟨by decide +kernel, by decide +kernel, by decide +kernel⟩, by decide⟩, w_1109, ws_40, rfl, by decide⟩
theorem m_R_findLost : q_MV mt_R_findLost 8 0 := ⟨⟨w_1064, w_9, by decide +kernel, ⟨by decide +kernel, by decide +kernel, by decide +kernel⟩, by decide⟩, w_1063, ws_33, rfl, by decide⟩
theorem m_R_tryRow : q_MV mt_R_tryRow 8 0 := ⟨⟨w_1082, w_9, by decide +kernel, ⟨by decide +kernel, by decide +kernel, by decide +kernel⟩, by decide⟩, w_1081, ws_36, rfl, by decide⟩
theorem m_R_findBest : q_MV mt_R_findBest 8 0 := ⟨⟨w_1060, w_9, by decide +kernel, ⟨by decide +kernel, by decide +kernel, by decide +kernel⟩, by decide⟩, w_1059, ws_32, rfl, by decide⟩
theorem m_R_best : q_MV mt_R_best 8 1 := ⟨⟨w_1056, w_9, by decide +kernel, ⟨by decide +kernel, by decide +kernel, by decide +kernel⟩, by decide⟩, w_1054, w_1055, rfl, by decide⟩
theorem m_R_hoursAll : q_MV mt_R_hoursAll 8 0 := ⟨⟨w_1090, w_9, by decide +kernel, ⟨by decide +kernel, by decide +kernel, by decide +kernel⟩, by decide⟩, w_1089, ws_37, rfl, by decide⟩
theorem m_R_share : q_MV mt_R_share 8 1 := ⟨⟨w_1086, w_9, by decide +kernel, ⟨by decide +kernel, by decide +kernel, by decide +kernel⟩, by decide⟩, w_1084, w_1085, rfl, by decide⟩
theorem m_R_rest : q_MV mt_R_rest 8 2 := ⟨⟨w_1094, w_9, by decide +kernel, ⟨by decide +kernel, by decide +kernel, by decide +kernel⟩, by decide⟩, w_1092, w_1093, rfl, by decide⟩
theorem m_R_lost : q_MV mt_R_lost 8 1 := ⟨⟨w_1106, w_9, by decide +kernel, ⟨by decide +kernel, by decide +kernel, by decide +kernel⟩, by decide⟩, w_1104, w_1105, rfl, by decide⟩
theorem m_R_mostTaking : q_MV mt_R_mostTaking 8 0 := ⟨⟨w_1119, w_9, by decide +kernel, ⟨by decide +kernel, by decide +kernel, by decide +kernel⟩, by decide⟩, w_1118, ws_41, rfl, by decide⟩
theorem m_R_least : q_MV mt_R_least 8 1 := ⟨⟨w_1114, w_9, by decide +kernel, ⟨by decide +kernel, by decide +kernel, by decide +kernel⟩, by decide⟩, w_1112, w_1113, rfl, by decide⟩
theorem m_R_hire : q_MV mt_R_hire 8 1 := ⟨⟨w_1123, w_9, by decide +kernel, ⟨by decide +kernel, by decide +kernel, by decide +kernel⟩, by decide⟩, w_1121, w_1122, rfl, by decide⟩
theorem m_R_breaks : q_MV mt_R_breaks 8 1 := ⟨⟨w_1127, w_9, by decide +kernel, ⟨by decide +kernel, by decide +kernel, by decide +kernel⟩, by decide⟩, w_1125, w_1126, rfl, by decide⟩
theorem m_R_blame : q_MV mt_R_blame 8 1 := ⟨⟨w_1131, w_9, by decide +kernel, ⟨by decide +kernel, by decide +kernel, by decide +kernel⟩, by decide⟩, w_1129, w_1130, rfl, by decide⟩
theorem m_R_always : q_MV mt_R_always 8 0 := ⟨⟨w_1136, w_9, by decide +kernel, ⟨by decide +kernel, by decide +kernel, by decide +kernel⟩, by decide⟩, w_1134, w_1135, rfl, by decide⟩
theorem m_R_feed : q_MV mt_R_feed 8 2 := ⟨⟨w_1140, w_9, by decide +kernel, ⟨by decide +kernel, by decide +kernel, by decide +kernel⟩, by decide⟩, w_1138, w_1139, rfl, by decide⟩
theorem m_R_wipe : q_MV mt_R_wipe 8 0 := ⟨⟨w_1144, w_9, by decide +kernel, ⟨by decide +kernel, by decide +kernel, by decide +kernel⟩, by decide⟩, w_1142, w_1143, rfl, by decide⟩
theorem m_R_emit : q_MV mt_R_emit 8 1 := ⟨⟨w_1159, w_9, by decide +kernel, ⟨by decide +kernel, by decide +kernel, by decide +kernel⟩, by decide⟩, w_1158, ws_43, rfl, by decide⟩
theorem m_R_settles : q_MV mt_R_settles 8 1 := ⟨⟨w_1178, w_9, by decide +kernel, ⟨by decide +kernel, by decide +kernel, by decide +kernel⟩, by decide⟩, w_1177, ws_47, rfl, by decide⟩
theorem m_R_waits : q_MV mt_R_waits 8 1 := ⟨⟨w_1170, w_9, by decide +kernel, ⟨by decide +kernel, by decide +kernel, by decide +kernel⟩, by decide⟩, w_1169, ws_45, rfl, by decide⟩
theorem m_R_nameOf : q_MS mt_R_nameOf 1 := ⟨⟨w_1166, w_9, by decide +kernel, ⟨by decide +kernel, by decide +kernel, by decide +kernel⟩, by decide⟩, w_1165⟩
theorem m_R_isDigit : q_MS mt_R_isDigit 1 := ⟨⟨w_1155, w_9, by decide +kernel, ⟨by decide +kernel, by decide +kernel, by decide +kernel⟩, by decide⟩, w_1154⟩
theorem m_R_ends : q_MV mt_R_ends 8 0 := ⟨⟨w_1163, w_9, by decide +kernel, ⟨by decide +kernel, by decide +kernel, by decide +kernel⟩, by decide⟩, w_1162, ws_44, rfl, by decide⟩
theorem m_R_operand : q_MV mt_R_operand 8 0 := ⟨⟨w_1152, w_9, by decide +kernel, ⟨by decide +kernel, by decide +kernel, by decide +kernel⟩, by decide⟩, w_1151, ws_42, rfl, by decide⟩
theorem m_R_top : q_MV mt_R_top 8 0 := ⟨⟨w_1182, w_9, by decide +kernel, ⟨by decide +kernel, by decide +kernel, by decide +kernel⟩, by decide⟩, w_1181, ws_48, rfl, by decide⟩
theorem m_R_operator : q_MV mt_R_operator 8 0 := ⟨⟨w_1174, w_9, by decide +kernel, ⟨by decide +kernel, by decide +kernel, by decide +kernel⟩, by decide⟩, w_1173, ws_46, rfl, by decide⟩
theorem m_R_text : q_MV mt_R_text 8 0 := ⟨⟨w_1148, w_9, by decide +kernel, ⟨by decide +kernel, by decide +kernel, by decide +kernel⟩, by decide⟩, w_1146, w_1147, rfl, by decide⟩
theorem m_R_plain : q_MV mt_R_plain 8 0 := ⟨⟨w_1186, w_9, by decide +kernel, ⟨by decide +kernel, by decide +kernel, by decide +kernel⟩, by decide⟩, w_1184, w_1185, rfl, by decide⟩
theorem m_R_factOf : q_MV mt_R_factOf 8 3 := ⟨⟨w_997, w_9, by decide +kernel, ⟨by decide +kernel, by decide +kernel, by decide +kernel⟩, by decide⟩, w_996, ws_29, rfl, by decide⟩
theorem m_R_done : q_MS mt_R_done 3 := ⟨⟨w_1000, w_9, by decide +kernel, ⟨by decide +kernel, by decide +kernel, by decide +kernel⟩, by decide⟩, w_999⟩
theorem m_R_says : q_MV mt_R_says 8 2 := ⟨⟨w_993, w_9, by decide +kernel, ⟨by decide +kernel, by decide +kernel, by decide +kernel⟩, by decide⟩, w_992, ws_28, rfl, by decide⟩
theorem m_R_gives : q_MV mt_R_gives 8 1 := ⟨⟨w_1190, w_9, by decide +kernel, ⟨by decide +kernel, by decide +kernel, by decide +kernel⟩, by decide⟩, w_1188, w_1189, rfl, by decide⟩
theorem m_R_seed : q_MV mt_R_seed 8 1 := ⟨⟨w_1194, w_9, by decide +kernel, ⟨by decide +kernel, by decide +kernel, by decide +kernel⟩, by decide⟩, w_1192, w_1193, rfl, by decide⟩
theorem m_R_draw : q_MV mt_R_draw 8 0 := ⟨⟨w_1214, w_9, by decide +kernel, ⟨by decide +kernel, by decide +kernel, by decide +kernel⟩, by decide⟩, w_1213, ws_52, rfl, by decide⟩
theorem m_R_meet : q_MV mt_R_meet 8 1 := ⟨⟨w_1210, w_9, by decide +kernel, ⟨by decide +kernel, by decide +kernel, by decide +kernel⟩, by decide⟩, w_1209, ws_51, rfl, by decide⟩
theorem m_R_night : q_MV mt_R_night 8 0 := ⟨⟨w_1206, w_9, by decide +kernel, ⟨by decide +kernel, by decide +kernel, by decide +kernel⟩, by decide⟩, w_1205, ws_50, rfl, by decide⟩
theorem m_R_goesOn : q_MV mt_R_goesOn 8 1 := ⟨⟨w_1202, w_9, by decide +kernel, ⟨by decide +kernel, by decide +kernel, by decide +kernel⟩, by decide⟩, w_1201, ws_49, rfl, by decide⟩
theorem m_R_nights : q_MV mt_R_nights 8 1 := ⟨⟨w_1198, w_9, by decide +kernel, ⟨by decide +kernel, by decide +kernel, by decide +kernel⟩, by decide⟩, w_1196, w_1197, rfl, by decide⟩
theorem m_R_ahead : q_MV mt_R_ahead 8 2 := ⟨⟨w_1219, w_9, by decide +kernel, ⟨by decide +kernel, by decide +kernel, by decide +kernel⟩, by decide⟩, w_1217, w_1218, rfl, by decide⟩
theorem m_R_purse : q_MV mt_R_purse 8 1 := ⟨⟨w_1223, w_9, by decide +kernel, ⟨by decide +kernel, by decide +kernel, by decide +kernel⟩, by decide⟩, w_1221, w_1222, rfl, by decide⟩
theorem m_R_isSheet : q_MS mt_R_isSheet 1 := ⟨⟨w_1230, w_9, by decide +kernel, ⟨by decide +kernel, by decide +kernel, by decide +kernel⟩, by decide⟩, w_1229⟩
theorem m_R_sheet : q_MV mt_R_sheet 8 3 := ⟨⟨w_1227, w_9, by decide +kernel, ⟨by decide +kernel, by decide +kernel, by decide +kernel⟩, by decide⟩, w_1225, w_1226, rfl, by decide⟩
theorem m_R_write : q_MV mt_R_write 8 3 := ⟨⟨w_1235, w_9, by decide +kernel, ⟨by decide +kernel, by decide +kernel, by decide +kernel⟩, by decide⟩, w_1233, w_1234, rfl, by decide⟩
theorem m_R_has : q_MV mt_R_has 8 3 := ⟨⟨w_1244, w_9, by decide +kernel, ⟨by decide +kernel, by decide +kernel, by decide +kernel⟩, by decide⟩, w_1243, ws_53, rfl, by decide⟩
theorem m_R_copy : q_MV mt_R_copy 8 5 := ⟨⟨w_1240, w_9, by decide +kernel, ⟨by decide +kernel, by decide +kernel, by decide +kernel⟩, by decide⟩, w_1238, w_1239, rfl, by decide⟩
theorem m_R_worths : q_MV mt_R_worths 8 1 := ⟨⟨w_1248, w_9, by decide +kernel, ⟨by decide +kernel, by decide +kernel, by decide +kernel⟩, by decide⟩, w_1246, w_1247, rfl, by decide⟩
theorem m_R_read : q_MV mt_R_read 8 1 := ⟨⟨w_1253, w_9, by decide +kernel, ⟨by decide +kernel, by decide +kernel, by decide +kernel⟩, by decide⟩, w_1251, w_1252, rfl, by decide⟩
theorem m_R_image : q_MV mt_R_image 8 0 := ⟨⟨w_1257, w_9, by decide +kernel, ⟨by decide +kernel, by decide +kernel, by decide +kernel⟩, by decide⟩, w_1255, w_1256, rfl, by decide⟩
theorem m_R_undo : q_MV mt_R_undo 8 0 := ⟨⟨w_1261, w_9, by decide +kernel, ⟨by decide +kernel, by decide +kernel, by decide +kernel⟩, by decide⟩, w_1259, w_1260, rfl, by decide⟩
theorem m_R_tear : q_MV mt_R_tear 8 0 := ⟨⟨w_1265, w_9, by decide +kernel, ⟨by decide +kernel, by decide +kernel, by decide +kernel⟩, by decide⟩, w_1263, w_1264, rfl, by decide⟩
theorem m_R_count : q_MV mt_R_count 8 1 := ⟨⟨w_1269, w_9, by decide +kernel, ⟨by decide +kernel, by decide +kernel, by decide +kernel⟩, by decide⟩, w_1267, w_1268, rfl, by decide⟩
theorem m_R_status : q_MV mt_R_status 8 1 := ⟨⟨w_1273, w_9, by decide +kernel, ⟨by decide +kernel, by decide +kernel, by decide +kernel⟩, by decide⟩, w_1271, w_1272, rfl, by decide⟩
theorem m_D_init : q_MI mt_D_init 0 := ⟨⟨w_24, w_2, by decide +kernel, ⟨by decide +kernel, by decide +kernel, by decide +kernel⟩, by decide⟩, w_23, rfl, rfl⟩
theorem m_D_become : q_MV mt_D_become 0 1 := ⟨⟨w_595, w_2, by decide +kernel, ⟨by decide +kernel, by decide +kernel, by decide +kernel⟩, by decide⟩, w_593, w_594, rfl, by decide⟩
theorem m_D_hasFarm : q_MV mt_D_hasFarm 0 1 := ⟨⟨w_335, w_2, by decide +kernel, ⟨by decide +kernel, by decide +kernel, by decide +kernel⟩, by decide⟩, w_333, w_334, rfl, by decide⟩
theorem m_D_settleFarm : q_MV mt_D_settleFarm 0 3 := ⟨⟨w_323, w_2, by decide +kernel, ⟨by decide +kernel, by decide +kernel, by decide +kernel⟩, by decide⟩, w_321, w_322, rfl, by decide⟩
theorem m_D_passYear : q_MV mt_D_passYear 0 0 := ⟨⟨w_448, w_2, by decide +kernel, ⟨by decide +kernel, by decide +kernel, by decide +kernel⟩, by decide⟩, w_446, w_447, rfl, by decide⟩
theorem m_D_allHours : q_MV mt_D_allHours 0 0 := ⟨⟨w_554, w_2, by decide +kernel, ⟨by decide +kernel, by decide +kernel, by decide +kernel⟩, by decide⟩, w_552, w_553, rfl, by decide⟩
theorem m_D_placeOf : q_MV mt_D_placeOf 0 1 := ⟨⟨w_356, w_2, by decide +kernel, ⟨by decide +kernel, by decide +kernel, by decide +kernel⟩, by decide⟩, w_354, w_355, rfl, by decide⟩
theorem m_D_isOrder : q_MV mt_D_isOrder 0 1 := ⟨⟨w_465, w_2, by decide +kernel, ⟨by decide +kernel, by decide +kernel, by decide +kernel⟩, by decide⟩, w_463, w_464, rfl, by decide⟩
theorem m_D_putOrder : q_MV mt_D_putOrder 0 1 := ⟨⟨w_473, w_2, by decide +kernel, ⟨by decide +kernel, by decide +kernel, by decide +kernel⟩, by decide⟩, w_471, w_472, rfl, by decide⟩
theorem m_D_digit : q_MV mt_D_digit 0 2 := ⟨⟨w_469, w_2, by decide +kernel, ⟨by decide +kernel, by decide +kernel, by decide +kernel⟩, by decide⟩, w_468, ws_4, rfl, by decide⟩
theorem m_D_orderNumber : q_MV mt_D_orderNumber 0 0 := ⟨⟨w_482, w_2, by decide +kernel, ⟨by decide +kernel, by decide +kernel, by decide +kernel⟩, by decide⟩, w_480, w_481, rfl, by decide⟩
theorem m_D_paysOf : q_MV mt_D_paysOf 0 1 := ⟨⟨w_352, w_2, by decide +kernel, ⟨by decide +kernel, by decide +kernel, by decide +kernel⟩, by decide⟩, w_350, w_351, rfl, by decide⟩
theorem m_D_wantsOf : q_MV mt_D_wantsOf 0 1 := ⟨⟨w_401, w_2, by decide +kernel, ⟨by decide +kernel, by decide +kernel, by decide +kernel⟩, by decide⟩, w_399, w_400, rfl, by decide⟩
theorem m_D_paysAt : q_MV mt_D_paysAt 0 2 := ⟨⟨w_360, w_2, by decide +kernel, ⟨by decide +kernel, by decide +kernel, by decide +kernel⟩, by decide⟩, w_358, w_359, rfl, by decide⟩
theorem m_D_meetCount : q_MV mt_D_meetCount 0 0 := ⟨⟨w_562, w_2, by decide +kernel, ⟨by decide +kernel, by decide +kernel, by decide +kernel⟩, by decide⟩, w_560, w_561, rfl, by decide⟩
theorem m_D_weigh : q_MV mt_D_weigh 0 0 := ⟨⟨w_566, w_2, by decide +kernel, ⟨by decide +kernel, by decide +kernel, by decide +kernel⟩, by decide⟩, w_564, w_565, rfl, by decide⟩
theorem m_D_weighMeet : q_MV mt_D_weighMeet 0 5 := ⟨⟨w_503, w_2, by decide +kernel, ⟨by decide +kernel, by decide +kernel, by decide +kernel⟩, by decide⟩, w_501, w_502, rfl, by decide⟩
theorem m_D_loses : q_MV mt_D_loses 0 0 := ⟨⟨w_584, w_2, by decide +kernel, ⟨by decide +kernel, by decide +kernel, by decide +kernel⟩, by decide⟩, w_582, w_583, rfl, by decide⟩
theorem m_D_greatestTakes : q_MV mt_D_greatestTakes 0 0 := ⟨⟨w_618, w_2, by decide +kernel, ⟨by decide +kernel, by decide +kernel, by decide +kernel⟩, by decide⟩, w_616, w_617, rfl, by decide⟩
theorem m_D_takesAtMost : q_MV mt_D_takesAtMost 0 1 := ⟨⟨w_613, w_2, by decide +kernel, ⟨by decide +kernel, by decide +kernel, by decide +kernel⟩, by decide⟩, w_611, w_612, rfl, by decide⟩
theorem m_D_passNights : q_MV mt_D_passNights 0 1 := ⟨⟨w_726, w_2, by decide +kernel, ⟨by decide +kernel, by decide +kernel, by decide +kernel⟩, by decide⟩, w_724, w_725, rfl, by decide⟩
theorem m_D_passMeet : q_MV mt_D_passMeet 0 1 := ⟨⟨w_730, w_2, by decide +kernel, ⟨by decide +kernel, by decide +kernel, by decide +kernel⟩, by decide⟩, w_729, ws_20, rfl, by decide⟩
theorem m_D_draw : q_MV mt_D_draw 0 0 := ⟨⟨w_734, w_2, by decide +kernel, ⟨by decide +kernel, by decide +kernel, by decide +kernel⟩, by decide⟩, w_733, ws_21, rfl, by decide⟩
theorem m_D_richest : q_MV mt_D_richest 0 0 := ⟨⟨w_748, w_2, by decide +kernel, ⟨by decide +kernel, by decide +kernel, by decide +kernel⟩, by decide⟩, w_746, w_747, rfl, by decide⟩
theorem m_D_poorest : q_MV mt_D_poorest 0 0 := ⟨⟨w_752, w_2, by decide +kernel, ⟨by decide +kernel, by decide +kernel, by decide +kernel⟩, by decide⟩, w_750, w_751, rfl, by decide⟩
theorem m_F_init : q_MI mt_F_init 0 := ⟨⟨w_55, w_4, by decide +kernel, ⟨by decide +kernel, by decide +kernel, by decide +kernel⟩, by decide⟩, w_54, rfl, rfl⟩
theorem m_F_begin : q_MV mt_F_begin 1 3 := ⟨⟨w_327, w_4, by decide +kernel, ⟨by decide +kernel, by decide +kernel, by decide +kernel⟩, by decide⟩, w_325, w_326, rfl, by decide⟩
theorem m_F_become : q_MV mt_F_become 1 1 := ⟨⟨w_599, w_4, by decide +kernel, ⟨by decide +kernel, by decide +kernel, by decide +kernel⟩, by decide⟩, w_597, w_598, rfl, by decide⟩
theorem m_F_tell : q_MV mt_F_tell 1 1 := ⟨⟨w_344, w_4, by decide +kernel, ⟨by decide +kernel, by decide +kernel, by decide +kernel⟩, by decide⟩, w_342, w_343, rfl, by decide⟩
theorem m_F_change : q_MV mt_F_change 1 2 := ⟨⟨w_340, w_4, by decide +kernel, ⟨by decide +kernel, by decide +kernel, by decide +kernel⟩, by decide⟩, w_338, w_339, rfl, by decide⟩
theorem m_F_isOf : q_MV mt_F_isOf 1 1 := ⟨⟨w_426, w_4, by decide +kernel, ⟨by decide +kernel, by decide +kernel, by decide +kernel⟩, by decide⟩, w_424, w_425, rfl, by decide⟩
theorem m_F_wants : q_MV mt_F_wants 1 2 := ⟨⟨w_406, w_4, by decide +kernel, ⟨by decide +kernel, by decide +kernel, by decide +kernel⟩, by decide⟩, w_404, w_405, rfl, by decide⟩
theorem m_F_minds : q_MV mt_F_minds 1 0 := ⟨⟨w_413, w_4, by decide +kernel, ⟨by decide +kernel, by decide +kernel, by decide +kernel⟩, by decide⟩, w_411, w_412, rfl, by decide⟩
theorem m_M_init : q_MI mt_M_init 0 := ⟨⟨w_91, w_5, by decide +kernel, ⟨by decide +kernel, by decide +kernel, by decide +kernel⟩, by decide⟩, w_90, rfl, rfl⟩
theorem m_M_settle : q_MV mt_M_settle 2 1 := ⟨⟨w_509, w_5, by decide +kernel, ⟨by decide +kernel, by decide +kernel, by decide +kernel⟩, by decide⟩, w_507, w_508, rfl, by decide⟩
theorem m_M_putChances : q_MV mt_M_putChances 2 4 := ⟨⟨w_513, w_5, by decide +kernel, ⟨by decide +kernel, by decide +kernel, by decide +kernel⟩, by decide⟩, w_512, ws_7, rfl, by decide⟩
theorem m_M_open : q_MV mt_M_open 2 0 := ⟨⟨w_528, w_5, by decide +kernel, ⟨by decide +kernel, by decide +kernel, by decide +kernel⟩, by decide⟩, w_526, w_527, rfl, by decide⟩
theorem m_M_loses : q_MV mt_M_loses 2 1 := ⟨⟨w_524, w_5, by decide +kernel, ⟨by decide +kernel, by decide +kernel, by decide +kernel⟩, by decide⟩, w_522, w_523, rfl, by decide⟩
theorem m_M_tell : q_MV mt_M_tell 2 1 := ⟨⟨w_572, w_5, by decide +kernel, ⟨by decide +kernel, by decide +kernel, by decide +kernel⟩, by decide⟩, w_570, w_571, rfl, by decide⟩
theorem m_M_common : q_MS mt_M_common 2 := ⟨⟨w_575, w_5, by decide +kernel, ⟨by decide +kernel, by decide +kernel, by decide +kernel⟩, by decide⟩, w_574⟩
theorem m_O_init : q_MI mt_O_init 0 := ⟨⟨w_201, w_6, by decide +kernel, ⟨by decide +kernel, by decide +kernel, by decide +kernel⟩, by decide⟩, w_200, rfl, rfl⟩
theorem m_O_search : q_MV mt_O_search 3 1 := ⟨⟨w_490, w_6, by decide +kernel, ⟨by decide +kernel, by decide +kernel, by decide +kernel⟩, by decide⟩, w_488, w_489, rfl, by decide⟩
theorem m_O_layFirst : q_MV mt_O_layFirst 3 1 := ⟨⟨w_538, w_6, by decide +kernel, ⟨by decide +kernel, by decide +kernel, by decide +kernel⟩, by decide⟩, w_537, ws_8, rfl, by decide⟩
theorem m_O_fillPays : q_MV mt_O_fillPays 3 1 := ⟨⟨w_494, w_6, by decide +kernel, ⟨by decide +kernel, by decide +kernel, by decide +kernel⟩, by decide⟩, w_493, ws_5, rfl, by decide⟩
theorem m_O_fillLost : q_MV mt_O_fillLost 3 3 := ⟨⟨w_499, w_6, by decide +kernel, ⟨by decide +kernel, by decide +kernel, by decide +kernel⟩, by decide⟩, w_498, ws_6, rfl, by decide⟩
theorem m_O_index : q_MS mt_O_index 3 := ⟨⟨w_520, w_6, by decide +kernel, ⟨by decide +kernel, by decide +kernel, by decide +kernel⟩, by decide⟩, w_519⟩
theorem m_O_layFrom : q_MV mt_O_layFrom 3 4 := ⟨⟨w_542, w_6, by decide +kernel, ⟨by decide +kernel, by decide +kernel, by decide +kernel⟩, by decide⟩, w_541, ws_9, rfl, by decide⟩
theorem m_O_closeRing : q_MV mt_O_closeRing 3 2 := ⟨⟨w_546, w_6, by decide +kernel, ⟨by decide +kernel, by decide +kernel, by decide +kernel⟩, by decide⟩, w_545, ws_10, rfl, by decide⟩
theorem m_S_init : q_MI mt_S_init 0 := ⟨⟨w_258, w_8, by decide +kernel, ⟨by decide +kernel, by decide +kernel, by decide +kernel⟩, by decide⟩, w_257, rfl, rfl⟩
theorem m_S_has : q_MV mt_S_has 4 1 := ⟨⟨w_760, w_8, by decide +kernel, ⟨by decide +kernel, by decide +kernel, by decide +kernel⟩, by decide⟩, w_758, w_759, rfl, by decide⟩
theorem m_S_isWidth : q_MV mt_S_isWidth 4 1 := ⟨⟨w_765, w_8, by decide +kernel, ⟨by decide +kernel, by decide +kernel, by decide +kernel⟩, by decide⟩, w_763, w_764, rfl, by decide⟩
theorem m_S_isMissing : q_MV mt_S_isMissing 4 1 := ⟨⟨w_778, w_8, by decide +kernel, ⟨by decide +kernel, by decide +kernel, by decide +kernel⟩, by decide⟩, w_776, w_777, rfl, by decide⟩
theorem m_S_lay : q_MV mt_S_lay 4 3 := ⟨⟨w_770, w_8, by decide +kernel, ⟨by decide +kernel, by decide +kernel, by decide +kernel⟩, by decide⟩, w_768, w_769, rfl, by decide⟩
theorem m_S_put : q_MV mt_S_put 4 3 := ⟨⟨w_783, w_8, by decide +kernel, ⟨by decide +kernel, by decide +kernel, by decide +kernel⟩, by decide⟩, w_781, w_782, rfl, by decide⟩
theorem m_S_lowest : q_MS mt_S_lowest 2 := ⟨⟨w_786, w_8, by decide +kernel, ⟨by decide +kernel, by decide +kernel, by decide +kernel⟩, by decide⟩, w_785⟩
theorem m_S_holds : q_MV mt_S_holds 4 3 := ⟨⟨w_794, w_8, by decide +kernel, ⟨by decide +kernel, by decide +kernel, by decide +kernel⟩, by decide⟩, w_792, w_793, rfl, by decide⟩
theorem m_P_init : q_MI mt_P_init 0 := ⟨⟨w_234, w_7, by decide +kernel, ⟨by decide +kernel, by decide +kernel, by decide +kernel⟩, by decide⟩, w_233, rfl, rfl⟩
theorem m_P_append : q_MV mt_P_append 5 1 := ⟨⟨w_646, w_7, by decide +kernel, ⟨by decide +kernel, by decide +kernel, by decide +kernel⟩, by decide⟩, w_644, w_645, rfl, by decide⟩
theorem m_P_parse : q_MV mt_P_parse 5 0 := ⟨⟨w_658, w_7, by decide +kernel, ⟨by decide +kernel, by decide +kernel, by decide +kernel⟩, by decide⟩, w_656, w_657, rfl, by decide⟩
theorem m_P_isSum : q_MV mt_P_isSum 5 1 := ⟨⟨w_662, w_7, by decide +kernel, ⟨by decide +kernel, by decide +kernel, by decide +kernel⟩, by decide⟩, w_661, ws_11, rfl, by decide⟩
theorem m_P_isProduct : q_MV mt_P_isProduct 5 1 := ⟨⟨w_666, w_7, by decide +kernel, ⟨by decide +kernel, by decide +kernel, by decide +kernel⟩, by decide⟩, w_665, ws_12, rfl, by decide⟩
theorem m_P_isFactor : q_MV mt_P_isFactor 5 1 := ⟨⟨w_670, w_7, by decide +kernel, ⟨by decide +kernel, by decide +kernel, by decide +kernel⟩, by decide⟩, w_669, ws_13, rfl, by decide⟩
theorem m_P_isNegated : q_MV mt_P_isNegated 5 1 := ⟨⟨w_695, w_7, by decide +kernel, ⟨by decide +kernel, by decide +kernel, by decide +kernel⟩, by decide⟩, w_694, ws_17, rfl, by decide⟩
theorem m_P_isBracket : q_MV mt_P_isBracket 5 1 := ⟨⟨w_699, w_7, by decide +kernel, ⟨by decide +kernel, by decide +kernel, by decide +kernel⟩, by decide⟩, w_698, ws_18, rfl, by decide⟩
theorem m_P_takeNumber : q_MV mt_P_takeNumber 5 0 := ⟨⟨w_682, w_7, by decide +kernel, ⟨by decide +kernel, by decide +kernel, by decide +kernel⟩, by decide⟩, w_681, ws_15, rfl, by decide⟩
theorem m_P_isDigit : q_MS mt_P_isDigit 1 := ⟨⟨w_678, w_7, by decide +kernel, ⟨by decide +kernel, by decide +kernel, by decide +kernel⟩, by decide⟩, w_677⟩
theorem m_P_passes : q_MV mt_P_passes 5 1 := ⟨⟨w_703, w_7, by decide +kernel, ⟨by decide +kernel, by decide +kernel, by decide +kernel⟩, by decide⟩, w_702, ws_19, rfl, by decide⟩
theorem m_P_isNext : q_MV mt_P_isNext 5 2 := ⟨⟨w_691, w_7, by decide +kernel, ⟨by decide +kernel, by decide +kernel, by decide +kernel⟩, by decide⟩, w_690, ws_16, rfl, by decide⟩
theorem m_P_next : q_MV mt_P_next 5 0 := ⟨⟨w_674, w_7, by decide +kernel, ⟨by decide +kernel, by decide +kernel, by decide +kernel⟩, by decide⟩, w_673, ws_14, rfl, by decide⟩
theorem m_T_init : q_MI mt_T_init 0 := ⟨⟨w_32, w_3, by decide +kernel, ⟨by decide +kernel, by decide +kernel, by decide +kernel⟩, by decide⟩, w_31, rfl, rfl⟩
theorem m_T_isThere : q_MV mt_T_isThere 6 0 := ⟨⟨w_368, w_3, by decide +kernel, ⟨by decide +kernel, by decide +kernel, by decide +kernel⟩, by decide⟩, w_366, w_367, rfl, by decide⟩
theorem m_T_become : q_MV mt_T_become 6 1 := ⟨⟨w_607, w_3, by decide +kernel, ⟨by decide +kernel, by decide +kernel, by decide +kernel⟩, by decide⟩, w_605, w_606, rfl, by decide⟩
theorem m_T_append : q_MV mt_T_append 6 1 := ⟨⟨w_686, w_3, by decide +kernel, ⟨by decide +kernel, by decide +kernel, by decide +kernel⟩, by decide⟩, w_684, w_685, rfl, by decide⟩
theorem m_T_asksPlace : q_MV mt_T_asksPlace 6 0 := ⟨⟨w_534, w_3, by decide +kernel, ⟨by decide +kernel, by decide +kernel, by decide +kernel⟩, by decide⟩, w_532, w_533, rfl, by decide⟩
theorem m_T_valueFor : q_MV mt_T_valueFor 6 3 := ⟨⟨w_364, w_3, by decide +kernel, ⟨by decide +kernel, by decide +kernel, by decide +kernel⟩, by decide⟩, w_362, w_363, rfl, by decide⟩
theorem m_T_isName : q_MS mt_T_isName 1 := ⟨⟨w_375, w_3, by decide +kernel, ⟨by decide +kernel, by decide +kernel, by decide +kernel⟩, by decide⟩, w_374⟩
theorem m_T_named : q_MS mt_T_named 4 := ⟨⟨w_378, w_3, by decide +kernel, ⟨by decide +kernel, by decide +kernel, by decide +kernel⟩, by decide⟩, w_377⟩
theorem m_T_work : q_MV mt_T_work 6 1 := ⟨⟨w_382, w_3, by decide +kernel, ⟨by decide +kernel, by decide +kernel, by decide +kernel⟩, by decide⟩, w_381, ws_2, rfl, by decide⟩
theorem m_T_joined : q_MS mt_T_joined 3 := ⟨⟨w_389, w_3, by decide +kernel, ⟨by decide +kernel, by decide +kernel, by decide +kernel⟩, by decide⟩, w_388⟩
theorem m_T_push : q_MV mt_T_push 6 1 := ⟨⟨w_372, w_3, by decide +kernel, ⟨by decide +kernel, by decide +kernel, by decide +kernel⟩, by decide⟩, w_371, ws_1, rfl, by decide⟩
theorem m_T_pop : q_MV mt_T_pop 6 0 := ⟨⟨w_386, w_3, by decide +kernel, ⟨by decide +kernel, by decide +kernel, by decide +kernel⟩, by decide⟩, w_385, ws_3, rfl, by decide⟩
end
