section
-- ===== PART A: goes FIRST, ahead of the names: the tables' words, and 'selects' of the private methods out of them =====
/-- a private method of a class that the tables say can be made, by its rows of tables_1 -/
def lw_okq (q : MethodName × Nat) : Prop := (q.1.cls ≠ "java/lang/invoke/MethodHandle" ∧ q.1.cls ≠ "java/lang/invoke/VarHandle") ∧ Cond.instantiable q.1.cls q.2 ∈ tables_1 ∧ Cond.privateMethod q.1 ∈ tables_1 ∧ Cond.instanceMethod q.1 ∈ tables_1
theorem lw_p0 : lw_okq (⟨"NightDitch", "finding", "(I)I"⟩, 8) := ⟨⟨by decide +kernel, by decide +kernel⟩, List.mem_of_getElem? (i := 13) (by decide +kernel), List.mem_of_getElem? (i := 316) (by decide +kernel), List.mem_of_getElem? (i := 317) (by decide +kernel)⟩
theorem lw_p1 : lw_okq (⟨"NightDitch$Text", "push", "(I)V"⟩, 4) := ⟨⟨by decide +kernel, by decide +kernel⟩, List.mem_of_getElem? (i := 29) (by decide +kernel), List.mem_of_getElem? (i := 370) (by decide +kernel), List.mem_of_getElem? (i := 371) (by decide +kernel)⟩
theorem lw_p2 : lw_okq (⟨"NightDitch$Text", "work", "(I)V"⟩, 4) := ⟨⟨by decide +kernel, by decide +kernel⟩, List.mem_of_getElem? (i := 29) (by decide +kernel), List.mem_of_getElem? (i := 380) (by decide +kernel), List.mem_of_getElem? (i := 381) (by decide +kernel)⟩
theorem lw_p3 : lw_okq (⟨"NightDitch$Text", "pop", "()I"⟩, 4) := ⟨⟨by decide +kernel, by decide +kernel⟩, List.mem_of_getElem? (i := 29) (by decide +kernel), List.mem_of_getElem? (i := 384) (by decide +kernel), List.mem_of_getElem? (i := 385) (by decide +kernel)⟩
theorem lw_p4 : lw_okq (⟨"NightDitch$Ditch", "digit", "(II)I"⟩, 12) := ⟨⟨by decide +kernel, by decide +kernel⟩, List.mem_of_getElem? (i := 21) (by decide +kernel), List.mem_of_getElem? (i := 467) (by decide +kernel), List.mem_of_getElem? (i := 468) (by decide +kernel)⟩
theorem lw_p5 : lw_okq (⟨"NightDitch$Orders", "fillPays", "(LNightDitch$Ditch;)V"⟩, 7) := ⟨⟨by decide +kernel, by decide +kernel⟩, List.mem_of_getElem? (i := 198) (by decide +kernel), List.mem_of_getElem? (i := 492) (by decide +kernel), List.mem_of_getElem? (i := 493) (by decide +kernel)⟩
theorem lw_p6 : lw_okq (⟨"NightDitch$Orders", "fillLost", "(LNightDitch$Ditch;II)V"⟩, 7) := ⟨⟨by decide +kernel, by decide +kernel⟩, List.mem_of_getElem? (i := 198) (by decide +kernel), List.mem_of_getElem? (i := 497) (by decide +kernel), List.mem_of_getElem? (i := 498) (by decide +kernel)⟩
theorem lw_p7 : lw_okq (⟨"NightDitch$Meet", "putChances", "(IIII)V"⟩, 13) := ⟨⟨by decide +kernel, by decide +kernel⟩, List.mem_of_getElem? (i := 88) (by decide +kernel), List.mem_of_getElem? (i := 511) (by decide +kernel), List.mem_of_getElem? (i := 512) (by decide +kernel)⟩
theorem lw_p8 : lw_okq (⟨"NightDitch$Orders", "layFirst", "(I)V"⟩, 7) := ⟨⟨by decide +kernel, by decide +kernel⟩, List.mem_of_getElem? (i := 198) (by decide +kernel), List.mem_of_getElem? (i := 536) (by decide +kernel), List.mem_of_getElem? (i := 537) (by decide +kernel)⟩
theorem lw_p9 : lw_okq (⟨"NightDitch$Orders", "layFrom", "(IIJI)V"⟩, 7) := ⟨⟨by decide +kernel, by decide +kernel⟩, List.mem_of_getElem? (i := 198) (by decide +kernel), List.mem_of_getElem? (i := 540) (by decide +kernel), List.mem_of_getElem? (i := 541) (by decide +kernel)⟩
theorem lw_p10 : lw_okq (⟨"NightDitch$Orders", "closeRing", "(JI)V"⟩, 7) := ⟨⟨by decide +kernel, by decide +kernel⟩, List.mem_of_getElem? (i := 198) (by decide +kernel), List.mem_of_getElem? (i := 544) (by decide +kernel), List.mem_of_getElem? (i := 545) (by decide +kernel)⟩
theorem lw_p11 : lw_okq (⟨"NightDitch$Tape", "isSum", "(I)Z"⟩, 4) := ⟨⟨by decide +kernel, by decide +kernel⟩, List.mem_of_getElem? (i := 231) (by decide +kernel), List.mem_of_getElem? (i := 660) (by decide +kernel), List.mem_of_getElem? (i := 661) (by decide +kernel)⟩
theorem lw_p12 : lw_okq (⟨"NightDitch$Tape", "isProduct", "(I)Z"⟩, 4) := ⟨⟨by decide +kernel, by decide +kernel⟩, List.mem_of_getElem? (i := 231) (by decide +kernel), List.mem_of_getElem? (i := 664) (by decide +kernel), List.mem_of_getElem? (i := 665) (by decide +kernel)⟩
theorem lw_p13 : lw_okq (⟨"NightDitch$Tape", "isFactor", "(I)Z"⟩, 4) := ⟨⟨by decide +kernel, by decide +kernel⟩, List.mem_of_getElem? (i := 231) (by decide +kernel), List.mem_of_getElem? (i := 668) (by decide +kernel), List.mem_of_getElem? (i := 669) (by decide +kernel)⟩
theorem lw_p14 : lw_okq (⟨"NightDitch$Tape", "next", "()I"⟩, 4) := ⟨⟨by decide +kernel, by decide +kernel⟩, List.mem_of_getElem? (i := 231) (by decide +kernel), List.mem_of_getElem? (i := 672) (by decide +kernel), List.mem_of_getElem? (i := 673) (by decide +kernel)⟩
theorem lw_p15 : lw_okq (⟨"NightDitch$Tape", "takeNumber", "()V"⟩, 4) := ⟨⟨by decide +kernel, by decide +kernel⟩, List.mem_of_getElem? (i := 231) (by decide +kernel), List.mem_of_getElem? (i := 680) (by decide +kernel), List.mem_of_getElem? (i := 681) (by decide +kernel)⟩
def lw_privs_1 : List (MethodName × Nat) := [(⟨"NightDitch", "finding", "(I)I"⟩, 8), (⟨"NightDitch$Text", "push", "(I)V"⟩, 4), (⟨"NightDitch$Text", "work", "(I)V"⟩, 4), (⟨"NightDitch$Text", "pop", "()I"⟩, 4), (⟨"NightDitch$Ditch", "digit", "(II)I"⟩, 12), (⟨"NightDitch$Orders", "fillPays", "(LNightDitch$Ditch;)V"⟩, 7), (⟨"NightDitch$Orders", "fillLost", "(LNightDitch$Ditch;II)V"⟩, 7), (⟨"NightDitch$Meet", "putChances", "(IIII)V"⟩, 13), (⟨"NightDitch$Orders", "layFirst", "(I)V"⟩, 7), (⟨"NightDitch$Orders", "layFrom", "(IIJI)V"⟩, 7), (⟨"NightDitch$Orders", "closeRing", "(JI)V"⟩, 7), (⟨"NightDitch$Tape", "isSum", "(I)Z"⟩, 4), (⟨"NightDitch$Tape", "isProduct", "(I)Z"⟩, 4), (⟨"NightDitch$Tape", "isFactor", "(I)Z"⟩, 4), (⟨"NightDitch$Tape", "next", "()I"⟩, 4), (⟨"NightDitch$Tape", "takeNumber", "()V"⟩, 4)]
theorem lw_r1 : ∀ q ∈ lw_privs_1, lw_okq q := List.forall_mem_cons.mpr ⟨lw_p0, List.forall_mem_cons.mpr ⟨lw_p1, List.forall_mem_cons.mpr ⟨lw_p2, List.forall_mem_cons.mpr ⟨lw_p3, List.forall_mem_cons.mpr ⟨lw_p4, List.forall_mem_cons.mpr ⟨lw_p5, List.forall_mem_cons.mpr ⟨lw_p6, List.forall_mem_cons.mpr ⟨lw_p7, List.forall_mem_cons.mpr ⟨lw_p8, List.forall_mem_cons.mpr ⟨lw_p9, List.forall_mem_cons.mpr ⟨lw_p10, List.forall_mem_cons.mpr ⟨lw_p11, List.forall_mem_cons.mpr ⟨lw_p12, List.forall_mem_cons.mpr ⟨lw_p13, List.forall_mem_cons.mpr ⟨lw_p14, List.forall_mem_cons.mpr ⟨lw_p15, fun _ h => absurd h List.not_mem_nil⟩⟩⟩⟩⟩⟩⟩⟩⟩⟩⟩⟩⟩⟩⟩⟩
theorem lw_p16 : lw_okq (⟨"NightDitch$Tape", "isNext", "(II)Z"⟩, 4) := ⟨⟨by decide +kernel, by decide +kernel⟩, List.mem_of_getElem? (i := 231) (by decide +kernel), List.mem_of_getElem? (i := 689) (by decide +kernel), List.mem_of_getElem? (i := 690) (by decide +kernel)⟩
theorem lw_p17 : lw_okq (⟨"NightDitch$Tape", "isNegated", "(I)Z"⟩, 4) := ⟨⟨by decide +kernel, by decide +kernel⟩, List.mem_of_getElem? (i := 231) (by decide +kernel), List.mem_of_getElem? (i := 693) (by decide +kernel), List.mem_of_getElem? (i := 694) (by decide +kernel)⟩
theorem lw_p18 : lw_okq (⟨"NightDitch$Tape", "isBracket", "(I)Z"⟩, 4) := ⟨⟨by decide +kernel, by decide +kernel⟩, List.mem_of_getElem? (i := 231) (by decide +kernel), List.mem_of_getElem? (i := 697) (by decide +kernel), List.mem_of_getElem? (i := 698) (by decide +kernel)⟩
theorem lw_p19 : lw_okq (⟨"NightDitch$Tape", "passes", "(I)Z"⟩, 4) := ⟨⟨by decide +kernel, by decide +kernel⟩, List.mem_of_getElem? (i := 231) (by decide +kernel), List.mem_of_getElem? (i := 701) (by decide +kernel), List.mem_of_getElem? (i := 702) (by decide +kernel)⟩
theorem lw_p20 : lw_okq (⟨"NightDitch$Ditch", "passMeet", "(LNightDitch$Meet;)V"⟩, 12) := ⟨⟨by decide +kernel, by decide +kernel⟩, List.mem_of_getElem? (i := 21) (by decide +kernel), List.mem_of_getElem? (i := 728) (by decide +kernel), List.mem_of_getElem? (i := 729) (by decide +kernel)⟩
theorem lw_p21 : lw_okq (⟨"NightDitch$Ditch", "draw", "()I"⟩, 12) := ⟨⟨by decide +kernel, by decide +kernel⟩, List.mem_of_getElem? (i := 21) (by decide +kernel), List.mem_of_getElem? (i := 732) (by decide +kernel), List.mem_of_getElem? (i := 733) (by decide +kernel)⟩
theorem lw_p22 : lw_okq (⟨"NightDitchModel", "finds", "(I)I"⟩, 39) := ⟨⟨by decide +kernel, by decide +kernel⟩, List.mem_of_getElem? (i := 825) (by decide +kernel), List.mem_of_getElem? (i := 958) (by decide +kernel), List.mem_of_getElem? (i := 959) (by decide +kernel)⟩
theorem lw_p23 : lw_okq (⟨"NightDitchModel", "put", "(III)V"⟩, 39) := ⟨⟨by decide +kernel, by decide +kernel⟩, List.mem_of_getElem? (i := 825) (by decide +kernel), List.mem_of_getElem? (i := 963) (by decide +kernel), List.mem_of_getElem? (i := 964) (by decide +kernel)⟩
theorem lw_p24 : lw_okq (⟨"NightDitchModel", "isFarm", "(I)Z"⟩, 39) := ⟨⟨by decide +kernel, by decide +kernel⟩, List.mem_of_getElem? (i := 825) (by decide +kernel), List.mem_of_getElem? (i := 971) (by decide +kernel), List.mem_of_getElem? (i := 972) (by decide +kernel)⟩
theorem lw_p25 : lw_okq (⟨"NightDitchModel", "get", "(II)I"⟩, 39) := ⟨⟨by decide +kernel, by decide +kernel⟩, List.mem_of_getElem? (i := 825) (by decide +kernel), List.mem_of_getElem? (i := 975) (by decide +kernel), List.mem_of_getElem? (i := 976) (by decide +kernel)⟩
theorem lw_p26 : lw_okq (⟨"NightDitchModel", "placeOf", "(I)I"⟩, 39) := ⟨⟨by decide +kernel, by decide +kernel⟩, List.mem_of_getElem? (i := 825) (by decide +kernel), List.mem_of_getElem? (i := 983) (by decide +kernel), List.mem_of_getElem? (i := 984) (by decide +kernel)⟩
theorem lw_p27 : lw_okq (⟨"NightDitchModel", "paysAt", "(II)I"⟩, 39) := ⟨⟨by decide +kernel, by decide +kernel⟩, List.mem_of_getElem? (i := 825) (by decide +kernel), List.mem_of_getElem? (i := 987) (by decide +kernel), List.mem_of_getElem? (i := 988) (by decide +kernel)⟩
theorem lw_p28 : lw_okq (⟨"NightDitchModel", "says", "(II)I"⟩, 39) := ⟨⟨by decide +kernel, by decide +kernel⟩, List.mem_of_getElem? (i := 825) (by decide +kernel), List.mem_of_getElem? (i := 991) (by decide +kernel), List.mem_of_getElem? (i := 992) (by decide +kernel)⟩
theorem lw_p29 : lw_okq (⟨"NightDitchModel", "factOf", "(III)I"⟩, 39) := ⟨⟨by decide +kernel, by decide +kernel⟩, List.mem_of_getElem? (i := 825) (by decide +kernel), List.mem_of_getElem? (i := 995) (by decide +kernel), List.mem_of_getElem? (i := 996) (by decide +kernel)⟩
theorem lw_p30 : lw_okq (⟨"NightDitchModel", "wantsBy", "(II)I"⟩, 39) := ⟨⟨by decide +kernel, by decide +kernel⟩, List.mem_of_getElem? (i := 825) (by decide +kernel), List.mem_of_getElem? (i := 1005) (by decide +kernel), List.mem_of_getElem? (i := 1006) (by decide +kernel)⟩
theorem lw_p31 : lw_okq (⟨"NightDitchModel", "minds", "(I)I"⟩, 39) := ⟨⟨by decide +kernel, by decide +kernel⟩, List.mem_of_getElem? (i := 825) (by decide +kernel), List.mem_of_getElem? (i := 1012) (by decide +kernel), List.mem_of_getElem? (i := 1013) (by decide +kernel)⟩
def lw_privs_2 : List (MethodName × Nat) := [(⟨"NightDitch$Tape", "isNext", "(II)Z"⟩, 4), (⟨"NightDitch$Tape", "isNegated", "(I)Z"⟩, 4), (⟨"NightDitch$Tape", "isBracket", "(I)Z"⟩, 4), (⟨"NightDitch$Tape", "passes", "(I)Z"⟩, 4), (⟨"NightDitch$Ditch", "passMeet", "(LNightDitch$Meet;)V"⟩, 12), (⟨"NightDitch$Ditch", "draw", "()I"⟩, 12), (⟨"NightDitchModel", "finds", "(I)I"⟩, 39), (⟨"NightDitchModel", "put", "(III)V"⟩, 39), (⟨"NightDitchModel", "isFarm", "(I)Z"⟩, 39), (⟨"NightDitchModel", "get", "(II)I"⟩, 39), (⟨"NightDitchModel", "placeOf", "(I)I"⟩, 39), (⟨"NightDitchModel", "paysAt", "(II)I"⟩, 39), (⟨"NightDitchModel", "says", "(II)I"⟩, 39), (⟨"NightDitchModel", "factOf", "(III)I"⟩, 39), (⟨"NightDitchModel", "wantsBy", "(II)I"⟩, 39), (⟨"NightDitchModel", "minds", "(I)I"⟩, 39)]
theorem lw_r2 : ∀ q ∈ lw_privs_2, lw_okq q := List.forall_mem_cons.mpr ⟨lw_p16, List.forall_mem_cons.mpr ⟨lw_p17, List.forall_mem_cons.mpr ⟨lw_p18, List.forall_mem_cons.mpr ⟨lw_p19, List.forall_mem_cons.mpr ⟨lw_p20, List.forall_mem_cons.mpr ⟨lw_p21, List.forall_mem_cons.mpr ⟨lw_p22, List.forall_mem_cons.mpr ⟨lw_p23, List.forall_mem_cons.mpr ⟨lw_p24, List.forall_mem_cons.mpr ⟨lw_p25, List.forall_mem_cons.mpr ⟨lw_p26, List.forall_mem_cons.mpr ⟨lw_p27, List.forall_mem_cons.mpr ⟨lw_p28, List.forall_mem_cons.mpr ⟨lw_p29, List.forall_mem_cons.mpr ⟨lw_p30, List.forall_mem_cons.mpr ⟨lw_p31, fun _ h => absurd h List.not_mem_nil⟩⟩⟩⟩⟩⟩⟩⟩⟩⟩⟩⟩⟩⟩⟩⟩
theorem lw_p32 : lw_okq (⟨"NightDitchModel", "findBest", "()V"⟩, 39) := ⟨⟨by decide +kernel, by decide +kernel⟩, List.mem_of_getElem? (i := 825) (by decide +kernel), List.mem_of_getElem? (i := 1058) (by decide +kernel), List.mem_of_getElem? (i := 1059) (by decide +kernel)⟩
theorem lw_p33 : lw_okq (⟨"NightDitchModel", "findLost", "()V"⟩, 39) := ⟨⟨by decide +kernel, by decide +kernel⟩, List.mem_of_getElem? (i := 825) (by decide +kernel), List.mem_of_getElem? (i := 1062) (by decide +kernel), List.mem_of_getElem? (i := 1063) (by decide +kernel)⟩
theorem lw_p34 : lw_okq (⟨"NightDitchModel", "findRest", "(III)V"⟩, 39) := ⟨⟨by decide +kernel, by decide +kernel⟩, List.mem_of_getElem? (i := 825) (by decide +kernel), List.mem_of_getElem? (i := 1066) (by decide +kernel), List.mem_of_getElem? (i := 1067) (by decide +kernel)⟩
theorem lw_p35 : lw_okq (⟨"NightDitchModel", "lostThere", "()J"⟩, 39) := ⟨⟨by decide +kernel, by decide +kernel⟩, List.mem_of_getElem? (i := 825) (by decide +kernel), List.mem_of_getElem? (i := 1075) (by decide +kernel), List.mem_of_getElem? (i := 1076) (by decide +kernel)⟩
theorem lw_p36 : lw_okq (⟨"NightDitchModel", "tryRow", "()V"⟩, 39) := ⟨⟨by decide +kernel, by decide +kernel⟩, List.mem_of_getElem? (i := 825) (by decide +kernel), List.mem_of_getElem? (i := 1080) (by decide +kernel), List.mem_of_getElem? (i := 1081) (by decide +kernel)⟩
theorem lw_p37 : lw_okq (⟨"NightDitchModel", "hoursAll", "()I"⟩, 39) := ⟨⟨by decide +kernel, by decide +kernel⟩, List.mem_of_getElem? (i := 825) (by decide +kernel), List.mem_of_getElem? (i := 1088) (by decide +kernel), List.mem_of_getElem? (i := 1089) (by decide +kernel)⟩
theorem lw_p38 : lw_okq (⟨"NightDitchModel", "meets", "()I"⟩, 39) := ⟨⟨by decide +kernel, by decide +kernel⟩, List.mem_of_getElem? (i := 825) (by decide +kernel), List.mem_of_getElem? (i := 1096) (by decide +kernel), List.mem_of_getElem? (i := 1097) (by decide +kernel)⟩
theorem lw_p39 : lw_okq (⟨"NightDitchModel", "findMeet", "(I)V"⟩, 39) := ⟨⟨by decide +kernel, by decide +kernel⟩, List.mem_of_getElem? (i := 825) (by decide +kernel), List.mem_of_getElem? (i := 1100) (by decide +kernel), List.mem_of_getElem? (i := 1101) (by decide +kernel)⟩
theorem lw_p40 : lw_okq (⟨"NightDitchModel", "lostAll", "()J"⟩, 39) := ⟨⟨by decide +kernel, by decide +kernel⟩, List.mem_of_getElem? (i := 825) (by decide +kernel), List.mem_of_getElem? (i := 1108) (by decide +kernel), List.mem_of_getElem? (i := 1109) (by decide +kernel)⟩
theorem lw_p41 : lw_okq (⟨"NightDitchModel", "mostTaking", "()J"⟩, 39) := ⟨⟨by decide +kernel, by decide +kernel⟩, List.mem_of_getElem? (i := 825) (by decide +kernel), List.mem_of_getElem? (i := 1117) (by decide +kernel), List.mem_of_getElem? (i := 1118) (by decide +kernel)⟩
theorem lw_p42 : lw_okq (⟨"NightDitchModel", "operand", "()Z"⟩, 39) := ⟨⟨by decide +kernel, by decide +kernel⟩, List.mem_of_getElem? (i := 825) (by decide +kernel), List.mem_of_getElem? (i := 1150) (by decide +kernel), List.mem_of_getElem? (i := 1151) (by decide +kernel)⟩
theorem lw_p43 : lw_okq (⟨"NightDitchModel", "emit", "(I)V"⟩, 39) := ⟨⟨by decide +kernel, by decide +kernel⟩, List.mem_of_getElem? (i := 825) (by decide +kernel), List.mem_of_getElem? (i := 1157) (by decide +kernel), List.mem_of_getElem? (i := 1158) (by decide +kernel)⟩
theorem lw_p44 : lw_okq (⟨"NightDitchModel", "ends", "()Z"⟩, 39) := ⟨⟨by decide +kernel, by decide +kernel⟩, List.mem_of_getElem? (i := 825) (by decide +kernel), List.mem_of_getElem? (i := 1161) (by decide +kernel), List.mem_of_getElem? (i := 1162) (by decide +kernel)⟩
theorem lw_p45 : lw_okq (⟨"NightDitchModel", "waits", "(I)V"⟩, 39) := ⟨⟨by decide +kernel, by decide +kernel⟩, List.mem_of_getElem? (i := 825) (by decide +kernel), List.mem_of_getElem? (i := 1168) (by decide +kernel), List.mem_of_getElem? (i := 1169) (by decide +kernel)⟩
theorem lw_p46 : lw_okq (⟨"NightDitchModel", "operator", "()Z"⟩, 39) := ⟨⟨by decide +kernel, by decide +kernel⟩, List.mem_of_getElem? (i := 825) (by decide +kernel), List.mem_of_getElem? (i := 1172) (by decide +kernel), List.mem_of_getElem? (i := 1173) (by decide +kernel)⟩
theorem lw_p47 : lw_okq (⟨"NightDitchModel", "settles", "(I)V"⟩, 39) := ⟨⟨by decide +kernel, by decide +kernel⟩, List.mem_of_getElem? (i := 825) (by decide +kernel), List.mem_of_getElem? (i := 1176) (by decide +kernel), List.mem_of_getElem? (i := 1177) (by decide +kernel)⟩
def lw_privs_3 : List (MethodName × Nat) := [(⟨"NightDitchModel", "findBest", "()V"⟩, 39), (⟨"NightDitchModel", "findLost", "()V"⟩, 39), (⟨"NightDitchModel", "findRest", "(III)V"⟩, 39), (⟨"NightDitchModel", "lostThere", "()J"⟩, 39), (⟨"NightDitchModel", "tryRow", "()V"⟩, 39), (⟨"NightDitchModel", "hoursAll", "()I"⟩, 39), (⟨"NightDitchModel", "meets", "()I"⟩, 39), (⟨"NightDitchModel", "findMeet", "(I)V"⟩, 39), (⟨"NightDitchModel", "lostAll", "()J"⟩, 39), (⟨"NightDitchModel", "mostTaking", "()J"⟩, 39), (⟨"NightDitchModel", "operand", "()Z"⟩, 39), (⟨"NightDitchModel", "emit", "(I)V"⟩, 39), (⟨"NightDitchModel", "ends", "()Z"⟩, 39), (⟨"NightDitchModel", "waits", "(I)V"⟩, 39), (⟨"NightDitchModel", "operator", "()Z"⟩, 39), (⟨"NightDitchModel", "settles", "(I)V"⟩, 39)]
theorem lw_r3 : ∀ q ∈ lw_privs_3, lw_okq q := List.forall_mem_cons.mpr ⟨lw_p32, List.forall_mem_cons.mpr ⟨lw_p33, List.forall_mem_cons.mpr ⟨lw_p34, List.forall_mem_cons.mpr ⟨lw_p35, List.forall_mem_cons.mpr ⟨lw_p36, List.forall_mem_cons.mpr ⟨lw_p37, List.forall_mem_cons.mpr ⟨lw_p38, List.forall_mem_cons.mpr ⟨lw_p39, List.forall_mem_cons.mpr ⟨lw_p40, List.forall_mem_cons.mpr ⟨lw_p41, List.forall_mem_cons.mpr ⟨lw_p42, List.forall_mem_cons.mpr ⟨lw_p43, List.forall_mem_cons.mpr ⟨lw_p44, List.forall_mem_cons.mpr ⟨lw_p45, List.forall_mem_cons.mpr ⟨lw_p46, List.forall_mem_cons.mpr ⟨lw_p47, fun _ h => absurd h List.not_mem_nil⟩⟩⟩⟩⟩⟩⟩⟩⟩⟩⟩⟩⟩⟩⟩⟩
theorem lw_p48 : lw_okq (⟨"NightDitchModel", "top", "()I"⟩, 39) := ⟨⟨by decide +kernel, by decide +kernel⟩, List.mem_of_getElem? (i := 825) (by decide +kernel), List.mem_of_getElem? (i := 1180) (by decide +kernel), List.mem_of_getElem? (i := 1181) (by decide +kernel)⟩
theorem lw_p49 : lw_okq (⟨"NightDitchModel", "goesOn", "(I)I"⟩, 39) := ⟨⟨by decide +kernel, by decide +kernel⟩, List.mem_of_getElem? (i := 825) (by decide +kernel), List.mem_of_getElem? (i := 1200) (by decide +kernel), List.mem_of_getElem? (i := 1201) (by decide +kernel)⟩
theorem lw_p50 : lw_okq (⟨"NightDitchModel", "night", "()V"⟩, 39) := ⟨⟨by decide +kernel, by decide +kernel⟩, List.mem_of_getElem? (i := 825) (by decide +kernel), List.mem_of_getElem? (i := 1204) (by decide +kernel), List.mem_of_getElem? (i := 1205) (by decide +kernel)⟩
theorem lw_p51 : lw_okq (⟨"NightDitchModel", "meet", "(I)V"⟩, 39) := ⟨⟨by decide +kernel, by decide +kernel⟩, List.mem_of_getElem? (i := 825) (by decide +kernel), List.mem_of_getElem? (i := 1208) (by decide +kernel), List.mem_of_getElem? (i := 1209) (by decide +kernel)⟩
theorem lw_p52 : lw_okq (⟨"NightDitchModel", "draw", "()I"⟩, 39) := ⟨⟨by decide +kernel, by decide +kernel⟩, List.mem_of_getElem? (i := 825) (by decide +kernel), List.mem_of_getElem? (i := 1212) (by decide +kernel), List.mem_of_getElem? (i := 1213) (by decide +kernel)⟩
theorem lw_p53 : lw_okq (⟨"NightDitchModel", "has", "(III)Z"⟩, 39) := ⟨⟨by decide +kernel, by decide +kernel⟩, List.mem_of_getElem? (i := 825) (by decide +kernel), List.mem_of_getElem? (i := 1242) (by decide +kernel), List.mem_of_getElem? (i := 1243) (by decide +kernel)⟩
def lw_privs_4 : List (MethodName × Nat) := [(⟨"NightDitchModel", "top", "()I"⟩, 39), (⟨"NightDitchModel", "goesOn", "(I)I"⟩, 39), (⟨"NightDitchModel", "night", "()V"⟩, 39), (⟨"NightDitchModel", "meet", "(I)V"⟩, 39), (⟨"NightDitchModel", "draw", "()I"⟩, 39), (⟨"NightDitchModel", "has", "(III)Z"⟩, 39)]
theorem lw_r4 : ∀ q ∈ lw_privs_4, lw_okq q := List.forall_mem_cons.mpr ⟨lw_p48, List.forall_mem_cons.mpr ⟨lw_p49, List.forall_mem_cons.mpr ⟨lw_p50, List.forall_mem_cons.mpr ⟨lw_p51, List.forall_mem_cons.mpr ⟨lw_p52, List.forall_mem_cons.mpr ⟨lw_p53, fun _ h => absurd h List.not_mem_nil⟩⟩⟩⟩⟩⟩
def lw_privs : List (MethodName × Nat) := lw_privs_1 ++ (lw_privs_2 ++ (lw_privs_3 ++ (lw_privs_4)))
def lw_tbl : List Cond := k2_sels lw_privs ++ tables_1
theorem lw_privs_ok : ∀ q ∈ lw_privs, lw_okq q := by
  show ∀ q ∈ lw_privs_1 ++ (lw_privs_2 ++ (lw_privs_3 ++ (lw_privs_4))), lw_okq q
  exact List.forall_mem_append.mpr ⟨lw_r1, List.forall_mem_append.mpr ⟨lw_r2, List.forall_mem_append.mpr ⟨lw_r3, lw_r4⟩⟩⟩
end
section
def RX0 : String := "NightDitch$Ditch"
def TX0 : u_T := fun k => match k with
  | 0 => ("NightDitch$Ditch", "farms", "[LNightDitch$Farm;", true)
  | 1 => ("NightDitch$Ditch", "order", "[I", true)
  | 2 => ("NightDitch$Ditch", "rules", "[I", true)
  | 3 => ("NightDitch$Ditch", "said", "LNightDitch$Text;", true)
  | 4 => ("NightDitch$Ditch", "count", "I", false)
  | 5 => ("NightDitch$Ditch", "year", "I", false)
  | 6 => ("NightDitch$Ditch", "dry", "I", false)
  | 7 => ("NightDitch$Ditch", "z", "I", false)
  | 8 => ("NightDitch$Ditch", "taken", "I", false)
  | 9 => ("NightDitch$Ditch", "seen", "I", false)
  | 10 => ("NightDitch$Ditch", "meets", "[LNightDitch$Meet;", true)
  | _ => ("NightDitch$Ditch", "pays", "[I", true)
def tyX0 : Nat → FieldType := fun k => match k with
  | 0 => .array (.object "NightDitch$Farm")
  | 1 => .array .int
  | 2 => .array .int
  | 3 => .object "NightDitch$Text"
  | 4 => .int
  | 5 => .int
  | 6 => .int
  | 7 => .int
  | 8 => .int
  | 9 => .int
  | 10 => .array (.object "NightDitch$Meet")
  | _ => .array .int
theorem nmX0 : ∀ a, a < 12 → ∀ b, b < 12 → a ≠ b → (TX0 a).2.1 ≠ (TX0 b).2.1 := by decide +kernel
theorem tyX0_ok : ∀ k, k < 12 → parseFieldDescriptor (TX0 k).2.2.1 = some (tyX0 k) := by decide +kernel
def RX1 : String := "NightDitch$Farm"
def TX1 : u_T := fun k => match k with
  | 0 => ("NightDitch$Farm", "kind", "I", false)
  | 1 => ("NightDitch$Farm", "hours", "I", false)
  | 2 => ("NightDitch$Farm", "worth", "I", false)
  | 3 => ("NightDitch$Farm", "sleep", "I", false)
  | 4 => ("NightDitch$Farm", "sees", "I", false)
  | 5 => ("NightDitch$Farm", "purse", "I", false)
  | _ => ("NightDitch$Farm", "anger", "I", false)
def tyX1 : Nat → FieldType := fun k => match k with
  | 0 => .int
  | 1 => .int
  | 2 => .int
  | 3 => .int
  | 4 => .int
  | 5 => .int
  | _ => .int
theorem nmX1 : ∀ a, a < 7 → ∀ b, b < 7 → a ≠ b → (TX1 a).2.1 ≠ (TX1 b).2.1 := by decide +kernel
theorem tyX1_ok : ∀ k, k < 7 → parseFieldDescriptor (TX1 k).2.2.1 = some (tyX1 k) := by decide +kernel
def RX2 : String := "NightDitch$Meet"
def TX2 : u_T := fun k => match k with
  | 0 => ("NightDitch$Meet", "owner", "I", false)
  | 1 => ("NightDitch$Meet", "taker", "I", false)
  | 2 => ("NightDitch$Meet", "wants", "I", false)
  | 3 => ("NightDitch$Meet", "pays", "I", false)
  | 4 => ("NightDitch$Meet", "given", "I", false)
  | 5 => ("NightDitch$Meet", "minds", "I", false)
  | 6 => ("NightDitch$Meet", "sight", "I", false)
  | 7 => ("NightDitch$Meet", "takesAbove", "I", false)
  | 8 => ("NightDitch$Meet", "takesBelow", "I", false)
  | 9 => ("NightDitch$Meet", "watchesAbove", "I", false)
  | 10 => ("NightDitch$Meet", "watchesBelow", "I", false)
  | 11 => ("NightDitch$Meet", "takes", "I", false)
  | _ => ("NightDitch$Meet", "watches", "I", false)
def tyX2 : Nat → FieldType := fun k => match k with
  | 0 => .int
  | 1 => .int
  | 2 => .int
  | 3 => .int
  | 4 => .int
  | 5 => .int
  | 6 => .int
  | 7 => .int
  | 8 => .int
  | 9 => .int
  | 10 => .int
  | 11 => .int
  | _ => .int
theorem nmX2 : ∀ a, a < 13 → ∀ b, b < 13 → a ≠ b → (TX2 a).2.1 ≠ (TX2 b).2.1 := by decide +kernel
theorem tyX2_ok : ∀ k, k < 13 → parseFieldDescriptor (TX2 k).2.2.1 = some (tyX2 k) := by decide +kernel
def RX3 : String := "NightDitch$Orders"
def TX3 : u_T := fun k => match k with
  | 0 => ("NightDitch$Orders", "pays", "[I", true)
  | 1 => ("NightDitch$Orders", "lost", "[J", true)
  | 2 => ("NightDitch$Orders", "laid", "[I", true)
  | 3 => ("NightDitch$Orders", "meet", "LNightDitch$Meet;", true)
  | 4 => ("NightDitch$Orders", "count", "I", false)
  | 5 => ("NightDitch$Orders", "leastLost", "J", false)
  | _ => ("NightDitch$Orders", "leastNumber", "I", false)
def tyX3 : Nat → FieldType := fun k => match k with
  | 0 => .array .int
  | 1 => .array .long
  | 2 => .array .int
  | 3 => .object "NightDitch$Meet"
  | 4 => .int
  | 5 => .long
  | _ => .int
theorem nmX3 : ∀ a, a < 7 → ∀ b, b < 7 → a ≠ b → (TX3 a).2.1 ≠ (TX3 b).2.1 := by decide +kernel
theorem tyX3_ok : ∀ k, k < 7 → parseFieldDescriptor (TX3 k).2.2.1 = some (tyX3 k) := by decide +kernel
def RX4 : String := "NightDitch$Sheets"
def TX4 : u_T := fun k => match k with
  | 0 => ("NightDitch$Sheets", "rows", "[[J", true)
  | 1 => ("NightDitch$Sheets", "widths", "[I", true)
  | _ => ("NightDitch$Sheets", "sizes", "[I", true)
def tyX4 : Nat → FieldType := fun k => match k with
  | 0 => .array (.array .long)
  | 1 => .array .int
  | _ => .array .int
theorem nmX4 : ∀ a, a < 3 → ∀ b, b < 3 → a ≠ b → (TX4 a).2.1 ≠ (TX4 b).2.1 := by decide +kernel
theorem tyX4_ok : ∀ k, k < 3 → parseFieldDescriptor (TX4 k).2.2.1 = some (tyX4 k) := by decide +kernel
def RX5 : String := "NightDitch$Tape"
def TX5 : u_T := fun k => match k with
  | 0 => ("NightDitch$Tape", "bytes", "[I", true)
  | 1 => ("NightDitch$Tape", "draft", "LNightDitch$Text;", true)
  | 2 => ("NightDitch$Tape", "length", "I", false)
  | _ => ("NightDitch$Tape", "at", "I", false)
def tyX5 : Nat → FieldType := fun k => match k with
  | 0 => .array .int
  | 1 => .object "NightDitch$Text"
  | 2 => .int
  | _ => .int
theorem nmX5 : ∀ a, a < 4 → ∀ b, b < 4 → a ≠ b → (TX5 a).2.1 ≠ (TX5 b).2.1 := by decide +kernel
theorem tyX5_ok : ∀ k, k < 4 → parseFieldDescriptor (TX5 k).2.2.1 = some (tyX5 k) := by decide +kernel
def RX6 : String := "NightDitch$Text"
def TX6 : u_T := fun k => match k with
  | 0 => ("NightDitch$Text", "code", "[I", true)
  | 1 => ("NightDitch$Text", "stack", "[I", true)
  | 2 => ("NightDitch$Text", "top", "I", false)
  | _ => ("NightDitch$Text", "length", "I", false)
def tyX6 : Nat → FieldType := fun k => match k with
  | 0 => .array .int
  | 1 => .array .int
  | 2 => .int
  | _ => .int
theorem nmX6 : ∀ a, a < 4 → ∀ b, b < 4 → a ≠ b → (TX6 a).2.1 ≠ (TX6 b).2.1 := by decide +kernel
theorem tyX6_ok : ∀ k, k < 4 → parseFieldDescriptor (TX6 k).2.2.1 = some (tyX6 k) := by decide +kernel
def RX7 : String := "NightDitch"
def TX7 : u_T := fun k => match k with
  | 0 => ("NightDitch", "now", "LNightDitch$Ditch;", true)
  | 1 => ("NightDitch", "kept", "LNightDitch$Ditch;", true)
  | 2 => ("NightDitch", "trial", "LNightDitch$Ditch;", true)
  | 3 => ("NightDitch", "orders", "LNightDitch$Orders;", true)
  | 4 => ("NightDitch", "tape", "LNightDitch$Tape;", true)
  | 5 => ("NightDitch", "sheets", "LNightDitch$Sheets;", true)
  | 6 => ("NightDitch", "findings", "[I", true)
  | _ => ("NightDitch", "isKept", "Z", false)
def tyX7 : Nat → FieldType := fun k => match k with
  | 0 => .object "NightDitch$Ditch"
  | 1 => .object "NightDitch$Ditch"
  | 2 => .object "NightDitch$Ditch"
  | 3 => .object "NightDitch$Orders"
  | 4 => .object "NightDitch$Tape"
  | 5 => .object "NightDitch$Sheets"
  | 6 => .array .int
  | _ => .boolean
theorem nmX7 : ∀ a, a < 8 → ∀ b, b < 8 → a ≠ b → (TX7 a).2.1 ≠ (TX7 b).2.1 := by decide +kernel
theorem tyX7_ok : ∀ k, k < 8 → parseFieldDescriptor (TX7 k).2.2.1 = some (tyX7 k) := by decide +kernel
def RX8 : String := "NightDitchModel"
def TX8 : u_T := fun k => match k with
  | 0 => ("NightDitchModel", "now", "[I", true)
  | 1 => ("NightDitchModel", "kept", "[I", true)
  | 2 => ("NightDitchModel", "aside", "[I", true)
  | 3 => ("NightDitchModel", "isKept", "Z", false)
  | 4 => ("NightDitchModel", "found", "[I", true)
  | 5 => ("NightDitchModel", "foundAll", "I", false)
  | 6 => ("NightDitchModel", "digits", "[I", true)
  | 7 => ("NightDitchModel", "takesAbove", "I", false)
  | 8 => ("NightDitchModel", "takesBelow", "I", false)
  | 9 => ("NightDitchModel", "watchesAbove", "I", false)
  | 10 => ("NightDitchModel", "watchesBelow", "I", false)
  | 11 => ("NightDitchModel", "taking", "J", false)
  | 12 => ("NightDitchModel", "watching", "J", false)
  | 13 => ("NightDitchModel", "open", "J", false)
  | 14 => ("NightDitchModel", "wants", "I", false)
  | 15 => ("NightDitchModel", "pays", "I", false)
  | 16 => ("NightDitchModel", "gets", "I", false)
  | 17 => ("NightDitchModel", "sleep", "I", false)
  | 18 => ("NightDitchModel", "sees", "I", false)
  | 19 => ("NightDitchModel", "lostBy", "[J", true)
  | 20 => ("NightDitchModel", "row", "[I", true)
  | 21 => ("NightDitchModel", "isIn", "[Z", true)
  | 22 => ("NightDitchModel", "bestRow", "I", false)
  | 23 => ("NightDitchModel", "leastLost", "J", false)
  | 24 => ("NightDitchModel", "tape", "[I", true)
  | 25 => ("NightDitchModel", "taped", "I", false)
  | 26 => ("NightDitchModel", "fresh", "[I", true)
  | 27 => ("NightDitchModel", "freshMany", "I", false)
  | 28 => ("NightDitchModel", "waits", "[I", true)
  | 29 => ("NightDitchModel", "held", "I", false)
  | 30 => ("NightDitchModel", "opened", "I", false)
  | 31 => ("NightDitchModel", "at", "I", false)
  | 32 => ("NightDitchModel", "isFault", "Z", false)
  | 33 => ("NightDitchModel", "pile", "[I", true)
  | 34 => ("NightDitchModel", "asItBegins", "[I", true)
  | 35 => ("NightDitchModel", "widths", "[I", true)
  | 36 => ("NightDitchModel", "sizes", "[I", true)
  | 37 => ("NightDitchModel", "cells", "[J", true)
  | _ => ("NightDitchModel", "moved", "[J", true)
def tyX8 : Nat → FieldType := fun k => match k with
  | 0 => .array .int
  | 1 => .array .int
  | 2 => .array .int
  | 3 => .boolean
  | 4 => .array .int
  | 5 => .int
  | 6 => .array .int
  | 7 => .int
  | 8 => .int
  | 9 => .int
  | 10 => .int
  | 11 => .long
  | 12 => .long
  | 13 => .long
  | 14 => .int
  | 15 => .int
  | 16 => .int
  | 17 => .int
  | 18 => .int
  | 19 => .array .long
  | 20 => .array .int
  | 21 => .array .boolean
  | 22 => .int
  | 23 => .long
  | 24 => .array .int
  | 25 => .int
  | 26 => .array .int
  | 27 => .int
  | 28 => .array .int
  | 29 => .int
  | 30 => .int
  | 31 => .int
  | 32 => .boolean
  | 33 => .array .int
  | 34 => .array .int
  | 35 => .array .int
  | 36 => .array .int
  | 37 => .array .long
  | _ => .array .long
theorem nmX8 : ∀ a, a < 39 → ∀ b, b < 39 → a ≠ b → (TX8 a).2.1 ≠ (TX8 b).2.1 := by decide +kernel
theorem tyX8_ok : ∀ k, k < 39 → parseFieldDescriptor (TX8 k).2.2.1 = some (tyX8 k) := by decide +kernel
abbrev Mt : Type := MethodName × ByteArray × Nat × Option FieldType
def mt_N_init : Mt := (⟨"NightDitch", "<init>", "()V"⟩, prog_1_method_1_code, 1, none)
def mt_N_farm : Mt := (⟨"NightDitch", "farm", "(III)I"⟩, prog_1_method_2_code, 4, some .int)
def mt_N_set : Mt := (⟨"NightDitch", "set", "(III)I"⟩, prog_1_method_3_code, 4, some .int)
def mt_N_of : Mt := (⟨"NightDitch", "of", "(II)I"⟩, prog_1_method_4_code, 3, some .int)
def mt_N_as : Mt := (⟨"NightDitch", "as", "(II)I"⟩, prog_1_method_5_code, 3, some .int)
def mt_N_rule : Mt := (⟨"NightDitch", "rule", "(II)I"⟩, prog_1_method_6_code, 4, some .int)
def mt_N_dry : Mt := (⟨"NightDitch", "dry", "(I)I"⟩, prog_1_method_7_code, 3, some .int)
def mt_N_year : Mt := (⟨"NightDitch", "year", "()I"⟩, prog_1_method_8_code, 1, some .int)
def mt_N_turn : Mt := (⟨"NightDitch", "turn", "(I)I"⟩, prog_1_method_9_code, 2, some .int)
def mt_N_swap : Mt := (⟨"NightDitch", "swap", "(II)I"⟩, prog_1_method_10_code, 4, some .int)
def mt_N_turns : Mt := (⟨"NightDitch", "turns", "(I)I"⟩, prog_1_method_11_code, 2, some .int)
def mt_N_told : Mt := (⟨"NightDitch", "told", "()I"⟩, prog_1_method_12_code, 1, some .int)
def mt_N_best : Mt := (⟨"NightDitch", "best", "(I)J"⟩, prog_1_method_13_code, 2, some .long)
def mt_N_share : Mt := (⟨"NightDitch", "share", "(I)I"⟩, prog_1_method_14_code, 3, some .int)
def mt_N_rest : Mt := (⟨"NightDitch", "rest", "(II)I"⟩, prog_1_method_15_code, 3, some .int)
def mt_N_lost : Mt := (⟨"NightDitch", "lost", "(I)J"⟩, prog_1_method_16_code, 2, some .long)
def mt_N_least : Mt := (⟨"NightDitch", "least", "(I)I"⟩, prog_1_method_17_code, 6, some .int)
def mt_N_hire : Mt := (⟨"NightDitch", "hire", "(I)J"⟩, prog_1_method_18_code, 2, some .long)
def mt_N_breaks : Mt := (⟨"NightDitch", "breaks", "(I)I"⟩, prog_1_method_19_code, 3, some .int)
def mt_N_blame : Mt := (⟨"NightDitch", "blame", "(I)I"⟩, prog_1_method_20_code, 4, some .int)
def mt_N_always : Mt := (⟨"NightDitch", "always", "()I"⟩, prog_1_method_21_code, 3, some .int)
def mt_N_feed : Mt := (⟨"NightDitch", "feed", "(II)I"⟩, prog_1_method_22_code, 4, some .int)
def mt_N_wipe : Mt := (⟨"NightDitch", "wipe", "()I"⟩, prog_1_method_23_code, 2, some .int)
def mt_N_text : Mt := (⟨"NightDitch", "text", "()I"⟩, prog_1_method_24_code, 1, some .int)
def mt_N_plain : Mt := (⟨"NightDitch", "plain", "()I"⟩, prog_1_method_25_code, 2, some .int)
def mt_N_gives : Mt := (⟨"NightDitch", "gives", "(I)I"⟩, prog_1_method_26_code, 2, some .int)
def mt_N_seed : Mt := (⟨"NightDitch", "seed", "(I)I"⟩, prog_1_method_27_code, 3, some .int)
def mt_N_nights : Mt := (⟨"NightDitch", "nights", "(I)I"⟩, prog_1_method_28_code, 3, some .int)
def mt_N_ahead : Mt := (⟨"NightDitch", "ahead", "(II)I"⟩, prog_1_method_29_code, 3, some .int)
def mt_N_purse : Mt := (⟨"NightDitch", "purse", "(I)I"⟩, prog_1_method_30_code, 2, some .int)
def mt_N_sheet : Mt := (⟨"NightDitch", "sheet", "(III)I"⟩, prog_1_method_31_code, 4, some .int)
def mt_N_write : Mt := (⟨"NightDitch", "write", "(IIJ)J"⟩, prog_1_method_32_code, 5, some .long)
def mt_N_copy : Mt := (⟨"NightDitch", "copy", "(IIIII)I"⟩, prog_1_method_33_code, 6, some .int)
def mt_N_worths : Mt := (⟨"NightDitch", "worths", "(I)I"⟩, prog_1_method_34_code, 6, some .int)
def mt_N_read : Mt := (⟨"NightDitch", "read", "(I)I"⟩, prog_1_method_35_code, 3, some .int)
def mt_N_image : Mt := (⟨"NightDitch", "image", "()I"⟩, prog_1_method_36_code, 1, some .int)
def mt_N_undo : Mt := (⟨"NightDitch", "undo", "()I"⟩, prog_1_method_37_code, 1, some .int)
def mt_N_tear : Mt := (⟨"NightDitch", "tear", "()I"⟩, prog_1_method_38_code, 2, some .int)
def mt_N_count : Mt := (⟨"NightDitch", "count", "(I)I"⟩, prog_1_method_39_code, 2, some .int)
def mt_N_status : Mt := (⟨"NightDitch", "status", "(I)I"⟩, prog_1_method_40_code, 7, some .int)
def mt_N_finding : Mt := (⟨"NightDitch", "finding", "(I)I"⟩, prog_1_method_41_code, 3, some .int)
def mt_N_isWithin : Mt := (⟨"NightDitch", "isWithin", "(III)Z"⟩, prog_1_method_42_code, 3, some .boolean)
def mt_N_isPart : Mt := (⟨"NightDitch", "isPart", "(II)Z"⟩, prog_1_method_43_code, 2, some .boolean)
def mt_N_millionths : Mt := (⟨"NightDitch", "millionths", "(JJ)I"⟩, prog_1_method_44_code, 4, some .int)
def mt_R_init : Mt := (⟨"NightDitchModel", "<init>", "()V"⟩, prog_10_method_1_code, 1, none)
def mt_R_finds : Mt := (⟨"NightDitchModel", "finds", "(I)I"⟩, prog_10_method_2_code, 2, some .int)
def mt_R_in : Mt := (⟨"NightDitchModel", "in", "(III)Z"⟩, prog_10_method_3_code, 3, some .boolean)
def mt_R_within : Mt := (⟨"NightDitchModel", "within", "(III)I"⟩, prog_10_method_4_code, 3, some .int)
def mt_R_isFarm : Mt := (⟨"NightDitchModel", "isFarm", "(I)Z"⟩, prog_10_method_5_code, 2, some .boolean)
def mt_R_get : Mt := (⟨"NightDitchModel", "get", "(II)I"⟩, prog_10_method_6_code, 3, some .int)
def mt_R_put : Mt := (⟨"NightDitchModel", "put", "(III)V"⟩, prog_10_method_7_code, 4, none)
def mt_R_farm : Mt := (⟨"NightDitchModel", "farm", "(III)I"⟩, prog_10_method_8_code, 6, some .int)
def mt_R_set : Mt := (⟨"NightDitchModel", "set", "(III)I"⟩, prog_10_method_9_code, 5, some .int)
def mt_R_placeOf : Mt := (⟨"NightDitchModel", "placeOf", "(I)I"⟩, prog_10_method_10_code, 3, some .int)
def mt_R_paysAt : Mt := (⟨"NightDitchModel", "paysAt", "(II)I"⟩, prog_10_method_11_code, 5, some .int)
def mt_R_wantsBy : Mt := (⟨"NightDitchModel", "wantsBy", "(II)I"⟩, prog_10_method_12_code, 3, some .int)
def mt_R_minds : Mt := (⟨"NightDitchModel", "minds", "(I)I"⟩, prog_10_method_13_code, 4, some .int)
def mt_R_of : Mt := (⟨"NightDitchModel", "of", "(II)I"⟩, prog_10_method_14_code, 4, some .int)
def mt_R_isUnder : Mt := (⟨"NightDitchModel", "isUnder", "(II)Z"⟩, prog_10_method_15_code, 2, some .boolean)
def mt_R_as : Mt := (⟨"NightDitchModel", "as", "(II)I"⟩, prog_10_method_16_code, 3, some .int)
def mt_R_rule : Mt := (⟨"NightDitchModel", "rule", "(II)I"⟩, prog_10_method_17_code, 4, some .int)
def mt_R_dry : Mt := (⟨"NightDitchModel", "dry", "(I)I"⟩, prog_10_method_18_code, 3, some .int)
def mt_R_year : Mt := (⟨"NightDitchModel", "year", "()I"⟩, prog_10_method_19_code, 2, some .int)
def mt_R_turn : Mt := (⟨"NightDitchModel", "turn", "(I)I"⟩, prog_10_method_20_code, 2, some .int)
def mt_R_swap : Mt := (⟨"NightDitchModel", "swap", "(II)I"⟩, prog_10_method_21_code, 4, some .int)
def mt_R_turns : Mt := (⟨"NightDitchModel", "turns", "(I)I"⟩, prog_10_method_22_code, 5, some .int)
def mt_R_told : Mt := (⟨"NightDitchModel", "told", "()I"⟩, prog_10_method_23_code, 3, some .int)
def mt_R_divisor : Mt := (⟨"NightDitchModel", "divisor", "(II)I"⟩, prog_10_method_24_code, 5, some .int)
def mt_R_findRest : Mt := (⟨"NightDitchModel", "findRest", "(III)V"⟩, prog_10_method_25_code, 11, none)
def mt_R_findMeet : Mt := (⟨"NightDitchModel", "findMeet", "(I)V"⟩, prog_10_method_26_code, 3, none)
def mt_R_lostThere : Mt := (⟨"NightDitchModel", "lostThere", "()J"⟩, prog_10_method_27_code, 1, some .long)
def mt_R_meets : Mt := (⟨"NightDitchModel", "meets", "()I"⟩, prog_10_method_28_code, 1, some .int)
def mt_R_lostAll : Mt := (⟨"NightDitchModel", "lostAll", "()J"⟩, prog_10_method_29_code, 4, some .long)
def mt_R_findLost : Mt := (⟨"NightDitchModel", "findLost", "()V"⟩, prog_10_method_30_code, 6, none)
def mt_R_tryRow : Mt := (⟨"NightDitchModel", "tryRow", "()V"⟩, prog_10_method_31_code, 6, none)
def mt_R_findBest : Mt := (⟨"NightDitchModel", "findBest", "()V"⟩, prog_10_method_32_code, 3, none)
def mt_R_best : Mt := (⟨"NightDitchModel", "best", "(I)J"⟩, prog_10_method_33_code, 2, some .long)
def mt_R_hoursAll : Mt := (⟨"NightDitchModel", "hoursAll", "()I"⟩, prog_10_method_34_code, 3, some .int)
def mt_R_share : Mt := (⟨"NightDitchModel", "share", "(I)I"⟩, prog_10_method_35_code, 2, some .int)
def mt_R_rest : Mt := (⟨"NightDitchModel", "rest", "(II)I"⟩, prog_10_method_36_code, 3, some .int)
def mt_R_lost : Mt := (⟨"NightDitchModel", "lost", "(I)J"⟩, prog_10_method_37_code, 2, some .long)
def mt_R_mostTaking : Mt := (⟨"NightDitchModel", "mostTaking", "()J"⟩, prog_10_method_38_code, 4, some .long)
def mt_R_least : Mt := (⟨"NightDitchModel", "least", "(I)I"⟩, prog_10_method_39_code, 7, some .int)
def mt_R_hire : Mt := (⟨"NightDitchModel", "hire", "(I)J"⟩, prog_10_method_40_code, 6, some .long)
def mt_R_breaks : Mt := (⟨"NightDitchModel", "breaks", "(I)I"⟩, prog_10_method_41_code, 5, some .int)
def mt_R_blame : Mt := (⟨"NightDitchModel", "blame", "(I)I"⟩, prog_10_method_42_code, 4, some .int)
def mt_R_always : Mt := (⟨"NightDitchModel", "always", "()I"⟩, prog_10_method_43_code, 3, some .int)
def mt_R_feed : Mt := (⟨"NightDitchModel", "feed", "(II)I"⟩, prog_10_method_44_code, 4, some .int)
def mt_R_wipe : Mt := (⟨"NightDitchModel", "wipe", "()I"⟩, prog_10_method_45_code, 2, some .int)
def mt_R_emit : Mt := (⟨"NightDitchModel", "emit", "(I)V"⟩, prog_10_method_46_code, 2, none)
def mt_R_settles : Mt := (⟨"NightDitchModel", "settles", "(I)V"⟩, prog_10_method_47_code, 2, none)
def mt_R_waits : Mt := (⟨"NightDitchModel", "waits", "(I)V"⟩, prog_10_method_48_code, 2, none)
def mt_R_nameOf : Mt := (⟨"NightDitchModel", "nameOf", "(I)I"⟩, prog_10_method_49_code, 1, some .int)
def mt_R_isDigit : Mt := (⟨"NightDitchModel", "isDigit", "(I)Z"⟩, prog_10_method_50_code, 1, some .boolean)
def mt_R_ends : Mt := (⟨"NightDitchModel", "ends", "()Z"⟩, prog_10_method_51_code, 1, some .boolean)
def mt_R_operand : Mt := (⟨"NightDitchModel", "operand", "()Z"⟩, prog_10_method_52_code, 4, some .boolean)
def mt_R_top : Mt := (⟨"NightDitchModel", "top", "()I"⟩, prog_10_method_53_code, 1, some .int)
def mt_R_operator : Mt := (⟨"NightDitchModel", "operator", "()Z"⟩, prog_10_method_54_code, 2, some .boolean)
def mt_R_text : Mt := (⟨"NightDitchModel", "text", "()I"⟩, prog_10_method_55_code, 3, some .int)
def mt_R_plain : Mt := (⟨"NightDitchModel", "plain", "()I"⟩, prog_10_method_56_code, 2, some .int)
def mt_R_factOf : Mt := (⟨"NightDitchModel", "factOf", "(III)I"⟩, prog_10_method_57_code, 4, some .int)
def mt_R_done : Mt := (⟨"NightDitchModel", "done", "(III)I"⟩, prog_10_method_58_code, 3, some .int)
def mt_R_says : Mt := (⟨"NightDitchModel", "says", "(II)I"⟩, prog_10_method_59_code, 6, some .int)
def mt_R_gives : Mt := (⟨"NightDitchModel", "gives", "(I)I"⟩, prog_10_method_60_code, 2, some .int)
def mt_R_seed : Mt := (⟨"NightDitchModel", "seed", "(I)I"⟩, prog_10_method_61_code, 3, some .int)
def mt_R_draw : Mt := (⟨"NightDitchModel", "draw", "()I"⟩, prog_10_method_62_code, 1, some .int)
def mt_R_meet : Mt := (⟨"NightDitchModel", "meet", "(I)V"⟩, prog_10_method_63_code, 7, none)
def mt_R_night : Mt := (⟨"NightDitchModel", "night", "()V"⟩, prog_10_method_64_code, 2, none)
def mt_R_goesOn : Mt := (⟨"NightDitchModel", "goesOn", "(I)I"⟩, prog_10_method_65_code, 4, some .int)
def mt_R_nights : Mt := (⟨"NightDitchModel", "nights", "(I)I"⟩, prog_10_method_66_code, 2, some .int)
def mt_R_ahead : Mt := (⟨"NightDitchModel", "ahead", "(II)I"⟩, prog_10_method_67_code, 6, some .int)
def mt_R_purse : Mt := (⟨"NightDitchModel", "purse", "(I)I"⟩, prog_10_method_68_code, 5, some .int)
def mt_R_isSheet : Mt := (⟨"NightDitchModel", "isSheet", "(I)Z"⟩, prog_10_method_69_code, 1, some .boolean)
def mt_R_sheet : Mt := (⟨"NightDitchModel", "sheet", "(III)I"⟩, prog_10_method_70_code, 5, some .int)
def mt_R_write : Mt := (⟨"NightDitchModel", "write", "(IIJ)J"⟩, prog_10_method_71_code, 7, some .long)
def mt_R_has : Mt := (⟨"NightDitchModel", "has", "(III)Z"⟩, prog_10_method_72_code, 4, some .boolean)
def mt_R_copy : Mt := (⟨"NightDitchModel", "copy", "(IIIII)I"⟩, prog_10_method_73_code, 7, some .int)
def mt_R_worths : Mt := (⟨"NightDitchModel", "worths", "(I)I"⟩, prog_10_method_74_code, 6, some .int)
def mt_R_read : Mt := (⟨"NightDitchModel", "read", "(I)I"⟩, prog_10_method_75_code, 3, some .int)
def mt_R_image : Mt := (⟨"NightDitchModel", "image", "()I"⟩, prog_10_method_76_code, 2, some .int)
def mt_R_undo : Mt := (⟨"NightDitchModel", "undo", "()I"⟩, prog_10_method_77_code, 2, some .int)
def mt_R_tear : Mt := (⟨"NightDitchModel", "tear", "()I"⟩, prog_10_method_78_code, 2, some .int)
def mt_R_count : Mt := (⟨"NightDitchModel", "count", "(I)I"⟩, prog_10_method_79_code, 2, some .int)
def mt_R_status : Mt := (⟨"NightDitchModel", "status", "(I)I"⟩, prog_10_method_80_code, 2, some .int)
def mt_D_init : Mt := (⟨"NightDitch$Ditch", "<init>", "()V"⟩, prog_2_method_1_code, 2, none)
def mt_D_become : Mt := (⟨"NightDitch$Ditch", "become", "(LNightDitch$Ditch;)V"⟩, prog_2_method_2_code, 3, none)
def mt_D_hasFarm : Mt := (⟨"NightDitch$Ditch", "hasFarm", "(I)Z"⟩, prog_2_method_3_code, 2, some .boolean)
def mt_D_settleFarm : Mt := (⟨"NightDitch$Ditch", "settleFarm", "(III)I"⟩, prog_2_method_4_code, 5, some .int)
def mt_D_passYear : Mt := (⟨"NightDitch$Ditch", "passYear", "()V"⟩, prog_2_method_5_code, 2, none)
def mt_D_allHours : Mt := (⟨"NightDitch$Ditch", "allHours", "()I"⟩, prog_2_method_6_code, 3, some .int)
def mt_D_placeOf : Mt := (⟨"NightDitch$Ditch", "placeOf", "(I)I"⟩, prog_2_method_7_code, 3, some .int)
def mt_D_isOrder : Mt := (⟨"NightDitch$Ditch", "isOrder", "(I)Z"⟩, prog_2_method_8_code, 4, some .boolean)
def mt_D_putOrder : Mt := (⟨"NightDitch$Ditch", "putOrder", "(I)V"⟩, prog_2_method_9_code, 3, none)
def mt_D_digit : Mt := (⟨"NightDitch$Ditch", "digit", "(II)I"⟩, prog_2_method_10_code, 3, some .int)
def mt_D_orderNumber : Mt := (⟨"NightDitch$Ditch", "orderNumber", "()I"⟩, prog_2_method_11_code, 3, some .int)
def mt_D_paysOf : Mt := (⟨"NightDitch$Ditch", "paysOf", "(I)I"⟩, prog_2_method_12_code, 2, some .int)
def mt_D_wantsOf : Mt := (⟨"NightDitch$Ditch", "wantsOf", "(I)I"⟩, prog_2_method_13_code, 2, some .int)
def mt_D_paysAt : Mt := (⟨"NightDitch$Ditch", "paysAt", "(II)I"⟩, prog_2_method_14_code, 5, some .int)
def mt_D_meetCount : Mt := (⟨"NightDitch$Ditch", "meetCount", "()I"⟩, prog_2_method_15_code, 1, some .int)
def mt_D_weigh : Mt := (⟨"NightDitch$Ditch", "weigh", "()V"⟩, prog_2_method_16_code, 3, none)
def mt_D_weighMeet : Mt := (⟨"NightDitch$Ditch", "weighMeet", "(LNightDitch$Meet;IIII)V"⟩, prog_2_method_17_code, 6, none)
def mt_D_loses : Mt := (⟨"NightDitch$Ditch", "loses", "()J"⟩, prog_2_method_18_code, 4, some .long)
def mt_D_greatestTakes : Mt := (⟨"NightDitch$Ditch", "greatestTakes", "()I"⟩, prog_2_method_19_code, 3, some .int)
def mt_D_takesAtMost : Mt := (⟨"NightDitch$Ditch", "takesAtMost", "(I)I"⟩, prog_2_method_20_code, 2, some .int)
def mt_D_passNights : Mt := (⟨"NightDitch$Ditch", "passNights", "(I)V"⟩, prog_2_method_21_code, 4, none)
def mt_D_passMeet : Mt := (⟨"NightDitch$Ditch", "passMeet", "(LNightDitch$Meet;)V"⟩, prog_2_method_22_code, 7, none)
def mt_D_draw : Mt := (⟨"NightDitch$Ditch", "draw", "()I"⟩, prog_2_method_23_code, 1, some .int)
def mt_D_richest : Mt := (⟨"NightDitch$Ditch", "richest", "()I"⟩, prog_2_method_24_code, 3, some .int)
def mt_D_poorest : Mt := (⟨"NightDitch$Ditch", "poorest", "()I"⟩, prog_2_method_25_code, 3, some .int)
def mt_F_init : Mt := (⟨"NightDitch$Farm", "<init>", "()V"⟩, prog_3_method_1_code, 1, none)
def mt_F_begin : Mt := (⟨"NightDitch$Farm", "begin", "(III)V"⟩, prog_3_method_2_code, 4, none)
def mt_F_become : Mt := (⟨"NightDitch$Farm", "become", "(LNightDitch$Farm;)V"⟩, prog_3_method_3_code, 2, none)
def mt_F_tell : Mt := (⟨"NightDitch$Farm", "tell", "(I)I"⟩, prog_3_method_4_code, 2, some .int)
def mt_F_change : Mt := (⟨"NightDitch$Farm", "change", "(II)I"⟩, prog_3_method_5_code, 4, some .int)
def mt_F_isOf : Mt := (⟨"NightDitch$Farm", "isOf", "(I)Z"⟩, prog_3_method_6_code, 4, some .boolean)
def mt_F_wants : Mt := (⟨"NightDitch$Farm", "wants", "(II)I"⟩, prog_3_method_7_code, 3, some .int)
def mt_F_minds : Mt := (⟨"NightDitch$Farm", "minds", "()I"⟩, prog_3_method_8_code, 1, some .int)
def mt_M_init : Mt := (⟨"NightDitch$Meet", "<init>", "()V"⟩, prog_4_method_1_code, 1, none)
def mt_M_settle : Mt := (⟨"NightDitch$Meet", "settle", "(I)V"⟩, prog_4_method_2_code, 6, none)
def mt_M_putChances : Mt := (⟨"NightDitch$Meet", "putChances", "(IIII)V"⟩, prog_4_method_3_code, 5, none)
def mt_M_open : Mt := (⟨"NightDitch$Meet", "open", "()I"⟩, prog_4_method_4_code, 1, some .int)
def mt_M_loses : Mt := (⟨"NightDitch$Meet", "loses", "(I)J"⟩, prog_4_method_5_code, 2, some .long)
def mt_M_tell : Mt := (⟨"NightDitch$Meet", "tell", "(I)I"⟩, prog_4_method_6_code, 2, some .int)
def mt_M_common : Mt := (⟨"NightDitch$Meet", "common", "(II)I"⟩, prog_4_method_7_code, 6, some .int)
def mt_O_init : Mt := (⟨"NightDitch$Orders", "<init>", "()V"⟩, prog_5_method_1_code, 1, none)
def mt_O_search : Mt := (⟨"NightDitch$Orders", "search", "(LNightDitch$Ditch;)V"⟩, prog_5_method_2_code, 4, none)
def mt_O_layFirst : Mt := (⟨"NightDitch$Orders", "layFirst", "(I)V"⟩, prog_5_method_3_code, 3, none)
def mt_O_fillPays : Mt := (⟨"NightDitch$Orders", "fillPays", "(LNightDitch$Ditch;)V"⟩, prog_5_method_4_code, 4, none)
def mt_O_fillLost : Mt := (⟨"NightDitch$Orders", "fillLost", "(LNightDitch$Ditch;II)V"⟩, prog_5_method_5_code, 8, none)
def mt_O_index : Mt := (⟨"NightDitch$Orders", "index", "(III)I"⟩, prog_5_method_6_code, 3, some .int)
def mt_O_layFrom : Mt := (⟨"NightDitch$Orders", "layFrom", "(IIJI)V"⟩, prog_5_method_7_code, 9, none)
def mt_O_closeRing : Mt := (⟨"NightDitch$Orders", "closeRing", "(JI)V"⟩, prog_5_method_8_code, 6, none)
def mt_S_init : Mt := (⟨"NightDitch$Sheets", "<init>", "()V"⟩, prog_6_method_1_code, 1, none)
def mt_S_has : Mt := (⟨"NightDitch$Sheets", "has", "(I)Z"⟩, prog_6_method_2_code, 2, some .boolean)
def mt_S_isWidth : Mt := (⟨"NightDitch$Sheets", "isWidth", "(I)Z"⟩, prog_6_method_3_code, 2, some .boolean)
def mt_S_isMissing : Mt := (⟨"NightDitch$Sheets", "isMissing", "(I)Z"⟩, prog_6_method_4_code, 2, some .boolean)
def mt_S_lay : Mt := (⟨"NightDitch$Sheets", "lay", "(III)I"⟩, prog_6_method_5_code, 5, some .int)
def mt_S_put : Mt := (⟨"NightDitch$Sheets", "put", "(IIJ)J"⟩, prog_6_method_6_code, 7, some .long)
def mt_S_lowest : Mt := (⟨"NightDitch$Sheets", "lowest", "(IJ)J"⟩, prog_6_method_7_code, 3, some .long)
def mt_S_holds : Mt := (⟨"NightDitch$Sheets", "holds", "(III)Z"⟩, prog_6_method_8_code, 4, some .boolean)
def mt_P_init : Mt := (⟨"NightDitch$Tape", "<init>", "()V"⟩, prog_7_method_1_code, 1, none)
def mt_P_append : Mt := (⟨"NightDitch$Tape", "append", "(I)V"⟩, prog_7_method_2_code, 2, none)
def mt_P_parse : Mt := (⟨"NightDitch$Tape", "parse", "()Z"⟩, prog_7_method_3_code, 1, some .boolean)
def mt_P_isSum : Mt := (⟨"NightDitch$Tape", "isSum", "(I)Z"⟩, prog_7_method_4_code, 5, some .boolean)
def mt_P_isProduct : Mt := (⟨"NightDitch$Tape", "isProduct", "(I)Z"⟩, prog_7_method_5_code, 5, some .boolean)
def mt_P_isFactor : Mt := (⟨"NightDitch$Tape", "isFactor", "(I)Z"⟩, prog_7_method_6_code, 3, some .boolean)
def mt_P_isNegated : Mt := (⟨"NightDitch$Tape", "isNegated", "(I)Z"⟩, prog_7_method_7_code, 3, some .boolean)
def mt_P_isBracket : Mt := (⟨"NightDitch$Tape", "isBracket", "(I)Z"⟩, prog_7_method_8_code, 3, some .boolean)
def mt_P_takeNumber : Mt := (⟨"NightDitch$Tape", "takeNumber", "()V"⟩, prog_7_method_9_code, 3, none)
def mt_P_isDigit : Mt := (⟨"NightDitch$Tape", "isDigit", "(I)Z"⟩, prog_7_method_10_code, 1, some .boolean)
def mt_P_passes : Mt := (⟨"NightDitch$Tape", "passes", "(I)Z"⟩, prog_7_method_11_code, 3, some .boolean)
def mt_P_isNext : Mt := (⟨"NightDitch$Tape", "isNext", "(II)Z"⟩, prog_7_method_12_code, 3, some .boolean)
def mt_P_next : Mt := (⟨"NightDitch$Tape", "next", "()I"⟩, prog_7_method_13_code, 1, some .int)
def mt_T_init : Mt := (⟨"NightDitch$Text", "<init>", "()V"⟩, prog_8_method_1_code, 1, none)
def mt_T_isThere : Mt := (⟨"NightDitch$Text", "isThere", "()Z"⟩, prog_8_method_2_code, 1, some .boolean)
def mt_T_become : Mt := (⟨"NightDitch$Text", "become", "(LNightDitch$Text;)V"⟩, prog_8_method_3_code, 2, none)
def mt_T_append : Mt := (⟨"NightDitch$Text", "append", "(I)V"⟩, prog_8_method_4_code, 2, none)
def mt_T_asksPlace : Mt := (⟨"NightDitch$Text", "asksPlace", "()Z"⟩, prog_8_method_5_code, 2, some .boolean)
def mt_T_valueFor : Mt := (⟨"NightDitch$Text", "valueFor", "(LNightDitch$Ditch;II)I"⟩, prog_8_method_6_code, 6, some .int)
def mt_T_isName : Mt := (⟨"NightDitch$Text", "isName", "(I)Z"⟩, prog_8_method_7_code, 1, some .boolean)
def mt_T_named : Mt := (⟨"NightDitch$Text", "named", "(ILNightDitch$Ditch;II)I"⟩, prog_8_method_8_code, 4, some .int)
def mt_T_work : Mt := (⟨"NightDitch$Text", "work", "(I)V"⟩, prog_8_method_9_code, 5, none)
def mt_T_joined : Mt := (⟨"NightDitch$Text", "joined", "(III)I"⟩, prog_8_method_10_code, 3, some .int)
def mt_T_push : Mt := (⟨"NightDitch$Text", "push", "(I)V"⟩, prog_8_method_11_code, 2, none)
def mt_T_pop : Mt := (⟨"NightDitch$Text", "pop", "()I"⟩, prog_8_method_12_code, 1, some .int)
def mt_L_law : Mt := (⟨"NightDitchLaw", "law", "([I)Z"⟩, code, 4, some .boolean)
def mt_J_maxI : Mt := (⟨"java/lang/Math", "max", "(II)I"⟩, prog_11_method_65_code, 2, some .int)
def mt_J_maxJ : Mt := (⟨"java/lang/Math", "max", "(JJ)J"⟩, prog_11_method_66_code, 4, some .long)
def mt_J_minI : Mt := (⟨"java/lang/Math", "min", "(II)I"⟩, prog_11_method_69_code, 2, some .int)
def mt_J_minJ : Mt := (⟨"java/lang/Math", "min", "(JJ)J"⟩, prog_11_method_70_code, 4, some .long)
abbrev q_cls : List vw_C := [(RX0, TX0, 12), (RX1, TX1, 7), (RX2, TX2, 13), (RX3, TX3, 7), (RX4, TX4, 3), (RX5, TX5, 4), (RX6, TX6, 4), (RX7, TX7, 8), (RX8, TX8, 39)]
/-- what a field holds: 0 an int, 1 a long, 2 a reference -/
def q_ft (k j : Nat) : Nat := match k with
  | 0 => ([2, 2, 2, 2, 0, 0, 0, 0, 0, 0, 2, 2] : List Nat).getD j 2
  | 1 => ([0, 0, 0, 0, 0, 0, 0] : List Nat).getD j 2
  | 2 => ([0, 0, 0, 0, 0, 0, 0, 0, 0, 0, 0, 0, 0] : List Nat).getD j 2
  | 3 => ([2, 2, 2, 2, 0, 1, 0] : List Nat).getD j 2
  | 4 => ([2, 2, 2] : List Nat).getD j 2
  | 5 => ([2, 2, 0, 0] : List Nat).getD j 2
  | 6 => ([2, 2, 0, 0] : List Nat).getD j 2
  | 7 => ([2, 2, 2, 2, 2, 2, 2, 0] : List Nat).getD j 2
  | 8 => ([2, 2, 2, 0, 2, 0, 2, 0, 0, 0, 0, 1, 1, 1, 0, 0, 0, 0, 0, 2, 2, 2, 0, 1, 2, 0, 2, 0, 2, 0, 0, 0, 0, 2, 2, 2, 2, 2, 2] : List Nat).getD j 2
  | _ => 2
end
section
/-! THE ABSTRACT WORLD: all cells that the law makes, by numbers 0, 1, ..; what they hold as three functions; references by numbers (from 1000 on: the four static arrays and the script) -/
abbrev Gx : Type := Launch × Nat × (Nat → Nat) × va_G × (Nat → ClassId) × (Nat → Int32) × Nat
abbrev Rf : Type := Nat → Nat → Option Nat
abbrev Rn : Type := Nat → Nat → Int32
abbrev Rl : Type := Nat → Nat → Int64
abbrev Shp : Type := List (Nat × Nat)
def u2 {α : Type} (f : Nat → Nat → α) (i j : Nat) (v : α) : Nat → Nat → α := fun a b => if a = i ∧ b = j then v else f a b
def q_clr {α : Type} (f : Nat → Nat → α) (i : Nat) (v : α) : Nat → Nat → α := fun a b => if a = i then v else f a b
theorem u2_row {α : Type} {f : Nat → Nat → α} {i j a : Nat} {v : α} (h : a ≠ i) : u2 f i j v a = f a := by
  funext b
  unfold u2
  rw [if_neg (fun q => h q.1)]
theorem u2_self {α : Type} {f : Nat → Nat → α} {i j : Nat} {v : α} : u2 f i j v i j = v := if_pos ⟨rfl, rfl⟩
theorem u2_ne {α : Type} {f : Nat → Nat → α} {i j a b : Nat} {v : α} (h : a ≠ i ∨ b ≠ j) : u2 f i j v a b = f a b := if_neg (fun q => h.elim (fun e => e q.1) (fun e => e q.2))
theorem q_clr_row {α : Type} {f : Nat → Nat → α} {i a : Nat} {v : α} (h : a ≠ i) : q_clr f i v a = f a := by
  funext b
  unfold q_clr
  rw [if_neg h]
def q_ad (G : Gx) (i : Nat) : Nat := if i < 1000 then G.2.1 + i else G.2.2.1 (i - 1000)
def q_cv (G : Gx) (v : Value) : Value := match v with
  | .ref i => .ref (q_ad G i)
  | .int x => .int x
  | .long x => .long x
  | .float x => .float x
  | .double x => .double x
  | .null => .null
  | .retAddr x => .retAddr x
theorem q_cv_cat (G : Gx) (v : Value) : (q_cv G v).category = v.category := by cases v <;> rfl
theorem q_cv_rf (G : Gx) (r : Option Nat) : q_cv G (va_rf r) = va_rf (r.map (q_ad G)) := by cases r <;> rfl
/-- what an array of a kind holds -/
def q_aty (k : Nat) : Nat := if k = 20 ∨ k = 22 then 0 else if k = 21 then 1 else 2
def q_val (G : Gx) (R : Rf) (I : Rn) (L : Rl) (tc i j : Nat) : Value := match tc with
  | 0 => .int (I i j)
  | 1 => .long (L i j)
  | _ => va_rf ((R i j).map (q_ad G))
def q_at (G : Gx) (R : Rf) (I : Rn) (L : Rl) (sh : Nat × Nat) (i : Nat) (H : Heap) : Prop :=
  if sh.1 < 20 then t_OB (G.2.1 + i) (G.2.2.2.1.1 sh.1) sh.2 (G.2.2.2.1.2 sh.1) H (fun j => q_val G R I L (q_ft sh.1 j) i j)
  else H[G.2.1 + i]? = some (arrV (G.2.2.2.2.1 (sh.1 - 20)) sh.2 (fun j => q_val G R I L (q_aty sh.1) i j))
def q_Wd (G : Gx) (S : Shp) (R : Rf) (I : Rn) (L : Rl) (H : Heap) : Prop := H.size = G.2.1 + S.length ∧ S.length ≤ 1000 ∧ ∀ (i : Nat) (sh : Nat × Nat), S[i]? = some sh → q_at G R I L sh i H
def q_A (G : Gx) : Nat → Prop := fun q => G.2.1 ≤ q
theorem q_at_obj {G : Gx} {R : Rf} {I : Rn} {L : Rl} {k n i : Nat} {H : Heap} (hk : k < 20) : q_at G R I L (k, n) i H = t_OB (G.2.1 + i) (G.2.2.2.1.1 k) n (G.2.2.2.1.2 k) H (fun j => q_val G R I L (q_ft k j) i j) := if_pos hk
theorem q_at_arr {G : Gx} {R : Rf} {I : Rn} {L : Rl} {k n i : Nat} {H : Heap} (hk : ¬ k < 20) : q_at G R I L (k, n) i H = (H[G.2.1 + i]? = some (arrV (G.2.2.2.2.1 (k - 20)) n (fun j => q_val G R I L (q_aty k) i j))) := if_neg hk
theorem q_val_row {G : Gx} {R R' : Rf} {I I' : Rn} {L L' : Rl} {tc i j : Nat} (h1 : R' i = R i) (h2 : I' i = I i) (h3 : L' i = L i) : q_val G R' I' L' tc i j = q_val G R I L tc i j := by
  unfold q_val
  rw [h1, h2, h3]
theorem q_at_row {G : Gx} {R R' : Rf} {I I' : Rn} {L L' : Rl} {sh : Nat × Nat} {i : Nat} {H : Heap} (h1 : R' i = R i) (h2 : I' i = I i) (h3 : L' i = L i) : q_at G R' I' L' sh i H = q_at G R I L sh i H := by
  unfold q_at
  simp only [q_val_row h1 h2 h3]
theorem q_at_kept {G : Gx} {R : Rf} {I : Rn} {L : Rl} {sh : Nat × Nat} {i : Nat} {H H1 : Heap} (h : q_at G R I L sh i H) (hq : H1[G.2.1 + i]? = H[G.2.1 + i]?) : q_at G R I L sh i H1 := by
  unfold q_at at h ⊢
  split
  · rename_i hk
    rw [if_pos hk] at h
    exact h.kept hq
  · rename_i hk
    rw [if_neg hk] at h
    rw [hq]
    exact h
theorem q_lt {S : Shp} {i : Nat} {sh : Nat × Nat} (h : S[i]? = some sh) : i < S.length := (List.getElem?_eq_some_iff.mp h).1
theorem q_ad_lt {G : Gx} {S : Shp} {R : Rf} {I : Rn} {L : Rl} {H : Heap} {i : Nat} {sh : Nat × Nat} (hW : q_Wd G S R I L H) (h : S[i]? = some sh) : q_ad G i = G.2.1 + i := if_pos (Nat.lt_of_lt_of_le (q_lt h) hW.2.1)
/-- one cell has changed -/
theorem q_Wd.upd {G : Gx} {S : Shp} {R R' : Rf} {I I' : Rn} {L L' : Rl} {H H1 : Heap} {i : Nat} {sh : Nat × Nat} (hW : q_Wd G S R I L H) (hs : S[i]? = some sh) (hz : H1.size = H.size) (ho : ∀ q, q ≠ G.2.1 + i → H1[q]? = H[q]?) (hr : ∀ a, a ≠ i → R' a = R a ∧ I' a = I a ∧ L' a = L a) (hn : q_at G R' I' L' sh i H1) : q_Wd G S R' I' L' H1 := by
  refine ⟨hz.trans hW.1, hW.2.1, fun a sa ha => ?_⟩
  by_cases e : a = i
  · subst e
    have e2 : sa = sh := Option.some.inj (ha.symm.trans hs)
    subst e2
    exact hn
  · obtain ⟨r1, r2, r3⟩ := hr a e
    rw [q_at_row r1 r2 r3]
    exact q_at_kept (hW.2.2 a sa ha) (ho _ (by omega))
/-- one cell more -/
theorem q_Wd.push {G : Gx} {S : Shp} {R R' : Rf} {I I' : Rn} {L L' : Rl} {H H1 : Heap} {sh : Nat × Nat} (hW : q_Wd G S R I L H) (hb : S.length + 1 ≤ 1000) (hz : H1.size = H.size + 1) (ho : ∀ q, q < H.size → H1[q]? = H[q]?) (hr : ∀ a, a ≠ S.length → R' a = R a ∧ I' a = I a ∧ L' a = L a) (hn : q_at G R' I' L' sh S.length H1) : q_Wd G (S ++ [sh]) R' I' L' H1 := by
  refine ⟨by rw [hz, hW.1, List.length_append]; rfl, by rw [List.length_append]; exact hb, fun a sa ha => ?_⟩
  by_cases e : a < S.length
  · rw [List.getElem?_append_left e] at ha
    obtain ⟨r1, r2, r3⟩ := hr a (Nat.ne_of_lt e)
    rw [q_at_row r1 r2 r3]
    exact q_at_kept (hW.2.2 a sa ha) (ho _ (by rw [hW.1]; omega))
  · rw [List.getElem?_append_right (by omega)] at ha
    have h0 : a - S.length < 1 := (List.getElem?_eq_some_iff.mp ha).1
    have ea : a = S.length := by omega
    subst ea
    rw [Nat.sub_self] at ha
    cases ha
    exact hn
/-! THE TABLES -/
def q_gw : List Cond := lw_tbl.filter goodWord
def q_isN (w : Cond) : Bool := match w with
  | .methodLinkNest _ _ _ _ => true
  | .fieldLinkNest _ _ _ _ _ _ => true
  | _ => false
def q_nw : List Cond := tables_1.filter q_isN
theorem q_gw_in {w : Cond} (i : Nat) (h : tables_1[i]? = some w ∧ goodWord w = true) : w ∈ q_gw := List.mem_filter.mpr ⟨List.mem_append_right _ (List.mem_of_getElem? h.1), h.2⟩
theorem q_gw_sel {w : Cond} (i : Nat) (h : (k2_sels lw_privs)[i]? = some w ∧ goodWord w = true) : w ∈ q_gw := List.mem_filter.mpr ⟨List.mem_append_left _ (List.mem_of_getElem? h.1), h.2⟩
theorem q_nw_in {w : Cond} (i : Nat) (h : tables_1[i]? = some w ∧ q_isN w = true) : w ∈ q_nw := List.mem_filter.mpr ⟨List.mem_of_getElem? h.1, h.2⟩
theorem q_nw_warm {s U : State} (hW : s.WarmedH U.vm) {w : Cond} (hw : w ∈ q_nw) (h : va_Nw w s) : va_Nw w U := by
  have hn := (List.mem_filter.mp hw).2
  cases w <;> first | exact va_Nw.warmM hW h | exact va_Nw.warmF hW h | cases hn
theorem q_nw_same {u U : State} (hv : u.vm = U.vm) {w : Cond} (hw : w ∈ q_nw) (h : va_Nw w u) : va_Nw w U := by
  have hn := (List.mem_filter.mp hw).2
  cases w <;> first | exact va_Nw.same rfl hv h | cases hn
def q_tys (G : Gx) : List (ClassId × FieldType) := [(G.2.2.2.2.1 0, .int), (G.2.2.2.2.1 1, .long), (G.2.2.2.2.1 2, .boolean), (G.2.2.2.2.1 3, .object "NightDitch$Farm"), (G.2.2.2.2.1 4, .object "NightDitch$Meet"), (G.2.2.2.2.1 5, .array .long)]
/-- the four static arrays: names, lengths, values -/
def q_sn (k : Nat) : String := (["UNDER", "RULE_MOST", "FARM_LEAST", "FARM_MOST"] : List String).getD k ""
def q_sl (k : Nat) : Nat := ([6, 5, 4, 4] : List Nat).getD k 0
def q_sv (k j : Nat) : Int32 := (([[-1, 0, 0, 2, 2, 1], [99999, 100, 999, 100, 100], [1, 0, 0, 0], [24, 999, 999, 100]] : List (List Int32)).getD k []).getD j 0
def q_Tb (G : Gx) (U : State) : Prop :=
  va_K G.2.2.2.1 q_cls (q_tys G) U ∧ (∀ w ∈ q_nw, va_Nw w U) ∧ (va_AO "NightDitch$Farm" U ∧ va_AO "NightDitch$Meet" U ∧ (Cond.arrayOver (.array .long)).before #[] U = true) ∧
  (∀ k, k < 4 → va_Z "NightDitch" (q_sn k) "[I" (.ref (G.2.2.1 k)) (q_A G) U U.heap ∧ va_T .int (G.2.2.1 k) (q_sl k) (fun j => .int (q_sv k j)) (q_A G) U U.heap) ∧
  va_X (G.2.2.1 4) G.2.2.2.2.2.2 G.2.2.2.2.2.1 U U.heap ∧ G.2.2.1 4 < U.heap.size ∧ ¬ q_A G (G.2.2.1 4) ∧ G.2.1 ≤ U.heap.size
end
section
theorem q_ovm {u U : State} (hvm : u.vm.Alike U.vm) {t : FieldType} (h : (Cond.arrayOver (.array t)).before #[] u = true) : (Cond.arrayOver (.array t)).before #[] U = true := by
  simp only [Cond.before, Cond.holds, Cond.value, beq_iff_eq] at h ⊢
  simp only [hvm.findClass] at h ⊢
  cases hc : u.vm.findClass (FieldType.array t).toString with
  | none => rw [hc] at h; simp at h
  | some comp =>
    rw [hc, Option.bind_some] at h
    rw [Option.bind_some]
    obtain ⟨c, h1, h2⟩ := Option.bind_eq_some_iff.mp h
    have hi : (U.vm.classes.findIdx? fun (x : Class) => match x.kind with | .array component _ => component == comp | _ => false) = some c := by
      have e1 := va_idx_bare U.vm comp
      have e2 := va_idx_bare u.vm comp
      have e3 : U.vm.bare = u.vm.bare := by first | exact hvm.bare_eq | exact hvm.bare_eq.symm
      rw [e3] at e1
      exact e1.symm.trans (e2.trans h1)
    refine Option.bind_eq_some_iff.mpr ⟨c, hi, ?_⟩
    obtain ⟨k, hk, hb⟩ := Option.map_eq_some_iff.mp h2
    obtain ⟨k', hk', he⟩ := hvm.2.2 _ _ hk
    refine Option.map_eq_some_iff.mpr ⟨k', hk', ?_⟩
    have hkk : k'.kind = k.kind := by rw [he]
    rw [hkk]
    exact hb
theorem q_Tb.vm {G : Gx} {u U : State} (h : q_Tb G u) (hv : u.vm = U.vm) (hh : U.heap = u.heap) : q_Tb G U := by
  obtain ⟨h1, h2, ⟨h3, h4, h5⟩, h6, h7, h8, h9, h10⟩ := h
  have hal : u.vm.Alike U.vm := by rw [hv]; exact Vm.Alike.refl _
  refine ⟨h1.moved hal, fun w hw => q_nw_same hv hw (h2 w hw), ⟨h3.moved hal, h4.moved hal, q_ovm hal h5⟩, fun k hk => ?_, ?_, ?_, h9, ?_⟩
  · obtain ⟨a, b⟩ := h6 k hk
    rw [hh]
    exact ⟨a.moved hal, b.moved hal⟩
  · rw [hh]; exact h7.moved hal
  · rw [hh]; exact h8
  · rw [hh]; exact h10
theorem q_Tb.moved {G : Gx} {s U : State} {H : Heap} {locs : List Loc} (h : q_Tb G s) (hS : va_S (q_A G) s.heap H locs) (hU : U.heap = H) (hW : s.WarmedH U.vm) : q_Tb G U := by
  obtain ⟨h1, h2, ⟨h3, h4, h5⟩, h6, h7, h8, h9, h10⟩ := h
  have hal : s.vm.Alike U.vm := hW.alike
  refine ⟨h1.moved hal, fun w hw => q_nw_warm hW hw (h2 w hw), ⟨h3.moved hal, h4.moved hal, q_ovm hal h5⟩, fun k hk => ?_, ?_, ?_, h9, ?_⟩
  · obtain ⟨a, b⟩ := h6 k hk
    rw [hU]
    exact ⟨(a.moved hal).kept hS.2.1, (b.moved hal).kept hS.2.1⟩
  · rw [hU]
    exact (h7.moved hal).kept (hS.2.1 _ h8 h9)
  · rw [hU]
    exact Nat.lt_of_lt_of_le h8 hS.1
  · rw [hU]
    exact Nat.le_trans h10 hS.1
/-! THE WALK: WW G d M pc ls st S R I L ce sl mc ms K: the machine, in method M at pc with the locals ls and the stack st (both abstract), d calls deep at most from here, the world as (S, R, I, L), comes to the method's return, with an answer and a world that K takes -/
def q_lv (G : Gx) (ls : List (Option Value)) : List (Nat × Value) := (List.range ls.length).filterMap (fun i => match ls[i]? with
  | some (some v) => some (i, q_cv G v)
  | _ => none)
theorem q_lv_mem {G : Gx} {ls : List (Option Value)} {q : Nat × Value} : q ∈ q_lv G ls ↔ ∃ v, ls[q.1]? = some (some v) ∧ q.2 = q_cv G v := by
  unfold q_lv
  rw [List.mem_filterMap]
  constructor
  · rintro ⟨i, -, h⟩
    cases hi : ls[i]? with
    | none => rw [hi] at h; cases h
    | some o =>
      cases o with
      | none => rw [hi] at h; cases h
      | some v => rw [hi] at h; cases h; exact ⟨v, hi, rfl⟩
  · rintro ⟨v, h1, h2⟩
    refine ⟨q.1, List.mem_range.mpr (List.getElem?_eq_some_iff.mp h1).1, ?_⟩
    rw [h1]
    show some (q.1, q_cv G v) = some q
    rw [← h2]
theorem q_lv_get {G : Gx} {la : Array Slot} {n i : Nat} {ls : List (Option Value)} {v : Value} (h : lv_has la n (q_lv G ls)) (hv : ls[i]? = some (some v)) : la[i]? = some (.val (q_cv G v)) := h.2.2 (i, q_cv G v) (q_lv_mem.mpr ⟨v, hv, rfl⟩)
def q_ri (v : Option Value) : Instr := match v with
  | some (.int _) => .ireturn
  | some (.long _) => .lreturn
  | _ => .return_
def q_nar (M : Mt) (v : Option Value) : Prop := match v with
  | none => M.2.2.2 = none
  | some (.int x) => ∃ ty, M.2.2.2 = some ty ∧ narrow ty (.int x) = .int x
  | some (.long _) => M.2.2.2 = some .long
  | _ => False
def q_Fx (G : Gx) (d : Nat) (M : Mt) (mc ms : Nat) (p : Program) (Rm : Room) (s : State) (m : MethodId) (args : Array Value) (meth : Method) (c : Code) : Prop :=
  p.tables.exec = Jvm.exec ∧ c.code = M.2.1 ∧ c.maxLocals = M.2.2.1 ∧ meth.sig.returnType = M.2.2.2 ∧ meth.name = M.1.name ∧ meth.locks = false ∧ s.vm.findClass M.1.cls = some m.cls ∧ (∀ w ∈ q_gw, w.before args s = true) ∧ q_Tb G s ∧ d + 1 ≤ Rm.frames ∧ 64 * (d + 1) ≤ Rm.locals ∧ mc ≤ Rm.cells ∧ ms ≤ Rm.slots
abbrev Kt : Type := Option Value → Shp → Rf → Rn → Rl → Prop
def q_Rt (G : Gx) (M : Mt) (mc ms : Nat) (K : Kt) (p : Program) (e : Env) (Rm : Room) (s : State) (m : MethodId) (args : Array Value) (below : List Frame) (meth : Method) (c : Code) (Q : State → Prop) : Prop :=
  ∀ (v : Option Value) (S : Shp) (R : Rf) (I : Rn) (L : Rl) (H : Heap) (locs : List Loc) (pc : Nat) (la : Array Slot), K v S R I L → q_Wd G S R I L H → va_S (q_A G) s.heap H locs → decode M.2.1 pc = .ok (q_ri v, 1) → q_nar M v →
    W p G.1 e Rm s m args below meth c H locs mc ms Q (F0 m pc la ((v.map (q_cv G)).toList))
def WW (G : Gx) (d : Nat) (M : Mt) (pc : Nat) (ls : List (Option Value)) (st : List Value) (S : Shp) (R : Rf) (I : Rn) (L : Rl) (ce sl mc ms : Nat) (K : Kt) : Prop :=
  ∀ (p : Program) (e : Env) (Rm : Room) (s : State) (m : MethodId) (args : Array Value) (below : List Frame) (meth : Method) (c : Code) (H : Heap) (locs : List Loc) (Q : State → Prop) (la : Array Slot),
    q_Fx G d M mc ms p Rm s m args meth c → q_Wd G S R I L H → va_S (q_A G) s.heap H locs → lv_has la M.2.2.1 (q_lv G ls) → q_Rt G M mc ms K p e Rm s m args below meth c Q →
    W p G.1 e Rm s m args below meth c H locs ce sl Q (F0 m pc la (st.map (q_cv G)))
/-- the continuation may be weakened -/
theorem WW.mono {G : Gx} {d : Nat} {M : Mt} {pc : Nat} {ls : List (Option Value)} {st : List Value} {S : Shp} {R : Rf} {I : Rn} {L : Rl} {ce sl mc ms : Nat} {K K' : Kt} (h : WW G d M pc ls st S R I L ce sl mc ms K) (hk : ∀ v S R I L, K v S R I L → K' v S R I L) : WW G d M pc ls st S R I L ce sl mc ms K' :=
  fun p e Rm s m args below meth c H locs Q la hF hW hS hl hR => h p e Rm s m args below meth c H locs Q la hF hW hS hl (fun v S R I L H locs pc la k => hR v S R I L H locs pc la (hk v S R I L k))
/-- more room does no harm -/
theorem WW.up {G : Gx} {d d' : Nat} {M : Mt} {pc : Nat} {ls : List (Option Value)} {st : List Value} {S : Shp} {R : Rf} {I : Rn} {L : Rl} {ce sl mc ms : Nat} {K : Kt} (h : WW G d M pc ls st S R I L ce sl mc ms K) (hd : d ≤ d') : WW G d' M pc ls st S R I L ce sl mc ms K :=
  fun p e Rm s m args below meth c H locs Q la hF hW hS hl hR => h p e Rm s m args below meth c H locs Q la (by
    obtain ⟨f1, f2, f3, f4, f5, f6, f7, f8, f9, f10, f11, f12⟩ := hF
    exact ⟨f1, f2, f3, f4, f5, f6, f7, f8, f9, Nat.le_trans (Nat.succ_le_succ hd) f10, Nat.le_trans (Nat.mul_le_mul_left 64 (Nat.succ_le_succ hd)) f11, f12⟩) hW hS hl hR
/-! A METHOD'S CONTRACT OUT OF ITS WALK -/
def q_pad : Nat → List (Option Value)
  | 0 => []
  | n + 1 => none :: q_pad n
def q_ents : List Value → List (Option Value)
  | [] => []
  | .long x :: r => some (.long x) :: none :: q_ents r
  | .double x :: r => some (.double x) :: none :: q_ents r
  | v :: r => some v :: q_ents r
/-- a method's locals at its entry -/
def q_ent (as : List Value) (n : Nat) : List (Option Value) := q_ents as ++ q_pad (n - (q_ents as).length)
def q_wm (M : Mt) : List Cond := .code M.1 M.2.1 M.2.2.1 M.2.2.2 :: q_gw
def q_rm (d mc ms : Nat) : Room := { frames := d + 1, cells := mc, slots := ms, locals := 64 * (d + 1) }
def q_Q (G : Gx) (K : Kt) : Array Value → State → Outcome → State → Prop := fun _ st oc t => (∃ (v : Option Value) (S : Shp) (R : Rf) (I : Rn) (L : Rl), oc = .returned (v.map (q_cv G)) ∧ K v S R I L ∧ q_Wd G S R I L t.heap) ∧ va_F (q_A G) st t
theorem q_ents_len (G : Gx) : ∀ as : List Value, (lg_sl (as.map (q_cv G))).length = (q_ents as).length
  | [] => rfl
  | v :: r => by
    have ih := q_ents_len G r
    cases v <;> simp [lg_sl, q_ents, q_cv, Value.category] at ih ⊢ <;> omega
theorem q_ents_mem (G : Gx) : ∀ (as : List Value) (k : Nat) (i : Nat) (v : Value), (q_ents as)[i]? = some (some v) → (k + i, q_cv G v) ∈ lv_args k (as.map (q_cv G))
  | [], k, i, v, h => by simp [q_ents] at h
  | a :: r, k, i, v, h => by
    have two : ∀ (b : Value), a = b → b.category = 2 → (q_ents (a :: r) = some b :: none :: q_ents r) → (k + i, q_cv G v) ∈ lv_args k ((a :: r).map (q_cv G)) := by
      intro b e hb hq
      subst e
      rw [hq] at h
      show _ ∈ (k, q_cv G a) :: lv_args (if (q_cv G a).category = 2 then k + 2 else k + 1) (r.map (q_cv G))
      rw [q_cv_cat, if_pos hb]
      match i, h with
      | 0, h => cases h; exact List.mem_cons_self
      | 1, h => cases h
      | j + 2, h =>
        have := q_ents_mem G r (k + 2) j v h
        rw [show k + (j + 2) = k + 2 + j by omega]
        exact List.mem_cons_of_mem _ this
    have one : ∀ (b : Value), a = b → b.category = 1 → (q_ents (a :: r) = some b :: q_ents r) → (k + i, q_cv G v) ∈ lv_args k ((a :: r).map (q_cv G)) := by
      intro b e hb hq
      subst e
      rw [hq] at h
      show _ ∈ (k, q_cv G a) :: lv_args (if (q_cv G a).category = 2 then k + 2 else k + 1) (r.map (q_cv G))
      rw [q_cv_cat, if_neg (by rw [hb]; decide)]
      match i, h with
      | 0, h => cases h; exact List.mem_cons_self
      | j + 1, h =>
        have := q_ents_mem G r (k + 1) j v h
        rw [show k + (j + 1) = k + 1 + j by omega]
        exact List.mem_cons_of_mem _ this
    cases a with
    | int x => exact one _ rfl rfl rfl
    | long x => exact two _ rfl rfl rfl
    | float x => exact one _ rfl rfl rfl
    | double x => exact two _ rfl rfl rfl
    | null => exact one _ rfl rfl rfl
    | ref x => exact one _ rfl rfl rfl
    | retAddr x => exact one _ rfl rfl rfl
theorem q_pad_get (n i : Nat) (v : Value) : (q_pad n)[i]? = some (some v) → False := by
  induction n generalizing i with
  | zero => intro h; simp [q_pad] at h
  | succ n ih =>
    intro h
    cases i with
    | zero => simp [q_pad] at h
    | succ j => exact ih j (by simpa [q_pad] using h)
theorem q_ent_mem {G : Gx} {as : List Value} {n : Nat} {q : Nat × Value} (h : q ∈ q_lv G (q_ent as n)) : q ∈ lv_args 0 (as.map (q_cv G)) := by
  obtain ⟨v, h1, h2⟩ := q_lv_mem.mp h
  unfold q_ent at h1
  by_cases hl : q.1 < (q_ents as).length
  · rw [List.getElem?_append_left hl] at h1
    have := q_ents_mem G as 0 q.1 v h1
    rw [Nat.zero_add, ← h2] at this
    exact this
  · rw [List.getElem?_append_right (by omega)] at h1
    exact (q_pad_get _ _ _ h1).elim
theorem q_met {G : Gx} {d : Nat} {M : Mt} {as : List Value} {S : Shp} {R : Rf} {I : Rn} {L : Rl} {mc ms : Nat} {K : Kt} (hp : plainName M.1.cls = true) (hl : (q_ents as).length ≤ M.2.2.1) (h : WW G d M 0 (q_ent as M.2.2.1) [] S R I L 0 0 mc ms K) :
    Met G.1 M.1 (q_wm M) (q_rm d mc ms) (va_Pc (as.map (q_cv G)) (fun U => q_Wd G S R I L U.heap ∧ q_Tb G U)) (q_Q G K) mc ms (q_A G) := by
  refine Met.ofW (cc := M.2.1) (maxL := M.2.2.1) (ret := M.2.2.2) hp rfl ?_
  intro p e s m args below meth c s₁ B hml hv
  obtain ⟨rfl, hW, hT⟩ := hv
  have hts := atoms_spec (ws := q_wm M) B.pre
  have hF : q_Fx G d M mc ms p (q_rm d mc ms) s m (as.map (q_cv G)).toArray meth c := ⟨B.exec, B.bytes, hml, B.returns, (name_of_methodNamed B.named B.method).1, B.notSynchronized, findClass_of_methodNamed B.named, fun w hw => hts w (List.mem_cons_of_mem _ hw), hT, Nat.le_refl _, Nat.le_refl _, Nat.le_refl _, Nat.le_refl _⟩
  have hl0 := lv_entry (as.map (q_cv G)) (n := M.2.2.1) (by rw [q_ents_len]; exact hl)
  rw [lg_entry_eq]
  refine h p e (q_rm d mc ms) s m _ below meth c s.heap [] _ _ hF hW va_S.rf ⟨hl0.1, hl0.2.1, fun q hq => hl0.2.2 q (q_ent_mem hq)⟩ ?_
  intro v S' R' I' L' H' locs' pc' la' hk hW' hS' hd hn
  have hq : ∀ (r : Option Value), r = v.map (q_cv G) → ∀ t : State, t.heap = H' → s.WarmedH t.vm → q_Q G K (as.map (q_cv G)).toArray s (.returned r) t := fun r e t ht _ => ⟨⟨v, S', R', I', L', by rw [e], hk, by rw [ht]; exact hW'⟩, hS'.F ht⟩
  match v, hd, hn, hq with
  | none, hd, hn, hq => exact W.vret B.exec B.bytes (B.returns.trans hn) (hq none rfl) hS'.2.2 hd B.notSynchronized
  | some (.int x), hd, ⟨ty, h1, h2⟩, hq => exact W.zret B.exec B.bytes (B.returns.trans h1) h2 (hq _ rfl) hS'.2.2 hd B.notSynchronized
  | some (.long x), hd, hn, hq => exact W.lret B.exec B.bytes (B.returns.trans hn) (hq _ rfl) hS'.2.2 hd B.notSynchronized
  | some (.float x), hd, hn, hq => exact hn.elim
  | some (.double x), hd, hn, hq => exact hn.elim
  | some .null, hd, hn, hq => exact hn.elim
  | some (.ref x), hd, hn, hq => exact hn.elim
  | some (.retAddr x), hd, hn, hq => exact hn.elim
end
section
theorem q_good {w : Cond} (h : w ∈ q_gw) : (w.onTables && w.keeps) = true ∨ ∃ ty, w = .arrayClass ty := good_of_word (List.mem_filter.mp h).2
theorem q_goodIn {M : Mt} (h : Cond.code M.1 M.2.1 M.2.2.1 M.2.2.2 ∈ q_gw) : GoodIn q_gw (q_wm M) := fun w hw => by
  rcases List.mem_cons.mp hw with rfl | hw
  · exact ⟨h, q_good h⟩
  · exact ⟨hw, q_good hw⟩
def q_psh (v : Option Value) (r : List Value) : List Value := match v with
  | none => r
  | some x => x :: r
theorem q_psh_map (G : Gx) (v : Option Value) (r : List Value) : (v.map (q_cv G)).toList ++ r.map (q_cv G) = (q_psh v r).map (q_cv G) := by cases v <;> rfl
theorem q_blind {G : Gx} {S : Shp} {R : Rf} {I : Rn} {L : Rl} {av : List Value} : FrameBlind (va_Pc av (fun U => q_Wd G S R I L U.heap ∧ q_Tb G U)) := fun a U g mk q => by
  obtain ⟨h1, h2, h3⟩ := q
  exact ⟨h1, h2, h3.vm rfl rfl⟩
section QC
variable {G : Gx} {d : Nat} {M M' : Mt} {pc nx : Nat} {ls : List (Option Value)} {st rest : List Value} {S : Shp} {R : Rf} {I : Rn} {L : Rl} {ce sl mc ms mc' ms' : Nat} {K K' : Kt}
variable {p : Program} {e : Env} {Rm : Room} {s : State} {m : MethodId} {args : Array Value} {below : List Frame} {meth : Method} {c : Code} {H : Heap} {locs : List Loc} {Q : State → Prop} {la : Array Slot}
theorem q_pre (hF : q_Fx G d M mc ms p Rm s m args meth c) (hW : q_Wd G S R I L H) (hS : va_S (q_A G) s.heap H locs) (as : List Value) : ∀ U : State, U.heap = H → s.WarmedH U.vm → va_Pc (as.map (q_cv G)) (fun U => q_Wd G S R I L U.heap ∧ q_Tb G U) (as.map (q_cv G)).toArray U :=
  fun U hU hWm => ⟨rfl, by rw [hU]; exact hW, hF.2.2.2.2.2.2.2.2.1.moved hS hU hWm⟩
/-- behind a call -/
theorem q_callW {a : Array Value} {st0 : List Value} (hr : va_Run p G.1 e Rm s m args below meth c H locs ce sl mc' ms' (F0 m pc la st0) (rest.map (q_cv G)) (q_Q G K' a) (q_A G)) (hS : va_S (q_A G) s.heap H locs)
    (kk : ∀ (v : Option Value) (S1 : Shp) (R1 : Rf) (I1 : Rn) (L1 : Rl) (H1 : Heap) (locs1 : List Loc), K' v S1 R1 I1 L1 → q_Wd G S1 R1 I1 L1 H1 → va_S (q_A G) s.heap H1 locs1 → W p G.1 e Rm s m args below meth c H1 locs1 (ce + mc') (sl + ms') Q (F0 m (pc + 3) la ((q_psh v rest).map (q_cv G)))) :
    W p G.1 e Rm s m args below meth c H locs ce sl Q (F0 m pc la st0) := by
  intro T hT X
  obtain ⟨v, st₀, t, T', Lc, h0, X', hL, e1, e2, ⟨⟨v', S1, R1, I1, L1, hv, hk, hw⟩, hz, hkp⟩, st⟩ := hr T hT X
  cases hv
  rw [h0] at hz hkp
  obtain ⟨t2, a1, b1⟩ := kk v' S1 R1 I1 L1 T'.heap (locs ++ Lc) hk (by rw [e1]; exact hw)
    ⟨Nat.le_trans hS.1 (by rw [e1]; exact hz), fun q h1 h2 => by rw [e1, hkp q (Nat.lt_of_lt_of_le h1 hS.1) h2]; exact hS.2.1 q h1 h2, fun q hq => by
      rcases List.mem_append.mp hq with h | h
      · exact hS.2.2 q h
      · exact hL q h⟩ T' rfl X'
  rw [← q_psh_map] at a1
  exact ⟨t2, st t2 a1, b1⟩
/-- what a method's tables say: its code, that its class stands, its name, how many it takes -/
def q_MB (M : Mt) (n : Nat) : Prop := Cond.code M.1 M.2.1 M.2.2.1 M.2.2.2 ∈ q_gw ∧ Cond.initialized M.1.cls ∈ q_gw ∧ plainName M.1.cls = true ∧ (M.1.cls ≠ "java/lang/invoke/MethodHandle" ∧ M.1.cls ≠ "java/lang/invoke/VarHandle" ∧ (parseMethodDescriptor M.1.desc).map (fun d => d.parameters.length) = some n) ∧ M.2.2.1 ≤ 40
def q_MS (M : Mt) (n : Nat) : Prop := q_MB M n ∧ Cond.static M.1 ∈ q_gw
def q_MV (M : Mt) (k n : Nat) : Prop := q_MB M n ∧ Cond.instanceMethod M.1 ∈ q_gw ∧ Cond.selects M.1.cls M.1 M.1 ∈ q_gw ∧ (q_cls.getD k ("", TX0, 0)).1 = M.1.cls ∧ k < 9
def q_MI (M : Mt) (n : Nat) : Prop := q_MB M n ∧ Cond.instanceMethod M.1 ∈ q_gw ∧ M.1.name = "<init>" ∧ M.2.2.2 = none
/-- what is at a call: the instruction, where it goes on, whom it names -/
def q_Ln (M : Mt) (ix : Nat) (M' : Mt) : Prop := Cond.methodLink M.1.cls ix M'.1 ∈ q_gw ∨ ∃ host, Cond.methodLinkNest M.1.cls ix M'.1 host ∈ q_nw
def q_CS (M : Mt) (pc : Nat) (M' : Mt) (nx : Nat) : Prop := ∃ ix, decode M.2.1 pc = .ok (.invokestatic ix, 3) ∧ pc + 3 = nx ∧ q_Ln M ix M'
def q_CV (M : Mt) (pc : Nat) (M' : Mt) (nx : Nat) : Prop := ∃ ix, decode M.2.1 pc = .ok (.invokevirtual ix, 3) ∧ pc + 3 = nx ∧ q_Ln M ix M'
def q_CI (M : Mt) (pc : Nat) (M' : Mt) (nx : Nat) : Prop := ∃ ix, decode M.2.1 pc = .ok (.invokespecial ix, 3) ∧ pc + 3 = nx ∧ q_Ln M ix M'
theorem q_room (hF : q_Fx G (d + 1) M mc ms p Rm s m args meth c) (hM : M'.2.2.1 ≤ 40) : (q_rm d mc' ms').frames + 1 ≤ Rm.frames ∧ 8 + (M'.2.2.1 + 11) + (q_rm d mc' ms').locals ≤ Rm.locals := by
  obtain ⟨-, -, -, -, -, -, -, -, -, f1, f2, -⟩ := hF
  constructor
  · exact f1
  · show 8 + (M'.2.2.1 + 11) + 64 * (d + 1) ≤ Rm.locals
    omega
theorem q_cats {G : Gx} {r : List Value} : ((r.map (q_cv G)).map fun v => v.category).sum = (r.map fun v => v.category).sum := by
  induction r with
  | nil => rfl
  | cons a r ih =>
    rw [List.map_cons, List.map_cons, List.sum_cons, List.map_cons, List.sum_cons, ih, q_cv_cat]
theorem q_rest {G : Gx} {m : MethodId} {pc : Nat} {la : Array Slot} {st0 r : List Value} (h : (r.map fun v => v.category).sum ≤ 8) : 2 * (F0 m pc la st0).monitorRoom + ((r.map (q_cv G)).map fun v => v.category).sum ≤ 8 := by
  rw [q_cats]
  exact lv_room h
theorem r_cs {as : List Value} (hs : q_CS M pc M' nx) (hm : q_MS M' as.length) (hl : (q_ents as).length ≤ M'.2.2.1) (hr : (rest.map fun v => v.category).sum ≤ 8) (hc : ce + mc' ≤ mc) (hsl : sl + ms' ≤ ms)
    (h : WW G d M' 0 (q_ent as M'.2.2.1) [] S R I L 0 0 mc' ms' (fun v S R I L => WW G (d + 1) M nx ls (q_psh v rest) S R I L (ce + mc') (sl + ms') mc ms K)) :
    WW G (d + 1) M pc ls (as.reverse ++ rest) S R I L ce sl mc ms K := by
  intro p e Rm s m args below meth c H locs Q la hF hW hS hla hR
  obtain ⟨ix, hd, rfl, hlk⟩ := hs
  obtain ⟨⟨m1, m2, m3, m4, m5⟩, m6⟩ := hm
  obtain ⟨f1, f2, f3, f4, f5, f6, f7, f8, f9, f10, f11, f12, f13⟩ := id hF
  have hM := q_met m3 hl h
  have hfit : ce + mc' ≤ Rm.cells ∧ sl + ms' ≤ Rm.slots := ⟨Nat.le_trans hc f12, Nat.le_trans hsl f13⟩
  have hrun : va_Run p G.1 e Rm s m args below meth c H locs ce sl mc' ms' (F0 m pc la ((as.reverse ++ rest).map (q_cv G))) (rest.map (q_cv G)) (q_Q G (fun v S R I L => WW G (d + 1) M (pc + 3) ls (q_psh v rest) S R I L (ce + mc') (sl + ms') mc ms K) (as.map (q_cv G)).toArray) (q_A G) := by
    rcases hlk with hlk | ⟨host, hlk⟩
    · exact va_runS (As := as.map (q_cv G)) (n := as.length) (rest := rest.map (q_cv G)) ⟨f1, f2, f3, f7, f8⟩ hM ⟨callB_of as.length f8 (q_goodIn m1) rfl rfl rfl (f8 _ m2) (f8 _ hlk) m4 (q_room hF m5), f8 _ m6⟩ ⟨q_blind, q_pre hF hW hS as⟩ rfl (by simp) hla.1 (by simp) (q_rest hr) hd hfit
    · exact va_runSN (As := as.map (q_cv G)) (n := as.length) (rest := rest.map (q_cv G)) ⟨f1, f2, f3, f7, f8⟩ hM ⟨va_cnB as.length f8 (q_goodIn m1) rfl rfl rfl (f9.2.1 _ hlk) (f8 _ m2) m4 (q_room hF m5), f8 _ m6, trivial⟩ ⟨q_blind, q_pre hF hW hS as⟩ rfl (by simp) hla.1 (by simp) (q_rest hr) hd hfit
  exact q_callW hrun hS (fun v S1 R1 I1 L1 H1 locs1 hk hw hs => hk p e Rm s m args below meth c H1 locs1 Q la hF hw hs hla hR)
/-- the receiver's cell -/
theorem q_recv (hF : q_Fx G d M mc ms p Rm s m args meth c) (hW : q_Wd G S R I L H) {k n i : Nat} (hk : k < 9) (hs : S[i]? = some (k, n)) : ∃ cell : Cell, H[q_ad G i]? = some cell ∧ cell.vm.isStatics = false ∧ s.vm.findClass (q_cls.getD k ("", TX0, 0)).1 = some cell.cls := by
  have h1 := hW.2.2 i _ hs
  rw [q_at_obj (by omega)] at h1
  obtain ⟨cell, c1, c2, c3, -⟩ := h1
  have hKc := hF.2.2.2.2.2.2.2.2.1.1.1 k (q_cls.getD k ("", TX0, 0)) (by
    match k, hk with
    | 0, _ => rfl
    | 1, _ => rfl
    | 2, _ => rfl
    | 3, _ => rfl
    | 4, _ => rfl
    | 5, _ => rfl
    | 6, _ => rfl
    | 7, _ => rfl
    | 8, _ => rfl)
  exact ⟨cell, by rw [q_ad_lt hW hs]; exact c1, by rw [c3]; rfl, by rw [c2]; exact hKc.2.1⟩
theorem r_cv {as : List Value} {i k n : Nat} (hs : q_CV M pc M' nx) (hm : q_MV M' k as.length) (hi : S[i]? = some (k, n)) (hl : (q_ents (.ref i :: as)).length ≤ M'.2.2.1) (hr : (rest.map fun v => v.category).sum ≤ 8) (hc : ce + mc' ≤ mc) (hsl : sl + ms' ≤ ms)
    (h : WW G d M' 0 (q_ent (.ref i :: as) M'.2.2.1) [] S R I L 0 0 mc' ms' (fun v S R I L => WW G (d + 1) M nx ls (q_psh v rest) S R I L (ce + mc') (sl + ms') mc ms K)) :
    WW G (d + 1) M pc ls (as.reverse ++ .ref i :: rest) S R I L ce sl mc ms K := by
  intro p e Rm s m args below meth c H locs Q la hF hW hS hla hR
  obtain ⟨ix, hd, rfl, hlk⟩ := hs
  obtain ⟨⟨m1, m2, m3, m4, m5⟩, m6, m7, m8, m9⟩ := hm
  obtain ⟨f1, f2, f3, f4, f5, f6, f7, f8, f9, f10, f11, f12, f13⟩ := id hF
  have hM := q_met m3 hl h
  have hfit : ce + mc' ≤ Rm.cells ∧ sl + ms' ≤ Rm.slots := ⟨Nat.le_trans hc f12, Nat.le_trans hsl f13⟩
  have hrc := q_recv hF hW m9 hi
  rw [m8] at hrc
  have hrun : va_Run p G.1 e Rm s m args below meth c H locs ce sl mc' ms' (F0 m pc la ((as.reverse ++ .ref i :: rest).map (q_cv G))) (rest.map (q_cv G)) (q_Q G (fun v S R I L => WW G (d + 1) M (pc + 3) ls (q_psh v rest) S R I L (ce + mc') (sl + ms') mc ms K) ((Value.ref i :: as).map (q_cv G)).toArray) (q_A G) := by
    rcases hlk with hlk | ⟨host, hlk⟩
    · exact va_runV (C := M'.1.cls) (b := q_ad G i) (As := as.map (q_cv G)) (n := as.length) (rest := rest.map (q_cv G)) ⟨f1, f2, f3, f7, f8⟩ hM ⟨callB_of as.length f8 (q_goodIn m1) rfl rfl rfl (f8 _ m2) (f8 _ hlk) m4 (q_room hF m5), f8 _ m6, f8 _ m7⟩ ⟨q_blind, hrc, q_pre hF hW hS (.ref i :: as)⟩ rfl (by simp) hla.1 (by simp [q_cv]) (q_rest hr) hd hfit
    · exact va_runVN (C := M'.1.cls) (b := q_ad G i) (As := as.map (q_cv G)) (n := as.length) (rest := rest.map (q_cv G)) ⟨f1, f2, f3, f7, f8⟩ hM ⟨va_cnB as.length f8 (q_goodIn m1) rfl rfl rfl (f9.2.1 _ hlk) (f8 _ m2) m4 (q_room hF m5), f8 _ m6, f8 _ m7⟩ ⟨q_blind, hrc, q_pre hF hW hS (.ref i :: as)⟩ rfl (by simp) hla.1 (by simp [q_cv]) (q_rest hr) hd hfit
  exact q_callW hrun hS (fun v S1 R1 I1 L1 H1 locs1 hk hw hs => hk p e Rm s m args below meth c H1 locs1 Q la hF hw hs hla hR)
theorem r_ci {as : List Value} {i : Nat} (hs : q_CI M pc M' nx) (hm : q_MI M' as.length) (hl : (q_ents (.ref i :: as)).length ≤ M'.2.2.1) (hr : (rest.map fun v => v.category).sum ≤ 8) (hc : ce + mc' ≤ mc) (hsl : sl + ms' ≤ ms)
    (h : WW G d M' 0 (q_ent (.ref i :: as) M'.2.2.1) [] S R I L 0 0 mc' ms' (fun v S R I L => WW G (d + 1) M nx ls (q_psh v rest) S R I L (ce + mc') (sl + ms') mc ms K)) :
    WW G (d + 1) M pc ls (as.reverse ++ .ref i :: rest) S R I L ce sl mc ms K := by
  intro p e Rm s m args below meth c H locs Q la hF hW hS hla hR
  obtain ⟨ix, hd, rfl, hlk⟩ := hs
  obtain ⟨⟨m1, m2, m3, m4, m5⟩, m6, m7, m8⟩ := hm
  obtain ⟨f1, f2, f3, f4, f5, f6, f7, f8, f9, f10, f11, f12, f13⟩ := id hF
  have hM := q_met m3 hl h
  rw [m8] at m1
  have hG : GoodIn q_gw (q_wm M') := q_goodIn (by rw [m8]; exact m1)
  have hw : q_wm M' = Cond.code M'.1 M'.2.1 M'.2.2.1 none :: q_gw := by unfold q_wm; rw [m8]
  have hfit : ce + mc' ≤ Rm.cells ∧ sl + ms' ≤ Rm.slots := ⟨Nat.le_trans hc f12, Nat.le_trans hsl f13⟩
  have hrun : va_Run p G.1 e Rm s m args below meth c H locs ce sl mc' ms' (F0 m pc la ((as.reverse ++ .ref i :: rest).map (q_cv G))) (rest.map (q_cv G)) (q_Q G (fun v S R I L => WW G (d + 1) M (pc + 3) ls (q_psh v rest) S R I L (ce + mc') (sl + ms') mc ms K) ((Value.ref i :: as).map (q_cv G)).toArray) (q_A G) := by
    rcases hlk with hlk | ⟨host, hlk⟩
    · exact va_runI (b := q_ad G i) (As := as.map (q_cv G)) (n := as.length) (rest := rest.map (q_cv G)) ⟨f1, f2, f3, f7, f8⟩ hM ⟨callB_of as.length f8 hG hw rfl rfl (f8 _ m2) (f8 _ hlk) m4 (q_room hF m5), m7, f8 _ m6⟩ ⟨q_blind, q_pre hF hW hS (.ref i :: as)⟩ rfl (by simp) hla.1 (by simp [q_cv]) (q_rest hr) hd hfit
    · exact va_runIN (b := q_ad G i) (As := as.map (q_cv G)) (n := as.length) (rest := rest.map (q_cv G)) ⟨f1, f2, f3, f7, f8⟩ hM ⟨va_cnB as.length f8 hG hw rfl rfl (f9.2.1 _ hlk) (f8 _ m2) m4 (q_room hF m5), m7, f8 _ m6⟩ ⟨q_blind, q_pre hF hW hS (.ref i :: as)⟩ rfl (by simp) hla.1 (by simp [q_cv]) (q_rest hr) hd hfit
  exact q_callW hrun hS (fun v S1 R1 I1 L1 H1 locs1 hk hw hs => hk p e Rm s m args below meth c H1 locs1 Q la hF hw hs hla hR)
end QC
end
section
/-! RULES, an instruction each -/
def Ft (M : Mt) (pc : Nat) (i : Instr) (n nx : Nat) : Prop := decode M.2.1 pc = .ok (i, n) ∧ pc + n = nx
def Fb (M : Mt) (pc : Nat) (mk : Int → Instr) (tgt nx : Nat) : Prop := ∃ off : Int, decode M.2.1 pc = .ok (mk off, 3) ∧ (pc : Int) + off = (tgt : Int) ∧ pc + 3 = nx
/-- an int is pushed -/
def Fc (M : Mt) (pc : Nat) (v : Int32) (nx : Nat) : Prop := (∃ n : Int, decode M.2.1 pc = .ok (.iconst n, 1) ∧ Int32.ofInt n = v ∧ pc + 1 = nx) ∨ (∃ n : Int, decode M.2.1 pc = .ok (.bipush n, 2) ∧ (Int8.ofInt n).toInt32 = v ∧ pc + 2 = nx) ∨ (∃ n : Int, decode M.2.1 pc = .ok (.sipush n, 3) ∧ (Int16.ofInt n).toInt32 = v ∧ pc + 3 = nx) ∨ (∃ ix : Nat, decode M.2.1 pc = .ok (.ldc ix, 2) ∧ Cond.constant M.1.cls ix v ∈ q_gw ∧ pc + 2 = nx) ∨ (∃ ix : Nat, decode M.2.1 pc = .ok (.ldc_w ix, 3) ∧ Cond.constant M.1.cls ix v ∈ q_gw ∧ pc + 3 = nx)
/-- a long is pushed -/
def Fk (M : Mt) (pc : Nat) (v : Int64) (nx : Nat) : Prop := (∃ n : Fin 2, decode M.2.1 pc = .ok (.lconst n, 1) ∧ Int64.ofNat (n : Nat) = v ∧ pc + 1 = nx) ∨ (∃ ix : Nat, decode M.2.1 pc = .ok (.ldc2_w ix, 3) ∧ Cond.constantLong M.1.cls ix v ∈ q_gw ∧ pc + 3 = nx)
/-- a variable is loaded, or stored -/
def Fvr (M : Mt) (pc : Nat) (mn : Fin 4 → Instr) (mi : Nat → Instr) (i nx : Nat) : Prop := ((∃ k : Fin 4, decode M.2.1 pc = .ok (mn k, 1) ∧ (k : Nat) = i ∧ pc + 1 = nx) ∨ (decode M.2.1 pc = .ok (mi i, 2) ∧ pc + 2 = nx)) ∧ i + 1 ≤ M.2.2.1
def Fi (M : Mt) (pc i : Nat) (v : Int32) (nx : Nat) : Prop := ∃ n : Int, decode M.2.1 pc = .ok (.iinc i n, 3) ∧ Int32.ofInt n = v ∧ pc + 3 = nx ∧ i < M.2.2.1
/-- an index: j of n places -/
def q_ix (i : Int32) (j n : Nat) : Prop := i.toInt = (j : Int) ∧ j < n
theorem q_ix.clamp {i : Int32} {j n : Nat} (h : q_ix i j n) : i.toNatClampNeg = j := by
  show i.toInt.toNat = j
  rw [h.1]
  rfl
theorem q_ix.in {i : Int32} {j n : Nat} (h : q_ix i j n) : vp_in i n := vp_in_iff.mpr ⟨by rw [h.1]; omega, by rw [h.1]; exact Int.ofNat_lt.mpr h.2⟩
theorem q_ix.nI {j n : Nat} (h : j < n) (hn : n < 2 ^ 31) : q_ix (nI j) j n := ⟨nI_toInt (by omega), h⟩
/-- not the first half of a long -/
def q_n2 (v : Option Value) : Bool := match v with
  | some (.long _) => false
  | some (.double _) => false
  | _ => true
section RU
variable {G : Gx} {d : Nat} {M : Mt} {pc nx tgt : Nat} {ls : List (Option Value)} {st : List Value} {S : Shp} {R : Rf} {I : Rn} {L : Rl} {ce sl mc ms : Nat} {K : Kt}
theorem r_iadd {x y : Int32} (hd : Ft M pc .iadd 1 nx) (k : WW G d M nx ls (.int (x + y) :: st) S R I L ce sl mc ms K) : WW G d M pc ls (.int y :: .int x :: st) S R I L ce sl mc ms K := by
  intro p e Rm s m args below meth c H locs Q la hF hW hS hl hR
  obtain ⟨hd, rfl⟩ := hd
  exact lv_iadd hF.1 hF.2.1 hd (k p e Rm s m args below meth c H locs Q la hF hW hS hl hR)
theorem r_isub {x y : Int32} (hd : Ft M pc .isub 1 nx) (k : WW G d M nx ls (.int (x - y) :: st) S R I L ce sl mc ms K) : WW G d M pc ls (.int y :: .int x :: st) S R I L ce sl mc ms K := by
  intro p e Rm s m args below meth c H locs Q la hF hW hS hl hR
  obtain ⟨hd, rfl⟩ := hd
  exact lv_isub hF.1 hF.2.1 hd (k p e Rm s m args below meth c H locs Q la hF hW hS hl hR)
theorem r_imul {x y : Int32} (hd : Ft M pc .imul 1 nx) (k : WW G d M nx ls (.int (x * y) :: st) S R I L ce sl mc ms K) : WW G d M pc ls (.int y :: .int x :: st) S R I L ce sl mc ms K := by
  intro p e Rm s m args below meth c H locs Q la hF hW hS hl hR
  obtain ⟨hd, rfl⟩ := hd
  exact lv_imul hF.1 hF.2.1 hd (k p e Rm s m args below meth c H locs Q la hF hW hS hl hR)
theorem r_iand {x y : Int32} (hd : Ft M pc .iand 1 nx) (k : WW G d M nx ls (.int (x &&& y) :: st) S R I L ce sl mc ms K) : WW G d M pc ls (.int y :: .int x :: st) S R I L ce sl mc ms K := by
  intro p e Rm s m args below meth c H locs Q la hF hW hS hl hR
  obtain ⟨hd, rfl⟩ := hd
  exact lv_iand hF.1 hF.2.1 hd (k p e Rm s m args below meth c H locs Q la hF hW hS hl hR)
theorem r_ior {x y : Int32} (hd : Ft M pc .ior 1 nx) (k : WW G d M nx ls (.int (x ||| y) :: st) S R I L ce sl mc ms K) : WW G d M pc ls (.int y :: .int x :: st) S R I L ce sl mc ms K := by
  intro p e Rm s m args below meth c H locs Q la hF hW hS hl hR
  obtain ⟨hd, rfl⟩ := hd
  exact lv_ior hF.1 hF.2.1 hd (k p e Rm s m args below meth c H locs Q la hF hW hS hl hR)
theorem r_ixor {x y : Int32} (hd : Ft M pc .ixor 1 nx) (k : WW G d M nx ls (.int (x ^^^ y) :: st) S R I L ce sl mc ms K) : WW G d M pc ls (.int y :: .int x :: st) S R I L ce sl mc ms K := by
  intro p e Rm s m args below meth c H locs Q la hF hW hS hl hR
  obtain ⟨hd, rfl⟩ := hd
  exact lv_ixor hF.1 hF.2.1 hd (k p e Rm s m args below meth c H locs Q la hF hW hS hl hR)
theorem r_ishl {x y : Int32} (hd : Ft M pc .ishl 1 nx) (k : WW G d M nx ls (.int (x <<< (y &&& 31)) :: st) S R I L ce sl mc ms K) : WW G d M pc ls (.int y :: .int x :: st) S R I L ce sl mc ms K := by
  intro p e Rm s m args below meth c H locs Q la hF hW hS hl hR
  obtain ⟨hd, rfl⟩ := hd
  exact lv_ishl hF.1 hF.2.1 hd (k p e Rm s m args below meth c H locs Q la hF hW hS hl hR)
theorem r_ishr {x y : Int32} (hd : Ft M pc .ishr 1 nx) (k : WW G d M nx ls (.int (x >>> (y &&& 31)) :: st) S R I L ce sl mc ms K) : WW G d M pc ls (.int y :: .int x :: st) S R I L ce sl mc ms K := by
  intro p e Rm s m args below meth c H locs Q la hF hW hS hl hR
  obtain ⟨hd, rfl⟩ := hd
  exact lv_ishr hF.1 hF.2.1 hd (k p e Rm s m args below meth c H locs Q la hF hW hS hl hR)
theorem r_ladd {x y : Int64} (hd : Ft M pc .ladd 1 nx) (k : WW G d M nx ls (.long (x + y) :: st) S R I L ce sl mc ms K) : WW G d M pc ls (.long y :: .long x :: st) S R I L ce sl mc ms K := by
  intro p e Rm s m args below meth c H locs Q la hF hW hS hl hR
  obtain ⟨hd, rfl⟩ := hd
  exact lv_ladd hF.1 hF.2.1 hd (k p e Rm s m args below meth c H locs Q la hF hW hS hl hR)
theorem r_lsub {x y : Int64} (hd : Ft M pc .lsub 1 nx) (k : WW G d M nx ls (.long (x - y) :: st) S R I L ce sl mc ms K) : WW G d M pc ls (.long y :: .long x :: st) S R I L ce sl mc ms K := by
  intro p e Rm s m args below meth c H locs Q la hF hW hS hl hR
  obtain ⟨hd, rfl⟩ := hd
  exact lv_lsub hF.1 hF.2.1 hd (k p e Rm s m args below meth c H locs Q la hF hW hS hl hR)
theorem r_lmul {x y : Int64} (hd : Ft M pc .lmul 1 nx) (k : WW G d M nx ls (.long (x * y) :: st) S R I L ce sl mc ms K) : WW G d M pc ls (.long y :: .long x :: st) S R I L ce sl mc ms K := by
  intro p e Rm s m args below meth c H locs Q la hF hW hS hl hR
  obtain ⟨hd, rfl⟩ := hd
  exact lv_lmul hF.1 hF.2.1 hd (k p e Rm s m args below meth c H locs Q la hF hW hS hl hR)
theorem r_land {x y : Int64} (hd : Ft M pc .land 1 nx) (k : WW G d M nx ls (.long (x &&& y) :: st) S R I L ce sl mc ms K) : WW G d M pc ls (.long y :: .long x :: st) S R I L ce sl mc ms K := by
  intro p e Rm s m args below meth c H locs Q la hF hW hS hl hR
  obtain ⟨hd, rfl⟩ := hd
  exact lv_land hF.1 hF.2.1 hd (k p e Rm s m args below meth c H locs Q la hF hW hS hl hR)
theorem r_lor {x y : Int64} (hd : Ft M pc .lor 1 nx) (k : WW G d M nx ls (.long (x ||| y) :: st) S R I L ce sl mc ms K) : WW G d M pc ls (.long y :: .long x :: st) S R I L ce sl mc ms K := by
  intro p e Rm s m args below meth c H locs Q la hF hW hS hl hR
  obtain ⟨hd, rfl⟩ := hd
  exact lv_lor hF.1 hF.2.1 hd (k p e Rm s m args below meth c H locs Q la hF hW hS hl hR)
theorem r_lxor {x y : Int64} (hd : Ft M pc .lxor 1 nx) (k : WW G d M nx ls (.long (x ^^^ y) :: st) S R I L ce sl mc ms K) : WW G d M pc ls (.long y :: .long x :: st) S R I L ce sl mc ms K := by
  intro p e Rm s m args below meth c H locs Q la hF hW hS hl hR
  obtain ⟨hd, rfl⟩ := hd
  exact lv_lxor hF.1 hF.2.1 hd (k p e Rm s m args below meth c H locs Q la hF hW hS hl hR)
theorem r_idiv {x y : Int32} (hd : Ft M pc .idiv 1 nx) (hne : ¬ y = 0) (k : WW G d M nx ls (.int (x / y) :: st) S R I L ce sl mc ms K) : WW G d M pc ls (.int y :: .int x :: st) S R I L ce sl mc ms K := by
  intro p e Rm s m args below meth c H locs Q la hF hW hS hl hR
  obtain ⟨hd, rfl⟩ := hd
  exact lv_idiv hF.1 hF.2.1 hd hne (k p e Rm s m args below meth c H locs Q la hF hW hS hl hR)
theorem r_irem {x y : Int32} (hd : Ft M pc .irem 1 nx) (hne : ¬ y = 0) (k : WW G d M nx ls (.int (x - x / y * y) :: st) S R I L ce sl mc ms K) : WW G d M pc ls (.int y :: .int x :: st) S R I L ce sl mc ms K := by
  intro p e Rm s m args below meth c H locs Q la hF hW hS hl hR
  obtain ⟨hd, rfl⟩ := hd
  exact lv_irem hF.1 hF.2.1 hd hne (k p e Rm s m args below meth c H locs Q la hF hW hS hl hR)
theorem r_ldiv {x y : Int64} (hd : Ft M pc .ldiv 1 nx) (hne : ¬ y = 0) (k : WW G d M nx ls (.long (x / y) :: st) S R I L ce sl mc ms K) : WW G d M pc ls (.long y :: .long x :: st) S R I L ce sl mc ms K := by
  intro p e Rm s m args below meth c H locs Q la hF hW hS hl hR
  obtain ⟨hd, rfl⟩ := hd
  exact lv_ldiv hF.1 hF.2.1 hd hne (k p e Rm s m args below meth c H locs Q la hF hW hS hl hR)
theorem r_lrem {x y : Int64} (hd : Ft M pc .lrem 1 nx) (hne : ¬ y = 0) (k : WW G d M nx ls (.long (x - x / y * y) :: st) S R I L ce sl mc ms K) : WW G d M pc ls (.long y :: .long x :: st) S R I L ce sl mc ms K := by
  intro p e Rm s m args below meth c H locs Q la hF hW hS hl hR
  obtain ⟨hd, rfl⟩ := hd
  exact lv_lrem hF.1 hF.2.1 hd hne (k p e Rm s m args below meth c H locs Q la hF hW hS hl hR)
theorem r_ineg {x : Int32} (hd : Ft M pc .ineg 1 nx) (k : WW G d M nx ls (.int (-x) :: st) S R I L ce sl mc ms K) : WW G d M pc ls (.int x :: st) S R I L ce sl mc ms K := by
  intro p e Rm s m args below meth c H locs Q la hF hW hS hl hR
  obtain ⟨hd, rfl⟩ := hd
  exact lv_ineg hF.1 hF.2.1 hd (k p e Rm s m args below meth c H locs Q la hF hW hS hl hR)
theorem r_iushr {x y : Int32} (hd : Ft M pc .iushr 1 nx) (k : WW G d M nx ls (.int (x.toUInt32 >>> (y.toUInt32 &&& Int32.toUInt32 31)).toInt32 :: st) S R I L ce sl mc ms K) : WW G d M pc ls (.int y :: .int x :: st) S R I L ce sl mc ms K := by
  intro p e Rm s m args below meth c H locs Q la hF hW hS hl hR
  obtain ⟨hd, rfl⟩ := hd
  exact lv_iushr hF.1 hF.2.1 hd rfl (k p e Rm s m args below meth c H locs Q la hF hW hS hl hR)
theorem r_lshl {x : Int64} {y : Int32} (hd : Ft M pc .lshl 1 nx) (k : WW G d M nx ls (.long (x <<< (y.toInt64 &&& 63)) :: st) S R I L ce sl mc ms K) : WW G d M pc ls (.int y :: .long x :: st) S R I L ce sl mc ms K := by
  intro p e Rm s m args below meth c H locs Q la hF hW hS hl hR
  obtain ⟨hd, rfl⟩ := hd
  exact lv_lshl hF.1 hF.2.1 hd rfl (k p e Rm s m args below meth c H locs Q la hF hW hS hl hR)
theorem r_i2l {x : Int32} (hd : Ft M pc .i2l 1 nx) (k : WW G d M nx ls (.long x.toInt64 :: st) S R I L ce sl mc ms K) : WW G d M pc ls (.int x :: st) S R I L ce sl mc ms K := by
  intro p e Rm s m args below meth c H locs Q la hF hW hS hl hR
  obtain ⟨hd, rfl⟩ := hd
  exact lv_i2l hF.1 hF.2.1 hd rfl (k p e Rm s m args below meth c H locs Q la hF hW hS hl hR)
theorem r_l2i {x : Int64} (hd : Ft M pc .l2i 1 nx) (k : WW G d M nx ls (.int x.toInt32 :: st) S R I L ce sl mc ms K) : WW G d M pc ls (.long x :: st) S R I L ce sl mc ms K := by
  intro p e Rm s m args below meth c H locs Q la hF hW hS hl hR
  obtain ⟨hd, rfl⟩ := hd
  exact lv_l2i hF.1 hF.2.1 hd rfl (k p e Rm s m args below meth c H locs Q la hF hW hS hl hR)
theorem r_i2b {x : Int32} (hd : Ft M pc .i2b 1 nx) (k : WW G d M nx ls (.int x.toInt8.toInt32 :: st) S R I L ce sl mc ms K) : WW G d M pc ls (.int x :: st) S R I L ce sl mc ms K := by
  intro p e Rm s m args below meth c H locs Q la hF hW hS hl hR
  obtain ⟨hd, rfl⟩ := hd
  exact lv_i2b hF.1 hF.2.1 hd rfl (k p e Rm s m args below meth c H locs Q la hF hW hS hl hR)
theorem r_i2s {x : Int32} (hd : Ft M pc .i2s 1 nx) (k : WW G d M nx ls (.int x.toInt16.toInt32 :: st) S R I L ce sl mc ms K) : WW G d M pc ls (.int x :: st) S R I L ce sl mc ms K := by
  intro p e Rm s m args below meth c H locs Q la hF hW hS hl hR
  obtain ⟨hd, rfl⟩ := hd
  exact lv_i2s hF.1 hF.2.1 hd rfl (k p e Rm s m args below meth c H locs Q la hF hW hS hl hR)
theorem r_lcmp {x y : Int64} (hd : Ft M pc .lcmp 1 nx) (k : WW G d M nx ls (.int (lg_cmp x y) :: st) S R I L ce sl mc ms K) : WW G d M pc ls (.long y :: .long x :: st) S R I L ce sl mc ms K := by
  intro p e Rm s m args below meth c H locs Q la hF hW hS hl hR
  obtain ⟨hd, rfl⟩ := hd
  exact W.lcmp hF.1 hF.2.1 hd (k p e Rm s m args below meth c H locs Q la hF hW hS hl hR)
theorem r_dupi {x : Int32} (hd : Ft M pc .dup 1 nx) (k : WW G d M nx ls (.int x :: .int x :: st) S R I L ce sl mc ms K) : WW G d M pc ls (.int x :: st) S R I L ce sl mc ms K := by
  intro p e Rm s m args below meth c H locs Q la hF hW hS hl hR
  obtain ⟨hd, rfl⟩ := hd
  exact lv_dup hF.1 hF.2.1 hd rfl (k p e Rm s m args below meth c H locs Q la hF hW hS hl hR)
theorem r_dupr {x : Nat} (hd : Ft M pc .dup 1 nx) (k : WW G d M nx ls (.ref x :: .ref x :: st) S R I L ce sl mc ms K) : WW G d M pc ls (.ref x :: st) S R I L ce sl mc ms K := by
  intro p e Rm s m args below meth c H locs Q la hF hW hS hl hR
  obtain ⟨hd, rfl⟩ := hd
  exact lv_dup hF.1 hF.2.1 hd rfl (k p e Rm s m args below meth c H locs Q la hF hW hS hl hR)
theorem r_dup2 {x : Int32} {y : Nat} (hd : Ft M pc .dup2 1 nx) (k : WW G d M nx ls (.int x :: .ref y :: .int x :: .ref y :: st) S R I L ce sl mc ms K) : WW G d M pc ls (.int x :: .ref y :: st) S R I L ce sl mc ms K := by
  intro p e Rm s m args below meth c H locs Q la hF hW hS hl hR
  obtain ⟨hd, rfl⟩ := hd
  exact lv_dup2_11 hF.1 hF.2.1 hd rfl rfl (k p e Rm s m args below meth c H locs Q la hF hW hS hl hR)
theorem r_ic {v : Int32} (hd : Fc M pc v nx) (k : WW G d M nx ls (.int v :: st) S R I L ce sl mc ms K) : WW G d M pc ls st S R I L ce sl mc ms K := by
  intro p e Rm s m args below meth c H locs Q la hF hW hS hl hR
  have kk := k p e Rm s m args below meth c H locs Q la hF hW hS hl hR
  rcases hd with ⟨n, h1, h2, rfl⟩ | ⟨n, h1, h2, rfl⟩ | ⟨n, h1, h2, rfl⟩ | ⟨n, h1, h2, rfl⟩ | ⟨n, h1, h2, rfl⟩
  · exact lv_iconst hF.1 hF.2.1 h1 h2 kk
  · exact lv_bipush hF.1 hF.2.1 h1 h2 kk
  · exact lv_sipush hF.1 hF.2.1 h1 h2 kk
  · exact lv_ldc hF.1 hF.2.1 hF.2.2.2.2.2.2.1 (hF.2.2.2.2.2.2.2.1 _ h2) h1 kk
  · exact lv_ldcw hF.1 hF.2.1 hF.2.2.2.2.2.2.1 (hF.2.2.2.2.2.2.2.1 _ h2) h1 kk
theorem r_lc {v : Int64} (hd : Fk M pc v nx) (k : WW G d M nx ls (.long v :: st) S R I L ce sl mc ms K) : WW G d M pc ls st S R I L ce sl mc ms K := by
  intro p e Rm s m args below meth c H locs Q la hF hW hS hl hR
  have kk := k p e Rm s m args below meth c H locs Q la hF hW hS hl hR
  rcases hd with ⟨n, h1, h2, rfl⟩ | ⟨n, h1, h2, rfl⟩
  · exact lv_lconst hF.1 hF.2.1 h1 h2 kk
  · exact lv_ldc2 hF.1 hF.2.1 hF.2.2.2.2.2.2.1 (hF.2.2.2.2.2.2.2.1 _ h2) h1 kk
theorem r_ild {i : Nat} {x : Int32} (hd : Fvr M pc .iload_n .iload i nx) (hv : ls[i]? = some (some (.int x))) (k : WW G d M nx ls (.int x :: st) S R I L ce sl mc ms K) : WW G d M pc ls st S R I L ce sl mc ms K := by
  intro p e Rm s m args below meth c H locs Q la hF hW hS hl hR
  have kk := k p e Rm s m args below meth c H locs Q la hF hW hS hl hR
  rcases hd.1 with ⟨n, h1, h2, rfl⟩ | ⟨h1, rfl⟩
  · exact lv_iload_n hF.1 hF.2.1 h1 h2 (q_lv_get hl hv) kk
  · exact lv_iload hF.1 hF.2.1 h1 (q_lv_get hl hv) kk
theorem r_lld {i : Nat} {x : Int64} (hd : Fvr M pc .lload_n .lload i nx) (hv : ls[i]? = some (some (.long x))) (k : WW G d M nx ls (.long x :: st) S R I L ce sl mc ms K) : WW G d M pc ls st S R I L ce sl mc ms K := by
  intro p e Rm s m args below meth c H locs Q la hF hW hS hl hR
  have kk := k p e Rm s m args below meth c H locs Q la hF hW hS hl hR
  rcases hd.1 with ⟨n, h1, h2, rfl⟩ | ⟨h1, rfl⟩
  · exact lv_lload_n hF.1 hF.2.1 h1 h2 (q_lv_get hl hv) kk
  · exact lv_lload hF.1 hF.2.1 h1 (q_lv_get hl hv) kk
theorem r_ald {i : Nat} {x : Nat} (hd : Fvr M pc .aload_n .aload i nx) (hv : ls[i]? = some (some (.ref x))) (k : WW G d M nx ls (.ref x :: st) S R I L ce sl mc ms K) : WW G d M pc ls st S R I L ce sl mc ms K := by
  intro p e Rm s m args below meth c H locs Q la hF hW hS hl hR
  have kk := k p e Rm s m args below meth c H locs Q la hF hW hS hl hR
  rcases hd.1 with ⟨n, h1, h2, rfl⟩ | ⟨h1, rfl⟩
  · exact lv_aload_n hF.1 hF.2.1 h1 h2 (q_lv_get hl hv) kk
  · exact lv_aload hF.1 hF.2.1 h1 (q_lv_get hl hv) kk
theorem q_st1 {ls : List (Option Value)} {i : Nat} {v : Value} {nL : Nat} {la : Array Slot} (hp : ∀ j, i = j + 1 → q_n2 (ls.getD j none) = true) (h : lv_has la nL ((i, q_cv G v) :: (q_lv G ls).filter (fun q => !(q.1 == i) && !(q.1 + 1 == i && q.2.category == 2)))) : lv_has la nL (q_lv G (ls.set i (some v))) := by
  refine ⟨h.1, h.2.1, fun q hq => h.2.2 q ?_⟩
  obtain ⟨w, h1, h2⟩ := q_lv_mem.mp hq
  by_cases e : q.1 = i
  · have hlt : i < (ls.set i (some v)).length := by have h9 := (List.getElem?_eq_some_iff.mp h1).1; rw [e] at h9; exact h9
    rw [e, List.getElem?_set_self (by simpa using hlt)] at h1
    cases h1
    refine List.mem_cons.mpr (Or.inl ?_)
    cases q
    cases e
    cases h2
    rfl
  · rw [List.getElem?_set_ne (Ne.symm e)] at h1
    refine List.mem_cons.mpr (Or.inr (List.mem_filter.mpr ⟨q_lv_mem.mpr ⟨w, h1, h2⟩, ?_⟩))
    simp only [Bool.and_eq_true, Bool.not_eq_true', beq_eq_false_iff_ne, ne_eq, Bool.and_eq_false_iff]
    refine ⟨e, ?_⟩
    by_cases e2 : q.1 + 1 = i
    · right
      have h3 := hp q.1 e2.symm
      rw [List.getD_eq_getElem?_getD, h1] at h3
      rw [h2, q_cv_cat]
      cases w <;> first | (intro h; cases h; done) | cases h3
    · exact Or.inl e2
theorem q_st2 {ls : List (Option Value)} {i : Nat} {v : Value} {nL : Nat} {la : Array Slot} (hp : ∀ j, i = j + 1 → q_n2 (ls.getD j none) = true) (h : lv_has la nL ((i, q_cv G v) :: (q_lv G ls).filter (fun q => !(q.1 == i) && (!(q.1 == i + 1) && !(q.1 + 1 == i && q.2.category == 2))))) : lv_has la nL (q_lv G ((ls.set i (some v)).set (i + 1) none)) := by
  refine ⟨h.1, h.2.1, fun q hq => h.2.2 q ?_⟩
  obtain ⟨w, h1, h2⟩ := q_lv_mem.mp hq
  by_cases e1 : q.1 = i + 1
  · have hlt : i + 1 < ((ls.set i (some v)).set (i + 1) none).length := by have h9 := (List.getElem?_eq_some_iff.mp h1).1; rw [e1] at h9; exact h9
    rw [e1, List.getElem?_set_self (by simpa using hlt)] at h1
    cases h1
  · rw [List.getElem?_set_ne (Ne.symm e1)] at h1
    by_cases e : q.1 = i
    · have hlt : i < (ls.set i (some v)).length := by have h9 := (List.getElem?_eq_some_iff.mp h1).1; rw [e] at h9; exact h9
      rw [e, List.getElem?_set_self (by simpa using hlt)] at h1
      cases h1
      refine List.mem_cons.mpr (Or.inl ?_)
      cases q
      cases e
      cases h2
      rfl
    · rw [List.getElem?_set_ne (Ne.symm e)] at h1
      refine List.mem_cons.mpr (Or.inr (List.mem_filter.mpr ⟨q_lv_mem.mpr ⟨w, h1, h2⟩, ?_⟩))
      simp only [Bool.and_eq_true, Bool.not_eq_true', beq_eq_false_iff_ne, ne_eq, Bool.and_eq_false_iff]
      refine ⟨e, e1, ?_⟩
      by_cases e2 : q.1 + 1 = i
      · right
        have h3 := hp q.1 e2.symm
        rw [List.getD_eq_getElem?_getD, h1] at h3
        rw [h2, q_cv_cat]
        cases w <;> first | (intro h; cases h; done) | cases h3
      · exact Or.inl e2
theorem r_ist {i : Nat} {x : Int32} (hd : Fvr M pc .istore_n .istore i nx) (hp : ∀ j, i = j + 1 → q_n2 (ls.getD j none) = true) (k : WW G d M nx (ls.set i (some (.int x))) st S R I L ce sl mc ms K) : WW G d M pc ls (.int x :: st) S R I L ce sl mc ms K := by
  intro p e Rm s m args below meth c H locs Q la hF hW hS hl hR
  obtain ⟨hd, hi⟩ := hd
  rcases hd with ⟨n, h1, h2, rfl⟩ | ⟨h1, rfl⟩
  · exact lv_istore_n hF.1 hF.2.1 h1 h2 hl hi rfl (fun la' hl' => k p e Rm s m args below meth c H locs Q la' hF hW hS (q_st1 (v := .int x) hp hl') hR)
  · exact lv_istore hF.1 hF.2.1 h1 hl hi rfl (fun la' hl' => k p e Rm s m args below meth c H locs Q la' hF hW hS (q_st1 (v := .int x) hp hl') hR)
theorem r_ast {i : Nat} {x : Nat} (hd : Fvr M pc .astore_n .astore i nx) (hp : ∀ j, i = j + 1 → q_n2 (ls.getD j none) = true) (k : WW G d M nx (ls.set i (some (.ref x))) st S R I L ce sl mc ms K) : WW G d M pc ls (.ref x :: st) S R I L ce sl mc ms K := by
  intro p e Rm s m args below meth c H locs Q la hF hW hS hl hR
  obtain ⟨hd, hi⟩ := hd
  rcases hd with ⟨n, h1, h2, rfl⟩ | ⟨h1, rfl⟩
  · exact lv_astore_n hF.1 hF.2.1 h1 h2 hl hi rfl (fun la' hl' => k p e Rm s m args below meth c H locs Q la' hF hW hS (q_st1 (v := .ref x) hp hl') hR)
  · exact lv_astore hF.1 hF.2.1 h1 hl hi rfl (fun la' hl' => k p e Rm s m args below meth c H locs Q la' hF hW hS (q_st1 (v := .ref x) hp hl') hR)
theorem r_lst {i : Nat} {x : Int64} (hd : Fvr M pc .lstore_n .lstore i nx) (hi : i + 1 < M.2.2.1) (hp : ∀ j, i = j + 1 → q_n2 (ls.getD j none) = true) (k : WW G d M nx ((ls.set i (some (.long x))).set (i + 1) none) st S R I L ce sl mc ms K) : WW G d M pc ls (.long x :: st) S R I L ce sl mc ms K := by
  intro p e Rm s m args below meth c H locs Q la hF hW hS hl hR
  rcases hd.1 with ⟨n, h1, h2, rfl⟩ | ⟨h1, rfl⟩
  · exact lv_lstore_n hF.1 hF.2.1 h1 h2 hl hi rfl (fun la' hl' => k p e Rm s m args below meth c H locs Q la' hF hW hS (q_st2 (v := .long x) hp hl') hR)
  · exact lv_lstore hF.1 hF.2.1 h1 hl hi rfl (fun la' hl' => k p e Rm s m args below meth c H locs Q la' hF hW hS (q_st2 (v := .long x) hp hl') hR)
theorem r_iinc {i : Nat} {x v : Int32} (hd : Fi M pc i v nx) (hv : ls[i]? = some (some (.int x))) (hp : ∀ j, i = j + 1 → q_n2 (ls.getD j none) = true) (k : WW G d M nx (ls.set i (some (.int (x + v)))) st S R I L ce sl mc ms K) : WW G d M pc ls st S R I L ce sl mc ms K := by
  intro p e Rm s m args below meth c H locs Q la hF hW hS hl hR
  obtain ⟨n, h1, h2, rfl, hi⟩ := hd
  obtain ⟨t, ht⟩ := List.getElem?_of_mem (q_lv_mem (G := G) (q := (i, Value.int x)).mpr ⟨.int x, hv, rfl⟩)
  exact lv_iinc (v := x + v) hF.1 hF.2.1 h1 hl ht (by rw [h2]) hi rfl (fun la' hl' => k p e Rm s m args below meth c H locs Q la' hF hW hS (q_st1 (v := .int (x + v)) hp hl') hR)
theorem r_ic_eq {x y : Int32} (hd : Fb M pc (.if_icmp .eq) tgt nx) (kt : x = y → WW G d M tgt ls st S R I L ce sl mc ms K) (kf : ¬ x = y → WW G d M nx ls st S R I L ce sl mc ms K) : WW G d M pc ls (.int y :: .int x :: st) S R I L ce sl mc ms K := by
  intro p e Rm s m args below meth c H locs Q la hF hW hS hl hR
  obtain ⟨off, h1, h2, rfl⟩ := hd
  exact lv_icmp_eq hF.1 hF.2.1 h1 h2 (fun h => kt h p e Rm s m args below meth c H locs Q la hF hW hS hl hR) (fun h => kf h p e Rm s m args below meth c H locs Q la hF hW hS hl hR)
theorem r_ic_ne {x y : Int32} (hd : Fb M pc (.if_icmp .ne) tgt nx) (kt : ¬ x = y → WW G d M tgt ls st S R I L ce sl mc ms K) (kf : x = y → WW G d M nx ls st S R I L ce sl mc ms K) : WW G d M pc ls (.int y :: .int x :: st) S R I L ce sl mc ms K := by
  intro p e Rm s m args below meth c H locs Q la hF hW hS hl hR
  obtain ⟨off, h1, h2, rfl⟩ := hd
  exact lv_icmp_ne hF.1 hF.2.1 h1 h2 (fun h => kt h p e Rm s m args below meth c H locs Q la hF hW hS hl hR) (fun h => kf h p e Rm s m args below meth c H locs Q la hF hW hS hl hR)
theorem r_ic_lt {x y : Int32} (hd : Fb M pc (.if_icmp .lt) tgt nx) (kt : x < y → WW G d M tgt ls st S R I L ce sl mc ms K) (kf : ¬ x < y → WW G d M nx ls st S R I L ce sl mc ms K) : WW G d M pc ls (.int y :: .int x :: st) S R I L ce sl mc ms K := by
  intro p e Rm s m args below meth c H locs Q la hF hW hS hl hR
  obtain ⟨off, h1, h2, rfl⟩ := hd
  exact lv_icmp_lt hF.1 hF.2.1 h1 h2 (fun h => kt h p e Rm s m args below meth c H locs Q la hF hW hS hl hR) (fun h => kf h p e Rm s m args below meth c H locs Q la hF hW hS hl hR)
theorem r_ic_ge {x y : Int32} (hd : Fb M pc (.if_icmp .ge) tgt nx) (kt : y ≤ x → WW G d M tgt ls st S R I L ce sl mc ms K) (kf : ¬ y ≤ x → WW G d M nx ls st S R I L ce sl mc ms K) : WW G d M pc ls (.int y :: .int x :: st) S R I L ce sl mc ms K := by
  intro p e Rm s m args below meth c H locs Q la hF hW hS hl hR
  obtain ⟨off, h1, h2, rfl⟩ := hd
  exact lv_icmp_ge hF.1 hF.2.1 h1 h2 (fun h => kt h p e Rm s m args below meth c H locs Q la hF hW hS hl hR) (fun h => kf h p e Rm s m args below meth c H locs Q la hF hW hS hl hR)
theorem r_ic_gt {x y : Int32} (hd : Fb M pc (.if_icmp .gt) tgt nx) (kt : y < x → WW G d M tgt ls st S R I L ce sl mc ms K) (kf : ¬ y < x → WW G d M nx ls st S R I L ce sl mc ms K) : WW G d M pc ls (.int y :: .int x :: st) S R I L ce sl mc ms K := by
  intro p e Rm s m args below meth c H locs Q la hF hW hS hl hR
  obtain ⟨off, h1, h2, rfl⟩ := hd
  exact lv_icmp_gt hF.1 hF.2.1 h1 h2 (fun h => kt h p e Rm s m args below meth c H locs Q la hF hW hS hl hR) (fun h => kf h p e Rm s m args below meth c H locs Q la hF hW hS hl hR)
theorem r_ic_le {x y : Int32} (hd : Fb M pc (.if_icmp .le) tgt nx) (kt : x ≤ y → WW G d M tgt ls st S R I L ce sl mc ms K) (kf : ¬ x ≤ y → WW G d M nx ls st S R I L ce sl mc ms K) : WW G d M pc ls (.int y :: .int x :: st) S R I L ce sl mc ms K := by
  intro p e Rm s m args below meth c H locs Q la hF hW hS hl hR
  obtain ⟨off, h1, h2, rfl⟩ := hd
  exact lv_icmp_le hF.1 hF.2.1 h1 h2 (fun h => kt h p e Rm s m args below meth c H locs Q la hF hW hS hl hR) (fun h => kf h p e Rm s m args below meth c H locs Q la hF hW hS hl hR)
theorem r_if_eq {x : Int32} (hd : Fb M pc (.ifCond .eq) tgt nx) (kt : x = 0 → WW G d M tgt ls st S R I L ce sl mc ms K) (kf : ¬ x = 0 → WW G d M nx ls st S R I L ce sl mc ms K) : WW G d M pc ls (.int x :: st) S R I L ce sl mc ms K := by
  intro p e Rm s m args below meth c H locs Q la hF hW hS hl hR
  obtain ⟨off, h1, h2, rfl⟩ := hd
  exact lv_if_eq hF.1 hF.2.1 h1 h2 (fun h => kt h p e Rm s m args below meth c H locs Q la hF hW hS hl hR) (fun h => kf h p e Rm s m args below meth c H locs Q la hF hW hS hl hR)
theorem r_if_ne {x : Int32} (hd : Fb M pc (.ifCond .ne) tgt nx) (kt : ¬ x = 0 → WW G d M tgt ls st S R I L ce sl mc ms K) (kf : x = 0 → WW G d M nx ls st S R I L ce sl mc ms K) : WW G d M pc ls (.int x :: st) S R I L ce sl mc ms K := by
  intro p e Rm s m args below meth c H locs Q la hF hW hS hl hR
  obtain ⟨off, h1, h2, rfl⟩ := hd
  exact lv_if_ne hF.1 hF.2.1 h1 h2 (fun h => kt h p e Rm s m args below meth c H locs Q la hF hW hS hl hR) (fun h => kf h p e Rm s m args below meth c H locs Q la hF hW hS hl hR)
theorem r_if_lt {x : Int32} (hd : Fb M pc (.ifCond .lt) tgt nx) (kt : x < 0 → WW G d M tgt ls st S R I L ce sl mc ms K) (kf : ¬ x < 0 → WW G d M nx ls st S R I L ce sl mc ms K) : WW G d M pc ls (.int x :: st) S R I L ce sl mc ms K := by
  intro p e Rm s m args below meth c H locs Q la hF hW hS hl hR
  obtain ⟨off, h1, h2, rfl⟩ := hd
  exact lv_if_lt hF.1 hF.2.1 h1 h2 (fun h => kt h p e Rm s m args below meth c H locs Q la hF hW hS hl hR) (fun h => kf h p e Rm s m args below meth c H locs Q la hF hW hS hl hR)
theorem r_if_ge {x : Int32} (hd : Fb M pc (.ifCond .ge) tgt nx) (kt : 0 ≤ x → WW G d M tgt ls st S R I L ce sl mc ms K) (kf : ¬ 0 ≤ x → WW G d M nx ls st S R I L ce sl mc ms K) : WW G d M pc ls (.int x :: st) S R I L ce sl mc ms K := by
  intro p e Rm s m args below meth c H locs Q la hF hW hS hl hR
  obtain ⟨off, h1, h2, rfl⟩ := hd
  exact lv_if_ge hF.1 hF.2.1 h1 h2 (fun h => kt h p e Rm s m args below meth c H locs Q la hF hW hS hl hR) (fun h => kf h p e Rm s m args below meth c H locs Q la hF hW hS hl hR)
theorem r_if_gt {x : Int32} (hd : Fb M pc (.ifCond .gt) tgt nx) (kt : 0 < x → WW G d M tgt ls st S R I L ce sl mc ms K) (kf : ¬ 0 < x → WW G d M nx ls st S R I L ce sl mc ms K) : WW G d M pc ls (.int x :: st) S R I L ce sl mc ms K := by
  intro p e Rm s m args below meth c H locs Q la hF hW hS hl hR
  obtain ⟨off, h1, h2, rfl⟩ := hd
  exact lv_if_gt hF.1 hF.2.1 h1 h2 (fun h => kt h p e Rm s m args below meth c H locs Q la hF hW hS hl hR) (fun h => kf h p e Rm s m args below meth c H locs Q la hF hW hS hl hR)
theorem r_if_le {x : Int32} (hd : Fb M pc (.ifCond .le) tgt nx) (kt : x ≤ 0 → WW G d M tgt ls st S R I L ce sl mc ms K) (kf : ¬ x ≤ 0 → WW G d M nx ls st S R I L ce sl mc ms K) : WW G d M pc ls (.int x :: st) S R I L ce sl mc ms K := by
  intro p e Rm s m args below meth c H locs Q la hF hW hS hl hR
  obtain ⟨off, h1, h2, rfl⟩ := hd
  exact lv_if_le hF.1 hF.2.1 h1 h2 (fun h => kt h p e Rm s m args below meth c H locs Q la hF hW hS hl hR) (fun h => kf h p e Rm s m args below meth c H locs Q la hF hW hS hl hR)
theorem r_goto (hd : Fb M pc .goto tgt nx) (k : WW G d M tgt ls st S R I L ce sl mc ms K) : WW G d M pc ls st S R I L ce sl mc ms K := by
  intro p e Rm s m args below meth c H locs Q la hF hW hS hl hR
  obtain ⟨off, h1, h2, rfl⟩ := hd
  exact lv_goto hF.1 hF.2.1 h1 h2 (k p e Rm s m args below meth c H locs Q la hF hW hS hl hR)
theorem r_iret {x : Int32} (hd : Ft M pc .ireturn 1 nx) (hn : q_nar M (some (.int x))) (hc : ce ≤ mc) (hs : sl ≤ ms) (hk : K (some (.int x)) S R I L) : WW G d M pc ls [.int x] S R I L ce sl mc ms K := by
  intro p e Rm s m args below meth c H locs Q la hF hW hS hl hR
  exact W.widen hc hs (hR (some (.int x)) S R I L H locs pc la hk hW hS hd.1 hn)
theorem r_lret {x : Int64} (hd : Ft M pc .lreturn 1 nx) (hn : q_nar M (some (.long x))) (hc : ce ≤ mc) (hs : sl ≤ ms) (hk : K (some (.long x)) S R I L) : WW G d M pc ls [.long x] S R I L ce sl mc ms K := by
  intro p e Rm s m args below meth c H locs Q la hF hW hS hl hR
  exact W.widen hc hs (hR (some (.long x)) S R I L H locs pc la hk hW hS hd.1 hn)
theorem r_ret (hd : Ft M pc .return_ 1 nx) (hn : q_nar M none) (hc : ce ≤ mc) (hs : sl ≤ ms) (hk : K none S R I L) : WW G d M pc ls [] S R I L ce sl mc ms K := by
  intro p e Rm s m args below meth c H locs Q la hF hW hS hl hR
  exact W.widen hc hs (hR none S R I L H locs pc la hk hW hS hd.1 hn)
/-! switches -/
def q_swt (cs : List (Int × Nat)) (df : Nat) (z : Int) : Nat := match cs with
  | [] => df
  | (a, t) :: r => if z = a then t else q_swt r df z
def q_tcs (a : Int) (ts : List Nat) : List (Int × Nat) := match ts with
  | [] => []
  | t :: r => (a, t) :: q_tcs (a + 1) r
theorem q_swt_tab (df : Nat) (z : Int) : ∀ (ts : List Nat) (a : Int), q_swt (q_tcs a ts) df z = if a ≤ z ∧ z < a + ts.length then ts.getD (z - a).toNat df else df
  | [], a => by
    rw [if_neg (by simp only [List.length_nil]; omega)]
    rfl
  | t :: r, a => by
    show (if z = a then t else q_swt (q_tcs (a + 1) r) df z) = _
    by_cases e : z = a
    · subst e
      rw [if_pos rfl, if_pos (by simp only [List.length_cons]; omega), Int.sub_self]
      rfl
    · rw [if_neg e, q_swt_tab df z r (a + 1)]
      by_cases h : a + 1 ≤ z ∧ z < a + 1 + r.length
      · rw [if_pos h, if_pos (by simp only [List.length_cons]; omega), show (z - a).toNat = (z - (a + 1)).toNat + 1 by omega, List.getD_cons_succ]
      · rw [if_neg h, if_neg (by simp only [List.length_cons]; omega)]
/-- a table of targets: the offsets as the code has them lead there -/
def Fw (M : Mt) (pc : Nat) (cs : List (Int × Nat)) (df : Nat) : Prop :=
  (∃ (dflt lo hi : Int) (offs : Array Int) (len : Nat) (ts : List Nat), decode M.2.1 pc = .ok (.tableswitch dflt lo hi offs, len) ∧ (pc : Int) + dflt = (df : Int) ∧ hi + 1 = lo + ts.length ∧ offs.toList.map (fun o => (pc : Int) + o) = ts.map (fun t : Nat => (t : Int)) ∧ cs = q_tcs lo ts) ∨
  (∃ (dflt : Int) (ps : Array (Int × Int)) (len : Nat), decode M.2.1 pc = .ok (.lookupswitch dflt ps, len) ∧ (pc : Int) + dflt = (df : Int) ∧ (ps.toList.zip (ps.toList.drop 1)).all (fun (a, next) => a.1 < next.1) = true ∧ ps.toList.map (fun q => (q.1, (pc : Int) + q.2)) = cs.map (fun t => (t.1, (t.2 : Int))))
theorem q_look {pc : Nat} {dflt : Int} {df : Nat} (hd : (pc : Int) + dflt = (df : Int)) (z : Int) : ∀ (ps : List (Int × Int)) (cs : List (Int × Nat)), ps.map (fun q => (q.1, (pc : Int) + q.2)) = cs.map (fun t => (t.1, (t.2 : Int))) → (pc : Int) + Op.lookupswitch.offset ps dflt z = (q_swt cs df z : Int)
  | [], [], _ => hd
  | [], _ :: _, h => by cases h
  | _ :: _, [], h => by cases h
  | (a, o) :: r, (b, t) :: cs, h => by
    simp only [List.map_cons, List.cons.injEq, Prod.mk.injEq] at h
    obtain ⟨⟨rfl, h2⟩, h3⟩ := h
    rw [Op.lookupswitch.offset_cons]
    show _ = ((if z = a then t else q_swt cs df z : Nat) : Int)
    by_cases e : z = a
    · rw [if_pos e, if_pos (by first | exact e | exact e.symm)]
      exact h2
    · rw [if_neg e, if_neg (by first | exact e | exact Ne.symm e)]
      exact q_look hd z r cs h3
theorem r_sw {x : Int32} {cs : List (Int × Nat)} {df : Nat} (hd : Fw M pc cs df) (k : WW G d M (q_swt cs df x.toInt) ls st S R I L ce sl mc ms K) : WW G d M pc ls (.int x :: st) S R I L ce sl mc ms K := by
  intro p e Rm s m args below meth c H locs Q la hF hW hS hl hR
  have kk := k p e Rm s m args below meth c H locs Q la hF hW hS hl hR
  rcases hd with ⟨dflt, lo, hi, offs, len, ts, h1, h2, h3, h4, rfl⟩ | ⟨dflt, ps, len, h1, h2, h3, h4⟩
  · rw [q_swt_tab] at kk
    by_cases h : lo ≤ x.toInt ∧ x.toInt < lo + ts.length
    · rw [if_pos h] at kk
      have hlen : offs.toList.length = ts.length := by
        have := congrArg List.length h4
        simpa using this
      have hj : (x.toInt - lo).toNat < ts.length := by omega
      have hjo : (x.toInt - lo).toNat < offs.toList.length := by omega
      have e1 : (offs.toList.map (fun o => (pc : Int) + o))[(x.toInt - lo).toNat]? = (ts.map (fun t : Nat => (t : Int)))[(x.toInt - lo).toNat]? := by rw [h4]
      rw [List.getElem?_map, List.getElem?_map, List.getElem?_eq_getElem hjo, List.getElem?_eq_getElem hj] at e1
      have e2 := Option.some.inj e1
      rw [List.getD_eq_getElem?_getD, List.getElem?_eq_getElem hj, Option.getD_some] at kk
      refine lv_tableIn hF.1 hF.2.1 h1 (by omega) (by omega) (off := offs.toList[(x.toInt - lo).toNat]) ?_ e2 kk
      rw [← Array.getElem?_toList]
      exact List.getElem?_eq_getElem hjo
    · rw [if_neg h] at kk
      exact lv_tableOut hF.1 hF.2.1 h1 (by omega) h2 kk
  · exact lv_lookup hF.1 hF.2.1 h1 h3 rfl (q_look h2 _ _ _ h4) kk
end RU
end
section
/-! RULES of the heap -/
def q_Kf (k : Nat) (C : String) (T : u_T) (N : Nat) (ty : Nat → FieldType) : Prop := q_cls[k]? = some (C, T, N) ∧ (∀ w ∈ u_ws C T N, w ∈ q_gw) ∧ (∀ j, j < N → parseFieldDescriptor (T j).2.2.1 = some (ty j)) ∧ (∀ a, a < N → ∀ b, b < N → a ≠ b → (T a).2.1 ≠ (T b).2.1) ∧ k < 9
/-- a field by its pool number in a method's own class: field j of class k, of n fields -/
def q_Fs (M : Mt) (ix k n j : Nat) (t0 : FieldType) (fin : Bool) : Prop := ∃ (C : String) (T : u_T) (ty : Nat → FieldType), q_Kf k C T n ty ∧ j < n ∧ Cond.fieldLink M.1.cls ix (T j).1 (T j).2.1 (T j).2.2.1 ∈ q_gw ∧ ty j = t0 ∧ (T j).2.2.2 = fin
def Fg (M : Mt) (pc k n j tc nx : Nat) : Prop := ∃ (ix : Nat) (t0 : FieldType) (fin : Bool), decode M.2.1 pc = .ok (.getfield ix, 3) ∧ pc + 3 = nx ∧ q_Fs M ix k n j t0 fin ∧ q_ft k j = tc
def Fp (M : Mt) (pc k n j : Nat) (t0 : FieldType) (tc nx : Nat) : Prop := ∃ (ix : Nat), decode M.2.1 pc = .ok (.putfield ix, 3) ∧ pc + 3 = nx ∧ q_Fs M ix k n j t0 false ∧ q_ft k j = tc
def Fpf (M : Mt) (pc k n j : Nat) (t0 : FieldType) (tc nx : Nat) : Prop := ∃ (ix : Nat), decode M.2.1 pc = .ok (.putfield ix, 3) ∧ pc + 3 = nx ∧ q_Fs M ix k n j t0 true ∧ q_ft k j = tc ∧ M.1.name = "<init>" ∧ ((q_cls.getD k ("", TX0, 0)).2.1 j).1 = M.1.cls
section RH
variable {G : Gx} {d : Nat} {M : Mt} {pc nx : Nat} {ls : List (Option Value)} {st : List Value} {S : Shp} {R : Rf} {I : Rn} {L : Rl} {ce sl mc ms : Nat} {K : Kt}
variable {p : Program} {e : Env} {Rm : Room} {s : State} {m : MethodId} {args : Array Value} {below : List Frame} {meth : Method} {c : Code} {H : Heap} {locs : List Loc} {Q : State → Prop} {la : Array Slot}
theorem q_getf {k n j tc i : Nat} (hd : Fg M pc k n j tc nx) (hi : S[i]? = some (k, n)) (hF : q_Fx G d M mc ms p Rm s m args meth c) (hW : q_Wd G S R I L H)
    (kk : W p G.1 e Rm s m args below meth c H locs ce sl Q (F0 m nx la (q_val G R I L tc i j :: st.map (q_cv G)))) : W p G.1 e Rm s m args below meth c H locs ce sl Q (F0 m pc la ((.ref i :: st).map (q_cv G))) := by
  obtain ⟨ix, t0, fin, hd, rfl, ⟨C, T, ty, ⟨k1, k2, k3, k4, k5⟩, hj, hlk, -, -⟩, rfl⟩ := hd
  obtain ⟨f1, f2, f3, f4, f5, f6, f7, f8, f9, -⟩ := id hF
  have h1 := hW.2.2 i _ hi
  rw [q_at_obj (by omega)] at h1
  obtain ⟨cell, c1, c2, c3, c4⟩ := h1
  obtain ⟨hS, hfc, kC, hkC, hkind⟩ := f9.1.1 k _ k1
  obtain ⟨cf, kf, fi, f, hfi, hsl⟩ := hS j hj
  have e0 : (Value.ref i :: st).map (q_cv G) = .ref (G.2.1 + i) :: st.map (q_cv G) := by rw [← q_ad_lt hW hi]; rfl
  rw [e0]
  exact W.getf f1 f2 f7 (f8 _ hlk) hfi (u_facts hfc hkC (u_lays f8 k2 hj) hfi).1 c1 (by rw [c3]; exact fun h => by cases h) (v := q_val G R I L (q_ft k j) i j) (by rw [hsl]; exact c4 j hj) rfl rfl hd kk
theorem r_gi {k n j i : Nat} (hd : Fg M pc k n j 0 nx) (hi : S[i]? = some (k, n)) (kk : WW G d M nx ls (.int (I i j) :: st) S R I L ce sl mc ms K) : WW G d M pc ls (.ref i :: st) S R I L ce sl mc ms K := by
  intro p e Rm s m args below meth c H locs Q la hF hW hS hl hR
  exact q_getf hd hi hF hW (kk p e Rm s m args below meth c H locs Q la hF hW hS hl hR)
theorem r_gl {k n j i : Nat} (hd : Fg M pc k n j 1 nx) (hi : S[i]? = some (k, n)) (kk : WW G d M nx ls (.long (L i j) :: st) S R I L ce sl mc ms K) : WW G d M pc ls (.ref i :: st) S R I L ce sl mc ms K := by
  intro p e Rm s m args below meth c H locs Q la hF hW hS hl hR
  exact q_getf hd hi hF hW (kk p e Rm s m args below meth c H locs Q la hF hW hS hl hR)
theorem r_gr {k n j i r : Nat} (hd : Fg M pc k n j 2 nx) (hi : S[i]? = some (k, n)) (hr : R i j = some r) (kk : WW G d M nx ls (.ref r :: st) S R I L ce sl mc ms K) : WW G d M pc ls (.ref i :: st) S R I L ce sl mc ms K := by
  intro p e Rm s m args below meth c H locs Q la hF hW hS hl hR
  refine q_getf hd hi hF hW ?_
  have := kk p e Rm s m args below meth c H locs Q la hF hW hS hl hR
  show W p G.1 e Rm s m args below meth c H locs ce sl Q (F0 m nx la (va_rf ((R i j).map (q_ad G)) :: st.map (q_cv G)))
  rw [hr]
  exact this
theorem q_apart {k : Nat} {C : String} {T : u_T} {N : Nat} {ty : Nat → FieldType} (hk : q_Kf k C T N ty) (hF : q_Fx G d M mc ms p Rm s m args meth c) : ∀ x y, x < N → y < N → x ≠ y → (G.2.2.2.1.2 k) x ≠ (G.2.2.2.1.2 k) y := by
  obtain ⟨k1, k2, k3, k4, k5⟩ := hk
  exact va_apart (own := M.1.cls) hF.2.2.2.2.2.2.2.1 k2 ty k3 k4 hF.2.2.2.2.2.2.2.2.1.1 k1
/-- the world behind a store into field j of cell i -/
theorem q_stored {R' : Rf} {I' : Rn} {L' : Rl} {k n j i : Nat} {H1 : Heap} {cell : Cell} {v : Value} (hk : k < 20) (hW : q_Wd G S R I L H) (hi : S[i]? = some (k, n)) (c2 : cell.cls = G.2.2.2.1.1 k) (c3 : cell.vm = .none) (c4 : ∀ x, x < n → cell.slots[G.2.2.2.1.2 k x]? = some (q_val G R I L (q_ft k x) i x)) (hap : ∀ x y, x < n → y < n → x ≠ y → (G.2.2.2.1.2 k) x ≠ (G.2.2.2.1.2 k) y) (hj : j < n)
    (e1 : H1[G.2.1 + i]? = some (cell.setSlot (G.2.2.2.1.2 k j) v)) (e2 : H1.size = H.size) (e3 : ∀ q, q ≠ G.2.1 + i → H1[q]? = H[q]?) (hr : ∀ a, a ≠ i → R' a = R a ∧ I' a = I a ∧ L' a = L a) (hv : ∀ x, x < n → updV (fun x => q_val G R I L (q_ft k x) i x) j v x = q_val G R' I' L' (q_ft k x) i x) : q_Wd G S R' I' L' H1 := by
  refine hW.upd hi e2 e3 hr ?_
  rw [q_at_obj hk]
  exact t_OB.to (V := updV (fun x => q_val G R I L (q_ft k x) i x) j v) ⟨_, e1, c2, c3, t_set c4 hap hj v⟩ hv
theorem q_putf {R' : Rf} {I' : Rn} {L' : Rl} {k n j tc i : Nat} {t0 : FieldType} {v : Value} (hd : Fp M pc k n j t0 tc nx) (hi : S[i]? = some (k, n)) (hn : narrow t0 (q_cv G v) = q_cv G v) (hft : fits t0 (q_cv G v) = true) (hr : ∀ a, a ≠ i → R' a = R a ∧ I' a = I a ∧ L' a = L a) (hv : ∀ x, updV (fun x => q_val G R I L (q_ft k x) i x) j (q_cv G v) x = q_val G R' I' L' (q_ft k x) i x) (hF : q_Fx G d M mc ms p Rm s m args meth c) (hW : q_Wd G S R I L H) (hS : va_S (q_A G) s.heap H locs)
    (kk : ∀ (H1 : Heap) (locs1 : List Loc), q_Wd G S R' I' L' H1 → va_S (q_A G) s.heap H1 locs1 → W p G.1 e Rm s m args below meth c H1 locs1 ce sl Q (F0 m nx la (st.map (q_cv G)))) : W p G.1 e Rm s m args below meth c H locs ce sl Q (F0 m pc la ((v :: .ref i :: st).map (q_cv G))) := by
  obtain ⟨ix, hd, rfl, ⟨C, T, ty, hKf, hj, hlk, rfl, hfin⟩, rfl⟩ := hd
  have hap := q_apart hKf hF
  obtain ⟨k1, k2, k3, k4, k5⟩ := hKf
  obtain ⟨f1, f2, f3, f4, f5, f6, f7, f8, f9, -⟩ := id hF
  have h1 := hW.2.2 i _ hi
  rw [q_at_obj (by omega)] at h1
  obtain ⟨cell, c1, c2, c3, c4⟩ := h1
  obtain ⟨hSl, hfc, kC, hkC, hkind⟩ := f9.1.1 k _ k1
  obtain ⟨cf, kf, fi, f, hfi, hsl⟩ := hSl j hj
  have hlay := f8 _ (k2 _ (u_in_lay hj))
  unfold u_lay at hlay
  rw [if_neg (by rw [hfin]; decide)] at hlay
  have hst := (u_facts hfc hkC (u_lays f8 k2 hj) hfi).1
  have h6 := u_store hfc hkC hkind hlay hfi (k3 j hj) hn hft
  have e0 : (v :: Value.ref i :: st).map (q_cv G) = q_cv G v :: .ref (G.2.1 + i) :: st.map (q_cv G) := by rw [← q_ad_lt hW hi]; rfl
  rw [e0]
  refine W.putK f1 f2 (f := f) ⟨f7, f8 _ hlk, ⟨_, _, _, hfi⟩, hst⟩ (by rw [c2]; exact h6) c1 c3 (by rw [hsl]; exact k2_hasslot (c4 j hj)) rfl rfl hd fun H' e1 e2 e3 => ?_
  rw [hsl] at e1 ⊢
  exact kk H' _ (q_stored (by omega) hW hi c2 c3 c4 hap hj e1 e2 e3 hr (fun x _ => hv x)) (hS.put e2 e3 (show q_A G (G.2.1 + i) from Nat.le_add_right _ _))
theorem q_putF {R' : Rf} {I' : Rn} {L' : Rl} {k n j tc i : Nat} {t0 : FieldType} {v : Value} (hd : Fpf M pc k n j t0 tc nx) (hi : S[i]? = some (k, n)) (hn : narrow t0 (q_cv G v) = q_cv G v) (hft : fits t0 (q_cv G v) = true) (hr : ∀ a, a ≠ i → R' a = R a ∧ I' a = I a ∧ L' a = L a) (hv : ∀ x, updV (fun x => q_val G R I L (q_ft k x) i x) j (q_cv G v) x = q_val G R' I' L' (q_ft k x) i x) (hF : q_Fx G d M mc ms p Rm s m args meth c) (hW : q_Wd G S R I L H) (hS : va_S (q_A G) s.heap H locs)
    (kk : ∀ (H1 : Heap) (locs1 : List Loc), q_Wd G S R' I' L' H1 → va_S (q_A G) s.heap H1 locs1 → W p G.1 e Rm s m args below meth c H1 locs1 ce sl Q (F0 m nx la (st.map (q_cv G)))) : W p G.1 e Rm s m args below meth c H locs ce sl Q (F0 m pc la ((v :: .ref i :: st).map (q_cv G))) := by
  obtain ⟨ix, hd, rfl, ⟨C, T, ty, hKf, hj, hlk, rfl, hfin⟩, rfl, hinit, hdecl⟩ := hd
  have hap := q_apart hKf hF
  obtain ⟨k1, k2, k3, k4, k5⟩ := hKf
  have hdecl : (T j).1 = M.1.cls := by
    rw [List.getD_eq_getElem?_getD, k1] at hdecl
    exact hdecl
  obtain ⟨f1, f2, f3, f4, f5, f6, f7, f8, f9, -⟩ := id hF
  have h1 := hW.2.2 i _ hi
  rw [q_at_obj (by omega)] at h1
  obtain ⟨cell, c1, c2, c3, c4⟩ := h1
  obtain ⟨hSl, hfc, kC, hkC, hkind⟩ := f9.1.1 k _ k1
  obtain ⟨cf, kf, fi, f, hfi, hsl⟩ := hSl j hj
  have hlay := f8 _ (k2 _ (u_in_lay hj))
  unfold u_lay at hlay
  rw [if_pos hfin] at hlay
  have hst := (u_facts hfc hkC (u_lays f8 k2 hj) hfi).1
  have hcf : m.cls = cf := by
    obtain ⟨_, _, c', _, _, _, -, -, hf', -, -, -, hown2, -⟩ := Cond.laysFinal_spec hlay
    have e1 : c' = cf := by have := hfi.symm.trans hf'; simp at this; exact this.1.symm
    rw [hdecl] at hown2
    rw [← e1]; exact Option.some.inj (f7.symm.trans hown2)
  have h6 := u_fits hfc hkC hkind (Or.inr hlay) hfi (k3 j hj) hn hft
  have e0 : (v :: Value.ref i :: st).map (q_cv G) = q_cv G v :: .ref (G.2.1 + i) :: st.map (q_cv G) := by rw [← q_ad_lt hW hi]; rfl
  rw [e0]
  refine W.putFinK f1 f2 f7 (f8 _ hlk) hfi hst hcf (f5.trans hinit) (by rw [c2]; exact h6) c1 c3 (by rw [hsl]; exact k2_hasslot (c4 j hj)) rfl rfl hd fun H' e1 e2 e3 => ?_
  rw [hsl] at e1 ⊢
  exact kk H' _ (q_stored (by omega) hW hi c2 c3 c4 hap hj e1 e2 e3 hr (fun x _ => hv x)) (hS.put e2 e3 (show q_A G (G.2.1 + i) from Nat.le_add_right _ _))
theorem q_updI {k j i : Nat} {x : Int32} (ht : q_ft k j = 0) (y : Nat) : updV (fun x => q_val G R I L (q_ft k x) i x) j (.int x) y = q_val G R (u2 I i j x) L (q_ft k y) i y := by
  by_cases h : y = j
  · subst h
    rw [ht]
    simp [updV, q_val, u2]
  · simp [updV, q_val, u2, h]
theorem q_updL {k j i : Nat} {x : Int64} (ht : q_ft k j = 1) (y : Nat) : updV (fun x => q_val G R I L (q_ft k x) i x) j (.long x) y = q_val G R I (u2 L i j x) (q_ft k y) i y := by
  by_cases h : y = j
  · subst h
    rw [ht]
    simp [updV, q_val, u2]
  · simp [updV, q_val, u2, h]
theorem q_updR {k j i x : Nat} (ht : q_ft k j = 2) (y : Nat) : updV (fun x => q_val G R I L (q_ft k x) i x) j (.ref (q_ad G x)) y = q_val G (u2 R i j (some x)) I L (q_ft k y) i y := by
  by_cases h : y = j
  · subst h
    rw [ht]
    simp [updV, q_val, u2, va_rf]
  · simp [updV, q_val, u2, h]
theorem r_pi {k n j i : Nat} {x : Int32} (hd : Fp M pc k n j .int 0 nx) (hi : S[i]? = some (k, n)) (kk : WW G d M nx ls st S R (u2 I i j x) L ce sl mc ms K) : WW G d M pc ls (.int x :: .ref i :: st) S R I L ce sl mc ms K := by
  intro p e Rm s m args below meth c H locs Q la hF hW hS hl hR
  have ht : q_ft k j = 0 := by obtain ⟨_, -, -, -, h⟩ := hd; exact h
  exact q_putf (v := .int x) hd hi rfl rfl (fun a ha => ⟨rfl, u2_row ha, rfl⟩) (q_updI ht) hF hW hS (fun H1 locs1 hW1 hS1 => kk p e Rm s m args below meth c H1 locs1 Q la hF hW1 hS1 hl hR)
theorem r_pz {k n j i : Nat} {x : Int32} (hd : Fp M pc k n j .boolean 0 nx) (hi : S[i]? = some (k, n)) (hx : x = 0 ∨ x = 1) (kk : WW G d M nx ls st S R (u2 I i j x) L ce sl mc ms K) : WW G d M pc ls (.int x :: .ref i :: st) S R I L ce sl mc ms K := by
  intro p e Rm s m args below meth c H locs Q la hF hW hS hl hR
  have ht : q_ft k j = 0 := by obtain ⟨_, -, -, -, h⟩ := hd; exact h
  exact q_putf (v := .int x) hd hi (by rcases hx with rfl | rfl <;> rfl) (by rcases hx with rfl | rfl <;> rfl) (fun a ha => ⟨rfl, u2_row ha, rfl⟩) (q_updI ht) hF hW hS (fun H1 locs1 hW1 hS1 => kk p e Rm s m args below meth c H1 locs1 Q la hF hW1 hS1 hl hR)
theorem r_pl {k n j i : Nat} {x : Int64} (hd : Fp M pc k n j .long 1 nx) (hi : S[i]? = some (k, n)) (kk : WW G d M nx ls st S R I (u2 L i j x) ce sl mc ms K) : WW G d M pc ls (.long x :: .ref i :: st) S R I L ce sl mc ms K := by
  intro p e Rm s m args below meth c H locs Q la hF hW hS hl hR
  have ht : q_ft k j = 1 := by obtain ⟨_, -, -, -, h⟩ := hd; exact h
  exact q_putf (v := .long x) hd hi rfl rfl (fun a ha => ⟨rfl, rfl, u2_row ha⟩) (q_updL ht) hF hW hS (fun H1 locs1 hW1 hS1 => kk p e Rm s m args below meth c H1 locs1 Q la hF hW1 hS1 hl hR)
theorem r_pr {k n j i x : Nat} {t0 : FieldType} (hd : Fpf M pc k n j t0 2 nx) (ht0 : t0.isReference = true) (hi : S[i]? = some (k, n)) (kk : WW G d M nx ls st S (u2 R i j (some x)) I L ce sl mc ms K) : WW G d M pc ls (.ref x :: .ref i :: st) S R I L ce sl mc ms K := by
  intro p e Rm s m args below meth c H locs Q la hF hW hS hl hR
  have ht : q_ft k j = 2 := by obtain ⟨_, -, -, -, h, -⟩ := hd; exact h
  have hnf : narrow t0 (.ref (q_ad G x)) = .ref (q_ad G x) ∧ fits t0 (.ref (q_ad G x)) = true := by
    cases t0 <;> first | exact ⟨rfl, rfl⟩ | cases ht0
  exact q_putF (v := .ref x) hd hi hnf.1 hnf.2 (fun a ha => ⟨u2_row ha, rfl, rfl⟩) (q_updR ht) hF hW hS (fun H1 locs1 hW1 hS1 => kk p e Rm s m args below meth c H1 locs1 Q la hF hW1 hS1 hl hR)
/-! arrays -/
theorem q_arr {k n i : Nat} (hk : ¬ k < 20) (hW : q_Wd G S R I L H) (hi : S[i]? = some (k, n)) : H[G.2.1 + i]? = some (arrV (G.2.2.2.2.1 (k - 20)) n (fun j => q_val G R I L (q_aty k) i j)) := by
  have h1 := hW.2.2 i _ hi
  rw [q_at_arr hk] at h1
  exact h1
theorem q_inA {i : Int32} {j n : Nat} {cA : ClassId} {f : Nat → Value} (h : q_ix i j n) : ¬ (i < 0 ∨ (arrV cA n f).slots.size ≤ i.toNatClampNeg) := by rw [arrV_size]; exact h.in
theorem q_rdA {i : Int32} {j n : Nat} {cA : ClassId} {f : Nat → Value} (h : q_ix i j n) : (arrV cA n f).slots[i.toNatClampNeg]? = some (f j) := by rw [h.clamp, arrV_read _ _ h.2]
theorem r_iald {a n j : Nat} {i : Int32} (hd : Ft M pc .iaload 1 nx) (hi : S[a]? = some (20, n)) (hj : q_ix i j n) (kk : WW G d M nx ls (.int (I a j) :: st) S R I L ce sl mc ms K) : WW G d M pc ls (.int i :: .ref a :: st) S R I L ce sl mc ms K := by
  intro p e Rm s m args below meth c H locs Q la hF hW hS hl hR
  obtain ⟨hd, rfl⟩ := hd
  have e0 : (Value.int i :: Value.ref a :: st).map (q_cv G) = .int i :: .ref (G.2.1 + a) :: st.map (q_cv G) := by rw [← q_ad_lt hW hi]; rfl
  rw [e0]
  exact W.iald (v := .int (I a j)) hF.1 hF.2.1 (q_arr (by decide) hW hi) ((hF.2.2.2.2.2.2.2.2.1.1.2 0 _ rfl).1 n _) (fun q => by cases q) (q_inA hj) (q_rdA hj) rfl rfl hd (kk p e Rm s m args below meth c H locs Q la hF hW hS hl hR)
theorem r_lald {a n j : Nat} {i : Int32} (hd : Ft M pc .laload 1 nx) (hi : S[a]? = some (21, n)) (hj : q_ix i j n) (kk : WW G d M nx ls (.long (L a j) :: st) S R I L ce sl mc ms K) : WW G d M pc ls (.int i :: .ref a :: st) S R I L ce sl mc ms K := by
  intro p e Rm s m args below meth c H locs Q la hF hW hS hl hR
  obtain ⟨hd, rfl⟩ := hd
  have e0 : (Value.int i :: Value.ref a :: st).map (q_cv G) = .int i :: .ref (G.2.1 + a) :: st.map (q_cv G) := by rw [← q_ad_lt hW hi]; rfl
  rw [e0]
  exact W.lald (v := .long (L a j)) hF.1 hF.2.1 (q_arr (by decide) hW hi) ((hF.2.2.2.2.2.2.2.2.1.1.2 1 _ rfl).1 n _) (fun q => by cases q) (q_inA hj) (q_rdA hj) rfl rfl hd (kk p e Rm s m args below meth c H locs Q la hF hW hS hl hR)
theorem r_zald {a n j : Nat} {i : Int32} (hd : Ft M pc .baload 1 nx) (hi : S[a]? = some (22, n)) (hj : q_ix i j n) (kk : WW G d M nx ls (.int (I a j) :: st) S R I L ce sl mc ms K) : WW G d M pc ls (.int i :: .ref a :: st) S R I L ce sl mc ms K := by
  intro p e Rm s m args below meth c H locs Q la hF hW hS hl hR
  obtain ⟨hd, rfl⟩ := hd
  have e0 : (Value.int i :: Value.ref a :: st).map (q_cv G) = .int i :: .ref (G.2.1 + a) :: st.map (q_cv G) := by rw [← q_ad_lt hW hi]; rfl
  rw [e0]
  exact W.zald (v := .int (I a j)) hF.1 hF.2.1 (q_arr (by decide) hW hi) ((hF.2.2.2.2.2.2.2.2.1.1.2 2 _ rfl).1 n _) (fun q => by cases q) (q_inA hj) (q_rdA hj) rfl rfl hd (kk p e Rm s m args below meth c H locs Q la hF hW hS hl hR)
theorem r_aald {a n j k r : Nat} {i : Int32} (hd : Ft M pc .aaload 1 nx) (hk : k = 23 ∨ k = 24 ∨ k = 25) (hi : S[a]? = some (k, n)) (hj : q_ix i j n) (hr : R a j = some r) (kk : WW G d M nx ls (.ref r :: st) S R I L ce sl mc ms K) : WW G d M pc ls (.int i :: .ref a :: st) S R I L ce sl mc ms K := by
  intro p e Rm s m args below meth c H locs Q la hF hW hS hl hR
  obtain ⟨hd, rfl⟩ := hd
  have e0 : (Value.int i :: Value.ref a :: st).map (q_cv G) = .int i :: .ref (G.2.1 + a) :: st.map (q_cv G) := by rw [← q_ad_lt hW hi]; rfl
  rw [e0]
  have k1 := kk p e Rm s m args below meth c H locs Q la hF hW hS hl hR
  have ev : q_val G R I L 2 a j = .ref (q_ad G r) := by
    show va_rf ((R a j).map (q_ad G)) = _
    rw [hr]
    rfl
  rcases hk with rfl | rfl | rfl
  · refine W.aald (v := .ref (q_ad G r)) (ty := .object "NightDitch$Farm") hF.1 hF.2.1 (q_arr (by decide) hW hi) ((hF.2.2.2.2.2.2.2.2.1.1.2 3 _ rfl).1 n _) rfl (fun q => by cases q) (q_inA hj) ?_ rfl rfl hd k1
    rw [q_rdA hj, ← ev]
    rfl
  · refine W.aald (v := .ref (q_ad G r)) (ty := .object "NightDitch$Meet") hF.1 hF.2.1 (q_arr (by decide) hW hi) ((hF.2.2.2.2.2.2.2.2.1.1.2 4 _ rfl).1 n _) rfl (fun q => by cases q) (q_inA hj) ?_ rfl rfl hd k1
    rw [q_rdA hj, ← ev]
    rfl
  · refine W.aald (v := .ref (q_ad G r)) (ty := .array .long) hF.1 hF.2.1 (q_arr (by decide) hW hi) ((hF.2.2.2.2.2.2.2.2.1.1.2 5 _ rfl).1 n _) rfl (fun q => by cases q) (q_inA hj) ?_ rfl rfl hd k1
    rw [q_rdA hj, ← ev]
    rfl
/-- the world behind a store into an array -/
theorem q_storedA {R' : Rf} {I' : Rn} {L' : Rl} {k n j a : Nat} {H1 : Heap} {v : Value} (hk : ¬ k < 20) (hW : q_Wd G S R I L H) (hi : S[a]? = some (k, n))
    (e1 : H1[G.2.1 + a]? = some ((arrV (G.2.2.2.2.1 (k - 20)) n (fun j => q_val G R I L (q_aty k) a j)).setSlot j v)) (e2 : H1.size = H.size) (e3 : ∀ q, q ≠ G.2.1 + a → H1[q]? = H[q]?) (hr : ∀ b, b ≠ a → R' b = R b ∧ I' b = I b ∧ L' b = L b) (hv : ∀ x, updV (fun x => q_val G R I L (q_aty k) a x) j v x = q_val G R' I' L' (q_aty k) a x) : q_Wd G S R' I' L' H1 := by
  refine hW.upd hi e2 e3 hr ?_
  rw [q_at_arr hk, e1, arrV_store]
  congr 2
  funext x
  exact hv x
theorem q_updAI {tc j a : Nat} {x : Int32} (ht : tc = 0) (y : Nat) : updV (fun x => q_val G R I L tc a x) j (.int x) y = q_val G R (u2 I a j x) L tc a y := by
  subst ht
  by_cases h : y = j
  · subst h
    simp [updV, q_val, u2]
  · simp [updV, q_val, u2, h]
theorem q_updAL {tc j a : Nat} {x : Int64} (ht : tc = 1) (y : Nat) : updV (fun x => q_val G R I L tc a x) j (.long x) y = q_val G R I (u2 L a j x) tc a y := by
  subst ht
  by_cases h : y = j
  · subst h
    simp [updV, q_val, u2]
  · simp [updV, q_val, u2, h]
theorem q_updAR {tc j a x : Nat} (ht : tc = 2) (y : Nat) : updV (fun x => q_val G R I L tc a x) j (.ref (q_ad G x)) y = q_val G (u2 R a j (some x)) I L tc a y := by
  subst ht
  by_cases h : y = j
  · subst h
    simp [updV, q_val, u2, va_rf]
  · simp [updV, q_val, u2, h]
theorem r_iast {a n j : Nat} {i x : Int32} (hd : Ft M pc .iastore 1 nx) (hi : S[a]? = some (20, n)) (hj : q_ix i j n) (kk : WW G d M nx ls st S R (u2 I a j x) L ce sl mc ms K) : WW G d M pc ls (.int x :: .int i :: .ref a :: st) S R I L ce sl mc ms K := by
  intro p e Rm s m args below meth c H locs Q la hF hW hS hl hR
  obtain ⟨hd, rfl⟩ := hd
  have e0 : (Value.int x :: Value.int i :: Value.ref a :: st).map (q_cv G) = .int x :: .int i :: .ref (G.2.1 + a) :: st.map (q_cv G) := by rw [← q_ad_lt hW hi]; rfl
  rw [e0]
  refine W.iast hF.1 hF.2.1 (q_arr (by decide) hW hi) ((hF.2.2.2.2.2.2.2.2.1.1.2 0 _ rfl).1 n _) (fun q => by cases q) (q_inA hj) rfl rfl hd fun H1 e1 e2 e3 => ?_
  rw [hj.clamp] at e1
  exact kk p e Rm s m args below meth c H1 _ Q la hF (q_storedA (by decide) hW hi e1 e2 e3 (fun b hb => ⟨rfl, u2_row hb, rfl⟩) (q_updAI rfl)) (hS.put e2 e3 (show q_A G (G.2.1 + a) from Nat.le_add_right _ _)) hl hR
theorem r_last {a n j : Nat} {i : Int32} {x : Int64} (hd : Ft M pc .lastore 1 nx) (hi : S[a]? = some (21, n)) (hj : q_ix i j n) (kk : WW G d M nx ls st S R I (u2 L a j x) ce sl mc ms K) : WW G d M pc ls (.long x :: .int i :: .ref a :: st) S R I L ce sl mc ms K := by
  intro p e Rm s m args below meth c H locs Q la hF hW hS hl hR
  obtain ⟨hd, rfl⟩ := hd
  have e0 : (Value.long x :: Value.int i :: Value.ref a :: st).map (q_cv G) = .long x :: .int i :: .ref (G.2.1 + a) :: st.map (q_cv G) := by rw [← q_ad_lt hW hi]; rfl
  rw [e0]
  refine W.last hF.1 hF.2.1 (q_arr (by decide) hW hi) ((hF.2.2.2.2.2.2.2.2.1.1.2 1 _ rfl).1 n _) (fun q => by cases q) (q_inA hj) rfl rfl hd fun H1 e1 e2 e3 => ?_
  rw [hj.clamp] at e1
  exact kk p e Rm s m args below meth c H1 _ Q la hF (q_storedA (by decide) hW hi e1 e2 e3 (fun b hb => ⟨rfl, rfl, u2_row hb⟩) (q_updAL rfl)) (hS.put e2 e3 (show q_A G (G.2.1 + a) from Nat.le_add_right _ _)) hl hR
theorem r_zast {a n j : Nat} {i x : Int32} (hd : Ft M pc .bastore 1 nx) (hi : S[a]? = some (22, n)) (hj : q_ix i j n) (hx : x = 0 ∨ x = 1) (kk : WW G d M nx ls st S R (u2 I a j x) L ce sl mc ms K) : WW G d M pc ls (.int x :: .int i :: .ref a :: st) S R I L ce sl mc ms K := by
  intro p e Rm s m args below meth c H locs Q la hF hW hS hl hR
  obtain ⟨hd, rfl⟩ := hd
  have e0 : (Value.int x :: Value.int i :: Value.ref a :: st).map (q_cv G) = .int x :: .int i :: .ref (G.2.1 + a) :: st.map (q_cv G) := by rw [← q_ad_lt hW hi]; rfl
  rw [e0]
  refine W.zast hF.1 hF.2.1 (q_arr (by decide) hW hi) ((hF.2.2.2.2.2.2.2.2.1.1.2 2 _ rfl).1 n _) (fun q => by cases q) (q_inA hj) rfl rfl hd fun H1 e1 e2 e3 => ?_
  have en : narrow .boolean (.int x) = .int x := by rcases hx with rfl | rfl <;> rfl
  rw [hj.clamp, en] at e1
  exact kk p e Rm s m args below meth c H1 _ Q la hF (q_storedA (by decide) hW hi e1 e2 e3 (fun b hb => ⟨rfl, u2_row hb, rfl⟩) (q_updAI rfl)) (hS.put e2 e3 (show q_A G (G.2.1 + a) from Nat.le_add_right _ _)) hl hR
theorem r_alen {a n k : Nat} (hd : Ft M pc .arraylength 1 nx) (hk : k = 20 ∨ k = 21) (hi : S[a]? = some (k, n)) (kk : WW G d M nx ls (.int (Int32.ofNat n) :: st) S R I L ce sl mc ms K) : WW G d M pc ls (.ref a :: st) S R I L ce sl mc ms K := by
  intro p e Rm s m args below meth c H locs Q la hF hW hS hl hR
  obtain ⟨hd, rfl⟩ := hd
  have e0 : (Value.ref a :: st).map (q_cv G) = .ref (G.2.1 + a) :: st.map (q_cv G) := by rw [← q_ad_lt hW hi]; rfl
  rw [e0]
  have k1 := kk p e Rm s m args below meth c H locs Q la hF hW hS hl hR
  rcases hk with rfl | rfl
  · exact W.alen (n := Int32.ofNat n) hF.1 hF.2.1 (q_arr (by decide) hW hi) ((hF.2.2.2.2.2.2.2.2.1.1.2 0 _ rfl).1 n _) (by rw [arrV_size]) rfl rfl hd k1
  · exact W.alen (n := Int32.ofNat n) hF.1 hF.2.1 (q_arr (by decide) hW hi) ((hF.2.2.2.2.2.2.2.2.1.1.2 1 _ rfl).1 n _) (by rw [arrV_size]) rfl rfl hd k1
/-! the static arrays, the script -/
def Fgs (M : Mt) (pc k nx : Nat) : Prop := ∃ ix, decode M.2.1 pc = .ok (.getstatic ix, 3) ∧ pc + 3 = nx ∧ k < 4 ∧ (Cond.fieldLink M.1.cls ix "NightDitch" (q_sn k) "[I" ∈ q_gw ∨ ∃ host, Cond.fieldLinkNest M.1.cls ix "NightDitch" (q_sn k) "[I" host ∈ q_nw)
theorem q_ad_ex (G : Gx) (k : Nat) : q_ad G (k + 1000) = G.2.2.1 k := by
  unfold q_ad
  rw [if_neg (by omega), Nat.add_sub_cancel]
theorem r_gst {k : Nat} (hd : Fgs M pc k nx) (kk : WW G d M nx ls (.ref (k + 1000) :: st) S R I L ce sl mc ms K) : WW G d M pc ls st S R I L ce sl mc ms K := by
  intro p e Rm s m args below meth c H locs Q la hF hW hS hl hR
  obtain ⟨ix, hd, rfl, hk, hlk⟩ := hd
  have k1 := kk p e Rm s m args below meth c H locs Q la hF hW hS hl hR
  have e0 : (Value.ref (k + 1000) :: st).map (q_cv G) = .ref (G.2.2.1 k) :: st.map (q_cv G) := by rw [← q_ad_ex]; rfl
  rw [e0] at k1
  obtain ⟨f1, f2, f3, f4, f5, f6, f7, f8, f9, -⟩ := id hF
  rcases hlk with hlk | ⟨host, hlk⟩
  · exact va_gets f1 f2 (f9.2.2.2.1 k hk).1 hS f7 (f8 _ hlk) (fun x h => h) hd k1
  · exact va_getsN f1 f2 (f9.2.2.2.1 k hk).1 hS f7 (va_Nw.use rfl (f9.2.1 _ hlk)) (fun x h => h) hd k1
theorem r_ialds {k j : Nat} {i : Int32} (hd : Ft M pc .iaload 1 nx) (hk : k < 4) (hj : q_ix i j (q_sl k)) (kk : WW G d M nx ls (.int (q_sv k j) :: st) S R I L ce sl mc ms K) : WW G d M pc ls (.int i :: .ref (k + 1000) :: st) S R I L ce sl mc ms K := by
  intro p e Rm s m args below meth c H locs Q la hF hW hS hl hR
  obtain ⟨hd, rfl⟩ := hd
  have e0 : (Value.int i :: Value.ref (k + 1000) :: st).map (q_cv G) = .int i :: .ref (G.2.2.1 k) :: st.map (q_cv G) := by rw [← q_ad_ex]; rfl
  rw [e0]
  exact va_ti hF.1 hF.2.1 (hF.2.2.2.2.2.2.2.2.1.2.2.2.1 k hk).2 hS hj.in (by rw [hj.clamp]; rfl) hd (kk p e Rm s m args below meth c H locs Q la hF hW hS hl hR)
theorem r_alens {k : Nat} (hd : Ft M pc .arraylength 1 nx) (hk : k < 4) (kk : WW G d M nx ls (.int (Int32.ofNat (q_sl k)) :: st) S R I L ce sl mc ms K) : WW G d M pc ls (.ref (k + 1000) :: st) S R I L ce sl mc ms K := by
  intro p e Rm s m args below meth c H locs Q la hF hW hS hl hR
  obtain ⟨hd, rfl⟩ := hd
  have e0 : (Value.ref (k + 1000) :: st).map (q_cv G) = .ref (G.2.2.1 k) :: st.map (q_cv G) := by rw [← q_ad_ex]; rfl
  rw [e0]
  exact va_tlen hF.1 hF.2.1 (hF.2.2.2.2.2.2.2.2.1.2.2.2.1 k hk).2 hS rfl hd (kk p e Rm s m args below meth c H locs Q la hF hW hS hl hR)
theorem r_ialdx {j : Nat} {i : Int32} (hd : Ft M pc .iaload 1 nx) (hj : q_ix i j G.2.2.2.2.2.2) (kk : WW G d M nx ls (.int (G.2.2.2.2.2.1 j) :: st) S R I L ce sl mc ms K) : WW G d M pc ls (.int i :: .ref (4 + 1000) :: st) S R I L ce sl mc ms K := by
  intro p e Rm s m args below meth c H locs Q la hF hW hS hl hR
  obtain ⟨hd, rfl⟩ := hd
  have e0 : (Value.int i :: Value.ref (4 + 1000) :: st).map (q_cv G) = .int i :: .ref (G.2.2.1 4) :: st.map (q_cv G) := by rw [← q_ad_ex]; rfl
  rw [e0]
  have hT := hF.2.2.2.2.2.2.2.2.1
  refine va_sld hF.1 hF.2.1 hT.2.2.2.2.1 hT.2.2.2.2.2.1 hT.2.2.2.2.2.2.1 hS hj.in hd ?_
  rw [hj.clamp]
  exact kk p e Rm s m args below meth c H locs Q la hF hW hS hl hR
theorem r_alenx (hd : Ft M pc .arraylength 1 nx) (kk : WW G d M nx ls (.int (Int32.ofNat G.2.2.2.2.2.2) :: st) S R I L ce sl mc ms K) : WW G d M pc ls (.ref (4 + 1000) :: st) S R I L ce sl mc ms K := by
  intro p e Rm s m args below meth c H locs Q la hF hW hS hl hR
  obtain ⟨hd, rfl⟩ := hd
  have e0 : (Value.ref (4 + 1000) :: st).map (q_cv G) = .ref (G.2.2.1 4) :: st.map (q_cv G) := by rw [← q_ad_ex]; rfl
  rw [e0]
  have hT := hF.2.2.2.2.2.2.2.2.1
  exact va_slen hF.1 hF.2.1 hT.2.2.2.2.1 hT.2.2.2.2.2.1 hT.2.2.2.2.2.2.1 hS hd (kk p e Rm s m args below meth c H locs Q la hF hW hS hl hR)
end RH
end
section
/-! RULES that make cells; arraycopy -/
def Fn (M : Mt) (pc k n nx : Nat) : Prop := ∃ (ix : Nat) (C : String) (T : u_T) (ty : Nat → FieldType), decode M.2.1 pc = .ok (.new ix, 3) ∧ pc + 3 = nx ∧ q_Kf k C T n ty ∧ Cond.classLink M.1.cls ix C ∈ q_gw ∧ Cond.instantiable C n ∈ q_gw ∧ Cond.initialized C ∈ q_gw ∧ ∀ j, j < n → defaultValue (ty j) = (match q_ft k j with | 0 => .int 0 | 1 => .long 0 | _ => .null)
def Fo (M : Mt) (pc nx : Nat) : Prop := ∃ ix, decode M.2.1 pc = .ok (.invokespecial ix, 3) ∧ pc + 3 = nx ∧ Cond.methodLink M.1.cls ix Lib.objectInit ∈ q_gw ∧ Cond.instanceMethod Lib.objectInit ∈ q_gw ∧ Cond.code Lib.objectInit ⟨#[0xb1]⟩ 1 none ∈ q_gw
def q_at_of (k : Nat) : ArrayType := if k = 20 then .int else if k = 21 then .long else .boolean
def Fna (M : Mt) (pc k nx : Nat) : Prop := decode M.2.1 pc = .ok (.newarray (q_at_of k), 2) ∧ pc + 2 = nx ∧ (k = 20 ∨ k = 21 ∨ k = 22) ∧ Cond.arrayClass (newarray.typeOf (q_at_of k)) ∈ q_gw
def q_qn (k : Nat) : String := if k = 23 then "NightDitch$Farm" else "NightDitch$Meet"
def Fnq (M : Mt) (pc k nx : Nat) : Prop := ∃ ix, decode M.2.1 pc = .ok (.anewarray ix, 3) ∧ pc + 3 = nx ∧ (k = 23 ∨ k = 24) ∧ Cond.classLink M.1.cls ix (q_qn k) ∈ q_gw
section RA
variable {G : Gx} {d : Nat} {M : Mt} {pc nx : Nat} {ls : List (Option Value)} {st : List Value} {S : Shp} {R : Rf} {I : Rn} {L : Rl} {ce sl mc ms : Nat} {K : Kt}
variable {p : Program} {e : Env} {Rm : Room} {s : State} {m : MethodId} {args : Array Value} {below : List Frame} {meth : Method} {c : Code} {H : Heap} {locs : List Loc} {Q : State → Prop} {la : Array Slot}
theorem r_obj {i : Nat} (hd : Fo M pc nx) (hr : (st.map fun v => v.category).sum ≤ 8) (kk : WW G d M nx ls st S R I L ce sl mc ms K) : WW G d M pc ls (.ref i :: st) S R I L ce sl mc ms K := by
  intro p e Rm s m args below meth c H locs Q la hF hW hS hl hR
  obtain ⟨ix, hd, rfl, w1, w2, w3⟩ := hd
  obtain ⟨f1, f2, f3, f4, f5, f6, f7, f8, f9, f10, f11, -⟩ := id hF
  refine W.objInit f1 f2 f7 (f8 _ w1) (f8 _ w2) (f8 _ w3) rfl (hl.1.trans f3.symm) (a := q_ad G i) (rest := st.map (q_cv G)) rfl hd (by omega) ?_ (kk p e Rm s m args below meth c H locs Q la hF hW hS hl hR)
  have := q_rest (G := G) (m := m) (pc := pc) (la := la) (st0 := (Value.ref i :: st).map (q_cv G)) hr
  omega
theorem q_Sput (hS : va_S (q_A G) s.heap H locs) {H1 : Heap} (hz : H1.size = H.size + 1) (ho : ∀ q, q < H.size → H1[q]? = H[q]?) : va_S (q_A G) s.heap H1 locs :=
  ⟨Nat.le_trans hS.1 (by omega), fun q h1 h2 => (ho q (Nat.lt_of_lt_of_le h1 hS.1)).trans (hS.2.1 q h1 h2), hS.2.2⟩
theorem r_new {k n : Nat} (hd : Fn M pc k n nx) (hb : S.length + 1 ≤ 1000) (hc : ce + 1 ≤ mc) (hs : sl + n ≤ ms) (kk : WW G d M nx ls (.ref S.length :: st) (S ++ [(k, n)]) (q_clr R S.length none) (q_clr I S.length 0) (q_clr L S.length 0) (ce + 1) (sl + n) mc ms K) : WW G d M pc ls st S R I L ce sl mc ms K := by
  intro p e Rm s m args below meth c H locs Q la hF hW hS hl hR
  obtain ⟨ix, C, T, ty, hd, rfl, ⟨k1, k2, k3, k4, k5⟩, w1, w2, w3, hdf⟩ := hd
  obtain ⟨f1, f2, f3, f4, f5, f6, f7, f8, f9, f10, f11, f12, f13⟩ := id hF
  have hKn := f9.1.1 k _ k1
  refine W.newcK f1 f2 f7 (f8 _ w1) (f8 _ w2) (f8 _ w3) rfl hd (Nat.le_trans hc f12) (Nat.le_trans hs f13) hKn.2.1 rfl fun H1 kC hkC e1 z1 o1 => ?_
  have hW1 : q_Wd G (S ++ [(k, n)]) (q_clr R S.length none) (q_clr I S.length 0) (q_clr L S.length 0) H1 := by
    refine hW.push hb z1 o1 (fun a ha => ⟨q_clr_row ha, q_clr_row ha, q_clr_row ha⟩) ?_
    rw [q_at_obj (by omega), ← hW.1]
    refine (u_born ty f8 k2 hKn hkC e1 k3).to (fun j hj => ?_)
    rw [hdf j hj]
    unfold q_val q_clr
    generalize q_ft k j = t
    rcases t with _ | _ | t <;> simp [va_rf]
  have k0 := kk p e Rm s m args below meth c H1 locs Q la hF hW1 (q_Sput hS z1 o1) hl hR
  have e0 : (Value.ref S.length :: st).map (q_cv G) = .ref H.size :: st.map (q_cv G) := by
    have : q_ad G S.length = H.size := by rw [hW.1]; exact if_pos (by omega)
    rw [← this]
    rfl
  rw [e0] at k0
  exact k0
theorem r_newa {k n : Nat} {x : Int32} (hd : Fna M pc k nx) (hx : x.toInt = (n : Int)) (hn : n ≤ 1000) (hb : S.length + 1 ≤ 1000) (hc : ce + 1 ≤ mc) (hs : sl + n ≤ ms) (kk : WW G d M nx ls (.ref S.length :: st) (S ++ [(k, n)]) (q_clr R S.length none) (q_clr I S.length 0) (q_clr L S.length 0) (ce + 1) (sl + n) mc ms K) : WW G d M pc ls (.int x :: st) S R I L ce sl mc ms K := by
  intro p e Rm s m args below meth c H locs Q la hF hW hS hl hR
  obtain ⟨hd, rfl, hk, w1⟩ := hd
  obtain ⟨f1, f2, f3, f4, f5, f6, f7, f8, f9, f10, f11, f12, f13⟩ := id hF
  have hcl : x.toNatClampNeg = n := by
    show x.toInt.toNat = n
    rw [hx]
    rfl
  have hneg : ¬ x < 0 := by
    intro h
    have := Int32.lt_iff_toInt_lt.mp h
    rw [hx] at this
    have h0 : (0 : Int32).toInt = 0 := by decide
    rw [h0] at this
    omega
  have e0 : (Value.ref S.length :: st).map (q_cv G) = .ref H.size :: st.map (q_cv G) := by
    have : q_ad G S.length = H.size := by rw [hW.1]; exact if_pos (by omega)
    rw [← this]
    rfl
  refine va_newaK (N := n) (rest := st.map (q_cv G)) f1 f2 (f8 _ w1) rfl hd rfl hneg hcl (by rcases hk with rfl | rfl | rfl <;> (simp [q_at_of, newarray.typeOf, componentBytes]; omega)) (Nat.le_trans hc f12) (Nat.le_trans hs f13) rfl fun H1 cA e1 z1 o1 hAr hNm => ?_
  have hW1 : q_Wd G (S ++ [(k, n)]) (q_clr R S.length none) (q_clr I S.length 0) (q_clr L S.length 0) H1 := by
    refine hW.push hb z1 o1 (fun a ha => ⟨q_clr_row ha, q_clr_row ha, q_clr_row ha⟩) ?_
    have hcA : cA = G.2.2.2.2.1 (k - 20) := by
      rcases hk with rfl | rfl | rfl
      · exact Option.some.inj (hNm.symm.trans (f9.1.2 0 _ rfl).2)
      · exact Option.some.inj (hNm.symm.trans (f9.1.2 1 _ rfl).2)
      · exact Option.some.inj (hNm.symm.trans (f9.1.2 2 _ rfl).2)
    rw [q_at_arr (by omega), ← hW.1, e1, hcA]
    congr 2
    funext j
    rcases hk with rfl | rfl | rfl <;> simp [q_at_of, newarray.typeOf, defaultValue, q_aty, q_val, q_clr]
  have k0 := kk p e Rm s m args below meth c H1 locs Q la hF hW1 (q_Sput hS z1 o1) hl hR
  rw [e0] at k0
  exact k0
theorem r_newq {k n : Nat} {x : Int32} (hd : Fnq M pc k nx) (hx : x.toInt = (n : Int)) (hn : n ≤ 1000) (hb : S.length + 1 ≤ 1000) (hc : ce + 1 ≤ mc) (hs : sl + n ≤ ms) (kk : WW G d M nx ls (.ref S.length :: st) (S ++ [(k, n)]) (q_clr R S.length none) (q_clr I S.length 0) (q_clr L S.length 0) (ce + 1) (sl + n) mc ms K) : WW G d M pc ls (.int x :: st) S R I L ce sl mc ms K := by
  intro p e Rm s m args below meth c H locs Q la hF hW hS hl hR
  obtain ⟨ix, hd, rfl, hk, w1⟩ := hd
  obtain ⟨f1, f2, f3, f4, f5, f6, f7, f8, f9, f10, f11, f12, f13⟩ := id hF
  have hcl : x.toNatClampNeg = n := by
    show x.toInt.toNat = n
    rw [hx]
    rfl
  have hneg : ¬ x < 0 := by
    intro h
    have := Int32.lt_iff_toInt_lt.mp h
    rw [hx] at this
    have h0 : (0 : Int32).toInt = 0 := by decide
    rw [h0] at this
    omega
  have e0 : (Value.ref S.length :: st).map (q_cv G) = .ref H.size :: st.map (q_cv G) := by
    have : q_ad G S.length = H.size := by rw [hW.1]; exact if_pos (by omega)
    rw [← this]
    rfl
  have hao : va_AO (q_qn k) s := by
    rcases hk with rfl | rfl
    · exact f9.2.2.1.1
    · exact f9.2.2.1.2.1
  subst hcl
  refine W.anew (rest := st.map (q_cv G)) f1 f2 f7 (f8 _ w1) (va_AO.use hao) rfl hd rfl hneg (by omega) (Nat.le_trans hc f12) (Nat.le_trans hs f13) fun cA kA comp h1 h2 h3 h4 => ?_
  have hcA : cA = G.2.2.2.2.1 (k - 20) := by
    rcases hk with rfl | rfl
    · obtain ⟨_, _, _, _, _, h9⟩ := (f9.1.2 3 _ rfl).2
      exact Option.some.inj (h1.symm.trans h9)
    · obtain ⟨_, _, _, _, _, h9⟩ := (f9.1.2 4 _ rfl).2
      exact Option.some.inj (h1.symm.trans h9)
  have ho : ∀ q, q < H.size → (H.push ({ cls := cA, slots := Array.replicate x.toNatClampNeg .null, vm := .none } : Cell))[q]? = H[q]? := fun q hq => by rw [Array.getElem?_push, if_neg (Nat.ne_of_lt hq)]
  have hW1 : q_Wd G (S ++ [(k, x.toNatClampNeg)]) (q_clr R S.length none) (q_clr I S.length 0) (q_clr L S.length 0) (H.push { cls := cA, slots := Array.replicate x.toNatClampNeg .null, vm := .none }) := by
    refine hW.push hb (by simp) ho (fun a ha => ⟨q_clr_row ha, q_clr_row ha, q_clr_row ha⟩) ?_
    rw [q_at_arr (by omega), ← hW.1, hcA, arrV_new]
    rw [Array.getElem?_push_size]
    congr 2
    funext j
    rcases hk with rfl | rfl <;> simp [q_aty, q_val, q_clr, va_rf]
  have k0 := kk p e Rm s m args below meth c _ locs Q la hF hW1 (q_Sput hS (by simp) ho) hl hR
  rw [e0] at k0
  exact k0
theorem r_aast {a n j k x nk kv : Nat} {i : Int32} (hd : Ft M pc .aastore 1 nx) (hk : (k = 23 ∧ kv = 1) ∨ (k = 24 ∧ kv = 2)) (hi : S[a]? = some (k, n)) (hj : q_ix i j n) (hv : S[x]? = some (kv, nk)) (kk : WW G d M nx ls st S (u2 R a j (some x)) I L ce sl mc ms K) : WW G d M pc ls (.ref x :: .int i :: .ref a :: st) S R I L ce sl mc ms K := by
  intro p e Rm s m args below meth c H locs Q la hF hW hS hl hR
  obtain ⟨hd, rfl⟩ := hd
  have e0 : (Value.ref x :: Value.int i :: Value.ref a :: st).map (q_cv G) = .ref (G.2.1 + x) :: .int i :: .ref (G.2.1 + a) :: st.map (q_cv G) := by rw [← q_ad_lt hW hi, ← q_ad_lt hW hv]; rfl
  rw [e0]
  have ex : q_ad G x = G.2.1 + x := q_ad_lt hW hv
  obtain ⟨f1, f2, f3, f4, f5, f6, f7, f8, f9, -⟩ := id hF
  have hvc := hW.2.2 x _ hv
  rw [q_at_obj (by omega)] at hvc
  obtain ⟨cv, v1, v2, v3, -⟩ := hvc
  have hin : ¬ i < 0 ∧ i.toNatClampNeg < n := by
    have h9 := hj.in
    refine ⟨fun h => h9 (Or.inl h), ?_⟩
    rw [hj.clamp]
    exact hj.2
  have main : ∀ (C : String) (q : vw_C), q.1 = C → q_cls[kv]? = some q → va_RA s (G.2.2.2.2.1 (k - 20)) (.object C) → W p G.1 e Rm s m args below meth c H locs ce sl Q (F0 m pc la (.ref (G.2.1 + x) :: .int i :: .ref (G.2.1 + a) :: st.map (q_cv G))) := by
    intro C q hqC hq hRA
    obtain ⟨kA, comp, r1, r2, r3, r4⟩ := hRA
    obtain ⟨-, hca⟩ := f9.1.1 kv q hq
    have hasg := va_assign hca
    obtain ⟨hfc, kC, hkC, hkind⟩ := hca
    rw [hqC] at hfc
    have ecc : comp = G.2.2.2.1.1 kv := Option.some.inj (r3.symm.trans hfc)
    refine W.aast f1 f2 (q_arr (by omega) hW hi) (fun _ h => by cases h) (fun h => by cases h) r1 r2 rfl (by rw [ecc]; exact hkC) ⟨hin.1, by rw [arrV_size]; exact hin.2⟩ v1 (fun _ h => by rw [v3] at h; cases h) (by rw [v2]; exact hkC) (by rw [v2, ecc]; exact hasg) rfl rfl hd fun H1 e1 e2 e3 => ?_
    rw [hj.clamp] at e1
    refine kk p e Rm s m args below meth c H1 _ Q la hF (q_storedA (by omega) hW hi e1 e2 e3 (fun b hb => ⟨u2_row hb, rfl, rfl⟩) ?_) (hS.put e2 e3 (show q_A G (G.2.1 + a) from Nat.le_add_right _ _)) hl hR
    rw [← ex]
    exact q_updAR (by rcases hk with ⟨rfl, -⟩ | ⟨rfl, -⟩ <;> rfl)
  rcases hk with ⟨rfl, rfl⟩ | ⟨rfl, rfl⟩
  · exact main _ _ rfl rfl (f9.1.2 3 _ rfl).2
  · exact main _ _ rfl rfl (f9.1.2 4 _ rfl).2
/-- n values of row a from place sp on, laid into row b from place dp on -/
def q_cpy {α : Type} (f : Nat → Nat → α) (a sp b dp n : Nat) : Nat → Nat → α := fun x y => if x = b ∧ dp ≤ y ∧ y < dp + n then f a (sp + (y - dp)) else f x y
theorem q_cpy_row {α : Type} {f : Nat → Nat → α} {a sp b dp n x : Nat} (h : x ≠ b) : q_cpy f a sp b dp n x = f x := by
  funext y
  unfold q_cpy
  rw [if_neg (fun q => h q.1)]
def Fac (M : Mt) (pc nx : Nat) : Prop := ∃ ix, decode M.2.1 pc = .ok (.invokestatic ix, 3) ∧ pc + 3 = nx ∧ Cond.methodLink M.1.cls ix arraycopyName ∈ q_gw ∧ Cond.native arraycopyName ∈ q_gw ∧ Cond.static arraycopyName ∈ q_gw ∧ Cond.initialized "java/lang/System" ∈ q_gw
theorem q_copy {k na nb a b jn sp dp : Nat} {n xs xd : Int32} {ty : FieldType} {R' : Rf} {I' : Rn} {L' : Rl} (hd : Fac M pc nx) (hk : (k = 20 ∧ ty = .int) ∨ (k = 21 ∧ ty = .long)) (ha : S[a]? = some (k, na)) (hb : S[b]? = some (k, nb)) (hn : n.toInt = (jn : Int)) (hs : xs.toInt = (sp : Int)) (hdp : xd.toInt = (dp : Int)) (h4 : sp + jn ≤ na) (h5 : dp + jn ≤ nb)
    (hv : ∀ y, (if dp ≤ y ∧ y < dp + jn then q_val G R I L (q_aty k) a (sp + (y - dp)) else q_val G R I L (q_aty k) b y) = q_val G R' I' L' (q_aty k) b y) (hrow : ∀ x, x ≠ b → R' x = R x ∧ I' x = I x ∧ L' x = L x) (hst : (st.map fun v => v.category).sum ≤ 8)
    (kk : WW G d M nx ls st S R' I' L' ce sl mc ms K) : WW G (d + 1) M pc ls (.int n :: .int xd :: .ref b :: .int xs :: .ref a :: st) S R I L ce sl mc ms K := by
  intro p e Rm s m args below meth c H locs Q la hF hW hS hl hR
  obtain ⟨ix, hd, rfl, w1, w2, w3, w4⟩ := hd
  obtain ⟨f1, f2, f3, f4, f5, f6, f7, f8, f9, f10, f11, f12⟩ := id hF
  have e0 : (Value.int n :: Value.int xd :: Value.ref b :: Value.int xs :: Value.ref a :: st).map (q_cv G) = .int n :: .int xd :: .ref (G.2.1 + b) :: .int xs :: .ref (G.2.1 + a) :: st.map (q_cv G) := by rw [← q_ad_lt hW ha, ← q_ad_lt hW hb]; rfl
  rw [e0]
  have clamp : ∀ {z : Int32} {t : Nat}, z.toInt = (t : Int) → z.toNatClampNeg = t := fun {z t} h => by
    show z.toInt.toNat = t
    rw [h]
    rfl
  have nneg : ∀ {z : Int32} {t : Nat}, z.toInt = (t : Int) → ¬ z < 0 := fun {z t} h q => by
    have h9 := Int32.lt_iff_toInt_lt.mp q
    rw [h, show (0 : Int32).toInt = 0 by decide] at h9
    omega
  have hca := q_arr (by omega) hW ha
  have hcb := q_arr (by omega) hW hb
  have htys : ∃ t0 : Nat, (q_tys G)[t0]? = some (G.2.2.2.2.1 (k - 20), ty) := by
    rcases hk with ⟨rfl, rfl⟩ | ⟨rfl, rfl⟩
    · exact ⟨0, rfl⟩
    · exact ⟨1, rfl⟩
  obtain ⟨t0, ht0⟩ := htys
  obtain ⟨-, k0, hk0, cm0, hkk0⟩ := (f9.1.2 t0 _ ht0).1 na (fun j => q_val G R I L (q_aty k) a j)
  intro T hT X
  obtain ⟨vm', X', step⟩ := X.arraycopy f1 f7 (f8 _ w1) (f8 _ w2) (f8 _ w3) (f8 _ w4) (src := G.2.1 + a) (dst := G.2.1 + b) (cs := arrV (G.2.2.2.2.1 (k - 20)) na (fun j => q_val G R I L (q_aty k) a j)) (cd := arrV (G.2.2.2.2.1 (k - 20)) nb (fun j => q_val G R I L (q_aty k) b j)) (srcPos := xs) (destPos := xd) (n := n) (by rw [hT]; exact hca) (by rw [hT]; exact hcb)
    (fun _ h => by cases h) (fun _ h => by cases h) (fun h => by cases h) (fun h => by cases h) hk0 hk0 hkk0 hkk0 (by rcases hk with ⟨-, rfl⟩ | ⟨-, rfl⟩ <;> rfl) (nneg hs) (nneg hdp) (nneg hn)
    (by rw [arrV_size, hs, hn]; omega) (by rw [arrV_size, hdp, hn]; omega)
    (fun vm₁ _ i hi => by
      rw [clamp hn] at hi
      have e1 : (arrV (G.2.2.2.2.1 (k - 20)) na (fun j => q_val G R I L (q_aty k) a j)).slots.getD (xs.toNatClampNeg + i) .null = q_val G R I L (q_aty k) a (sp + i) := by
        rw [clamp hs, Array.getD_eq_getD_getElem?, arrV_read _ _ (by omega)]
        rfl
      rw [e1]
      rcases hk with ⟨rfl, rfl⟩ | ⟨rfl, rfl⟩
      · exact ⟨rfl, trivial⟩
      · exact ⟨rfl, trivial⟩)
    (g := F0 m pc la (.int n :: .int xd :: .ref (G.2.1 + b) :: .int xs :: .ref (G.2.1 + a) :: st.map (q_cv G))) rfl (hl.1.trans f3.symm) (rest := st.map (q_cv G)) rfl (by rw [f2]; exact hd) (by omega) (by
      have := q_rest (G := G) (m := m) (pc := pc) (la := la) (st0 := []) hst
      have h9 : nativeFrameWords "java/lang/System" "arraycopy" 5 + 11 ≤ 64 := by decide +kernel
      show 2 * 0 + _ + _ ≤ _
      have h8 : ((st.map (q_cv G)).map fun v => v.category).sum ≤ 8 := by rw [q_cats]; exact hst
      omega)
  have e1 : copied (arrV (G.2.2.2.2.1 (k - 20)) na (fun j => q_val G R I L (q_aty k) a j)) (arrV (G.2.2.2.2.1 (k - 20)) nb (fun j => q_val G R I L (q_aty k) b j)) xs xd n = arrV (G.2.2.2.2.1 (k - 20)) nb (fun j => q_val G R' I' L' (q_aty k) b j) := by
    have h9 := va_copied (fun z : Value => z) (G.2.2.2.2.1 (k - 20)) (G.2.2.2.2.1 (k - 20)) (n0 := na) (n1 := nb) (sp := sp) (dp := dp) (n := jn) (fun j => q_val G R I L (q_aty k) a j) (fun j => q_val G R I L (q_aty k) b j) h4
    have h8 : copied (arrV (G.2.2.2.2.1 (k - 20)) na (fun j => q_val G R I L (q_aty k) a j)) (arrV (G.2.2.2.2.1 (k - 20)) nb (fun j => q_val G R I L (q_aty k) b j)) xs xd n = (arrV (G.2.2.2.2.1 (k - 20)) nb (fun j => q_val G R I L (q_aty k) b j)).storeRun dp ((arrV (G.2.2.2.2.1 (k - 20)) na (fun j => q_val G R I L (q_aty k) a j)).stretch sp jn) := by
      unfold copied
      rw [clamp hs, clamp hdp, clamp hn]
    rw [h8, h9]
    congr 1
    funext y
    exact hv y
  rw [e1] at X' step
  have hlt : G.2.1 + b < H.size := (Array.getElem?_eq_some_iff.mp hcb).1
  have hheap : ((T.setVm vm').setCell (G.2.1 + b) (arrV (G.2.2.2.2.1 (k - 20)) nb (fun j => q_val G R' I' L' (q_aty k) b j))).heap = H.setIfInBounds (G.2.1 + b) (arrV (G.2.2.2.2.1 (k - 20)) nb (fun j => q_val G R' I' L' (q_aty k) b j)) := by rw [← hT]; rfl
  have oq : ∀ q : Nat, q ≠ G.2.1 + b → (H.setIfInBounds (G.2.1 + b) (arrV (G.2.2.2.2.1 (k - 20)) nb (fun j => q_val G R' I' L' (q_aty k) b j)))[q]? = H[q]? := fun q hq => by simp [Array.getElem?_setIfInBounds, Ne.symm hq]
  have hW1 : q_Wd G S R' I' L' (H.setIfInBounds (G.2.1 + b) (arrV (G.2.2.2.2.1 (k - 20)) nb (fun j => q_val G R' I' L' (q_aty k) b j))) := by
    refine hW.upd hb (by simp) oq hrow ?_
    rw [q_at_arr (by omega)]
    simp [Array.getElem?_setIfInBounds, hlt]
  have hF' : q_Fx G d M mc ms p Rm s m args meth c := ⟨f1, f2, f3, f4, f5, f6, f7, f8, f9, by omega, by omega, f12⟩
  obtain ⟨t, a1, b1⟩ := kk p e Rm s m args below meth c _ _ Q la hF' hW1 ⟨by simp; exact hS.1, fun q g1 g2 => by
      rw [oq q (fun e => g2 (by rw [e]; exact Nat.le_add_right _ _))]
      exact hS.2.1 q g1 g2, fun q hq => by
      rcases List.mem_append.mp hq with h | h
      · exact hS.2.2 q h
      · obtain ⟨z, -, hz⟩ := List.mem_map.mp h
        rw [← hz]
        exact Nat.le_add_right _ _⟩ hl hR _ hheap X'
  exact ⟨t, step t a1, b1⟩
theorem r_cpi {na nb a b jn sp dp : Nat} {n xs xd : Int32} (hd : Fac M pc nx) (ha : S[a]? = some (20, na)) (hb : S[b]? = some (20, nb)) (hn : n.toInt = (jn : Int)) (hs : xs.toInt = (sp : Int)) (hdp : xd.toInt = (dp : Int)) (h4 : sp + jn ≤ na) (h5 : dp + jn ≤ nb) (hst : (st.map fun v => v.category).sum ≤ 8)
    (kk : WW G d M nx ls st S R (q_cpy I a sp b dp jn) L ce sl mc ms K) : WW G (d + 1) M pc ls (.int n :: .int xd :: .ref b :: .int xs :: .ref a :: st) S R I L ce sl mc ms K := by
  refine q_copy hd (Or.inl ⟨rfl, rfl⟩) ha hb hn hs hdp h4 h5 (fun y => ?_) (fun x hx => ⟨rfl, q_cpy_row hx, rfl⟩) hst kk
  show (if dp ≤ y ∧ y < dp + jn then Value.int (I a (sp + (y - dp))) else Value.int (I b y)) = Value.int (q_cpy I a sp b dp jn b y)
  unfold q_cpy
  by_cases h : dp ≤ y ∧ y < dp + jn
  · rw [if_pos h, if_pos ⟨rfl, h⟩]
  · rw [if_neg h, if_neg (fun q => h q.2)]
theorem r_cpl {na nb a b jn sp dp : Nat} {n xs xd : Int32} (hd : Fac M pc nx) (ha : S[a]? = some (21, na)) (hb : S[b]? = some (21, nb)) (hn : n.toInt = (jn : Int)) (hs : xs.toInt = (sp : Int)) (hdp : xd.toInt = (dp : Int)) (h4 : sp + jn ≤ na) (h5 : dp + jn ≤ nb) (hst : (st.map fun v => v.category).sum ≤ 8)
    (kk : WW G d M nx ls st S R I (q_cpy L a sp b dp jn) ce sl mc ms K) : WW G (d + 1) M pc ls (.int n :: .int xd :: .ref b :: .int xs :: .ref a :: st) S R I L ce sl mc ms K := by
  refine q_copy hd (Or.inr ⟨rfl, rfl⟩) ha hb hn hs hdp h4 h5 (fun y => ?_) (fun x hx => ⟨rfl, rfl, q_cpy_row hx⟩) hst kk
  show (if dp ≤ y ∧ y < dp + jn then Value.long (L a (sp + (y - dp))) else Value.long (L b y)) = Value.long (q_cpy L a sp b dp jn b y)
  unfold q_cpy
  by_cases h : dp ≤ y ∧ y < dp + jn
  · rw [if_pos h, if_pos ⟨rfl, h⟩]
  · rw [if_neg h, if_neg (fun q => h q.2)]
end RA
end
