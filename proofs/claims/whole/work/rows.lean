section
def lw_okq (q : MethodName × Nat) : Prop := (q.1.cls ≠ "java/lang/invoke/MethodHandle" ∧ q.1.cls ≠ "java/lang/invoke/VarHandle") ∧ Cond.instantiable q.1.cls q.2 ∈ tables_1 ∧ Cond.privateMethod q.1 ∈ tables_1 ∧ Cond.instanceMethod q.1 ∈ tables_1
theorem lw_p0 : lw_okq (⟨"ForfeitBook", "found", "(I)I"⟩, 13) := ⟨⟨by decide +kernel, by decide +kernel⟩, List.mem_of_getElem? (i := 14) (by decide +kernel), List.mem_of_getElem? (i := 291) (by decide +kernel), List.mem_of_getElem? (i := 292) (by decide +kernel)⟩
theorem lw_p1 : lw_okq (⟨"ForfeitBook", "tell", "(II)I"⟩, 13) := ⟨⟨by decide +kernel, by decide +kernel⟩, List.mem_of_getElem? (i := 14) (by decide +kernel), List.mem_of_getElem? (i := 320) (by decide +kernel), List.mem_of_getElem? (i := 321) (by decide +kernel)⟩
theorem lw_p2 : lw_okq (⟨"ForfeitBook", "markedIn", "(II)I"⟩, 13) := ⟨⟨by decide +kernel, by decide +kernel⟩, List.mem_of_getElem? (i := 14) (by decide +kernel), List.mem_of_getElem? (i := 398) (by decide +kernel), List.mem_of_getElem? (i := 399) (by decide +kernel)⟩
theorem lw_p3 : lw_okq (⟨"ForfeitBook", "isAct", "(III)Z"⟩, 13) := ⟨⟨by decide +kernel, by decide +kernel⟩, List.mem_of_getElem? (i := 14) (by decide +kernel), List.mem_of_getElem? (i := 447) (by decide +kernel), List.mem_of_getElem? (i := 448) (by decide +kernel)⟩
theorem lw_p4 : lw_okq (⟨"ForfeitBook", "holdsActs", "(I)Z"⟩, 13) := ⟨⟨by decide +kernel, by decide +kernel⟩, List.mem_of_getElem? (i := 14) (by decide +kernel), List.mem_of_getElem? (i := 459) (by decide +kernel), List.mem_of_getElem? (i := 460) (by decide +kernel)⟩
theorem lw_p5 : lw_okq (⟨"ForfeitBook$Inquest", "whatMoves", "(II)I"⟩, 6) := ⟨⟨by decide +kernel, by decide +kernel⟩, List.mem_of_getElem? (i := 191) (by decide +kernel), List.mem_of_getElem? (i := 497) (by decide +kernel), List.mem_of_getElem? (i := 498) (by decide +kernel)⟩
theorem lw_p6 : lw_okq (⟨"ForfeitBook$Inquest", "whatIsToBlame", "(IIII)I"⟩, 6) := ⟨⟨by decide +kernel, by decide +kernel⟩, List.mem_of_getElem? (i := 191) (by decide +kernel), List.mem_of_getElem? (i := 516) (by decide +kernel), List.mem_of_getElem? (i := 517) (by decide +kernel)⟩
theorem lw_p7 : lw_okq (⟨"ForfeitBook", "tellSet", "(I)I"⟩, 13) := ⟨⟨by decide +kernel, by decide +kernel⟩, List.mem_of_getElem? (i := 14) (by decide +kernel), List.mem_of_getElem? (i := 528) (by decide +kernel), List.mem_of_getElem? (i := 529) (by decide +kernel)⟩
theorem lw_p8 : lw_okq (⟨"ForfeitBook", "ruleNow", "(I)V"⟩, 13) := ⟨⟨by decide +kernel, by decide +kernel⟩, List.mem_of_getElem? (i := 14) (by decide +kernel), List.mem_of_getElem? (i := 593) (by decide +kernel), List.mem_of_getElem? (i := 594) (by decide +kernel)⟩
theorem lw_p9 : lw_okq (⟨"ForfeitBook$Ruling", "findDue", "()V"⟩, 5) := ⟨⟨by decide +kernel, by decide +kernel⟩, List.mem_of_getElem? (i := 219) (by decide +kernel), List.mem_of_getElem? (i := 602) (by decide +kernel), List.mem_of_getElem? (i := 603) (by decide +kernel)⟩
theorem lw_p10 : lw_okq (⟨"ForfeitBook$Ruling", "isNewAt", "(III)Z"⟩, 5) := ⟨⟨by decide +kernel, by decide +kernel⟩, List.mem_of_getElem? (i := 219) (by decide +kernel), List.mem_of_getElem? (i := 641) (by decide +kernel), List.mem_of_getElem? (i := 642) (by decide +kernel)⟩
theorem lw_p11 : lw_okq (⟨"ForfeitBook", "chanceOf", "(III)I"⟩, 13) := ⟨⟨by decide +kernel, by decide +kernel⟩, List.mem_of_getElem? (i := 14) (by decide +kernel), List.mem_of_getElem? (i := 667) (by decide +kernel), List.mem_of_getElem? (i := 668) (by decide +kernel)⟩
theorem lw_p12 : lw_okq (⟨"ForfeitBook", "tellFraction", "(II)V"⟩, 13) := ⟨⟨by decide +kernel, by decide +kernel⟩, List.mem_of_getElem? (i := 14) (by decide +kernel), List.mem_of_getElem? (i := 679) (by decide +kernel), List.mem_of_getElem? (i := 680) (by decide +kernel)⟩
theorem lw_p13 : lw_okq (⟨"ForfeitBook", "grantOver", "(II)I"⟩, 13) := ⟨⟨by decide +kernel, by decide +kernel⟩, List.mem_of_getElem? (i := 14) (by decide +kernel), List.mem_of_getElem? (i := 708) (by decide +kernel), List.mem_of_getElem? (i := 709) (by decide +kernel)⟩
theorem lw_p14 : lw_okq (⟨"ForfeitBook", "shareOf", "(III)I"⟩, 13) := ⟨⟨by decide +kernel, by decide +kernel⟩, List.mem_of_getElem? (i := 14) (by decide +kernel), List.mem_of_getElem? (i := 718) (by decide +kernel), List.mem_of_getElem? (i := 719) (by decide +kernel)⟩
theorem lw_p15 : lw_okq (⟨"ForfeitBook", "takenOf", "(II)I"⟩, 13) := ⟨⟨by decide +kernel, by decide +kernel⟩, List.mem_of_getElem? (i := 14) (by decide +kernel), List.mem_of_getElem? (i := 726) (by decide +kernel), List.mem_of_getElem? (i := 727) (by decide +kernel)⟩
def lw_privs_1 : List (MethodName × Nat) := [(⟨"ForfeitBook", "found", "(I)I"⟩, 13), (⟨"ForfeitBook", "tell", "(II)I"⟩, 13), (⟨"ForfeitBook", "markedIn", "(II)I"⟩, 13), (⟨"ForfeitBook", "isAct", "(III)Z"⟩, 13), (⟨"ForfeitBook", "holdsActs", "(I)Z"⟩, 13), (⟨"ForfeitBook$Inquest", "whatMoves", "(II)I"⟩, 6), (⟨"ForfeitBook$Inquest", "whatIsToBlame", "(IIII)I"⟩, 6), (⟨"ForfeitBook", "tellSet", "(I)I"⟩, 13), (⟨"ForfeitBook", "ruleNow", "(I)V"⟩, 13), (⟨"ForfeitBook$Ruling", "findDue", "()V"⟩, 5), (⟨"ForfeitBook$Ruling", "isNewAt", "(III)Z"⟩, 5), (⟨"ForfeitBook", "chanceOf", "(III)I"⟩, 13), (⟨"ForfeitBook", "tellFraction", "(II)V"⟩, 13), (⟨"ForfeitBook", "grantOver", "(II)I"⟩, 13), (⟨"ForfeitBook", "shareOf", "(III)I"⟩, 13), (⟨"ForfeitBook", "takenOf", "(II)I"⟩, 13)]
theorem lw_r1 : ∀ q ∈ lw_privs_1, lw_okq q := List.forall_mem_cons.mpr ⟨lw_p0, List.forall_mem_cons.mpr ⟨lw_p1, List.forall_mem_cons.mpr ⟨lw_p2, List.forall_mem_cons.mpr ⟨lw_p3, List.forall_mem_cons.mpr ⟨lw_p4, List.forall_mem_cons.mpr ⟨lw_p5, List.forall_mem_cons.mpr ⟨lw_p6, List.forall_mem_cons.mpr ⟨lw_p7, List.forall_mem_cons.mpr ⟨lw_p8, List.forall_mem_cons.mpr ⟨lw_p9, List.forall_mem_cons.mpr ⟨lw_p10, List.forall_mem_cons.mpr ⟨lw_p11, List.forall_mem_cons.mpr ⟨lw_p12, List.forall_mem_cons.mpr ⟨lw_p13, List.forall_mem_cons.mpr ⟨lw_p14, List.forall_mem_cons.mpr ⟨lw_p15, fun _ h => absurd h List.not_mem_nil⟩⟩⟩⟩⟩⟩⟩⟩⟩⟩⟩⟩⟩⟩⟩⟩
theorem lw_p16 : lw_okq (⟨"ForfeitBook", "ruleBoth", "(IIZI)V"⟩, 13) := ⟨⟨by decide +kernel, by decide +kernel⟩, List.mem_of_getElem? (i := 14) (by decide +kernel), List.mem_of_getElem? (i := 734) (by decide +kernel), List.mem_of_getElem? (i := 735) (by decide +kernel)⟩
theorem lw_p17 : lw_okq (⟨"ForfeitBook", "changesThatFit", "(IIII)I"⟩, 13) := ⟨⟨by decide +kernel, by decide +kernel⟩, List.mem_of_getElem? (i := 14) (by decide +kernel), List.mem_of_getElem? (i := 751) (by decide +kernel), List.mem_of_getElem? (i := 752) (by decide +kernel)⟩
theorem lw_p18 : lw_okq (⟨"ForfeitBookModel", "meets", "(I)I"⟩, 48) := ⟨⟨by decide +kernel, by decide +kernel⟩, List.mem_of_getElem? (i := 835) (by decide +kernel), List.mem_of_getElem? (i := 996) (by decide +kernel), List.mem_of_getElem? (i := 997) (by decide +kernel)⟩
theorem lw_p19 : lw_okq (⟨"ForfeitBookModel", "looked", "(I)I"⟩, 48) := ⟨⟨by decide +kernel, by decide +kernel⟩, List.mem_of_getElem? (i := 835) (by decide +kernel), List.mem_of_getElem? (i := 1004) (by decide +kernel), List.mem_of_getElem? (i := 1005) (by decide +kernel)⟩
theorem lw_p20 : lw_okq (⟨"ForfeitBookModel", "isThing", "(I)Z"⟩, 48) := ⟨⟨by decide +kernel, by decide +kernel⟩, List.mem_of_getElem? (i := 835) (by decide +kernel), List.mem_of_getElem? (i := 1023) (by decide +kernel), List.mem_of_getElem? (i := 1024) (by decide +kernel)⟩
theorem lw_p21 : lw_okq (⟨"ForfeitBookModel", "thingTells", "(II)I"⟩, 48) := ⟨⟨by decide +kernel, by decide +kernel⟩, List.mem_of_getElem? (i := 835) (by decide +kernel), List.mem_of_getElem? (i := 1035) (by decide +kernel), List.mem_of_getElem? (i := 1036) (by decide +kernel)⟩
theorem lw_p22 : lw_okq (⟨"ForfeitBookModel", "topOf", "(I)I"⟩, 48) := ⟨⟨by decide +kernel, by decide +kernel⟩, List.mem_of_getElem? (i := 835) (by decide +kernel), List.mem_of_getElem? (i := 1039) (by decide +kernel), List.mem_of_getElem? (i := 1040) (by decide +kernel)⟩
theorem lw_p23 : lw_okq (⟨"ForfeitBookModel", "priceOf", "(I)I"⟩, 48) := ⟨⟨by decide +kernel, by decide +kernel⟩, List.mem_of_getElem? (i := 835) (by decide +kernel), List.mem_of_getElem? (i := 1043) (by decide +kernel), List.mem_of_getElem? (i := 1044) (by decide +kernel)⟩
theorem lw_p24 : lw_okq (⟨"ForfeitBookModel", "isWithin", "(II)Z"⟩, 48) := ⟨⟨by decide +kernel, by decide +kernel⟩, List.mem_of_getElem? (i := 835) (by decide +kernel), List.mem_of_getElem? (i := 1047) (by decide +kernel), List.mem_of_getElem? (i := 1048) (by decide +kernel)⟩
theorem lw_p25 : lw_okq (⟨"ForfeitBookModel", "ask", "(II)I"⟩, 48) := ⟨⟨by decide +kernel, by decide +kernel⟩, List.mem_of_getElem? (i := 835) (by decide +kernel), List.mem_of_getElem? (i := 1051) (by decide +kernel), List.mem_of_getElem? (i := 1052) (by decide +kernel)⟩
theorem lw_p26 : lw_okq (⟨"ForfeitBookModel", "isDeath", "(I)Z"⟩, 48) := ⟨⟨by decide +kernel, by decide +kernel⟩, List.mem_of_getElem? (i := 835) (by decide +kernel), List.mem_of_getElem? (i := 1085) (by decide +kernel), List.mem_of_getElem? (i := 1086) (by decide +kernel)⟩
theorem lw_p27 : lw_okq (⟨"ForfeitBookModel", "mayBe", "(III)Z"⟩, 48) := ⟨⟨by decide +kernel, by decide +kernel⟩, List.mem_of_getElem? (i := 835) (by decide +kernel), List.mem_of_getElem? (i := 1089) (by decide +kernel), List.mem_of_getElem? (i := 1090) (by decide +kernel)⟩
theorem lw_p28 : lw_okq (⟨"ForfeitBookModel", "doubts", "(I)I"⟩, 48) := ⟨⟨by decide +kernel, by decide +kernel⟩, List.mem_of_getElem? (i := 835) (by decide +kernel), List.mem_of_getElem? (i := 1093) (by decide +kernel), List.mem_of_getElem? (i := 1094) (by decide +kernel)⟩
theorem lw_p29 : lw_okq (⟨"ForfeitBookModel", "put", "(IIIIZ)V"⟩, 48) := ⟨⟨by decide +kernel, by decide +kernel⟩, List.mem_of_getElem? (i := 835) (by decide +kernel), List.mem_of_getElem? (i := 1097) (by decide +kernel), List.mem_of_getElem? (i := 1098) (by decide +kernel)⟩
theorem lw_p30 : lw_okq (⟨"ForfeitBookModel", "deathTells", "(II)I"⟩, 48) := ⟨⟨by decide +kernel, by decide +kernel⟩, List.mem_of_getElem? (i := 835) (by decide +kernel), List.mem_of_getElem? (i := 1109) (by decide +kernel), List.mem_of_getElem? (i := 1110) (by decide +kernel)⟩
theorem lw_p31 : lw_okq (⟨"ForfeitBookModel", "readings", "(I)I"⟩, 48) := ⟨⟨by decide +kernel, by decide +kernel⟩, List.mem_of_getElem? (i := 835) (by decide +kernel), List.mem_of_getElem? (i := 1113) (by decide +kernel), List.mem_of_getElem? (i := 1114) (by decide +kernel)⟩
def lw_privs_2 : List (MethodName × Nat) := [(⟨"ForfeitBook", "ruleBoth", "(IIZI)V"⟩, 13), (⟨"ForfeitBook", "changesThatFit", "(IIII)I"⟩, 13), (⟨"ForfeitBookModel", "meets", "(I)I"⟩, 48), (⟨"ForfeitBookModel", "looked", "(I)I"⟩, 48), (⟨"ForfeitBookModel", "isThing", "(I)Z"⟩, 48), (⟨"ForfeitBookModel", "thingTells", "(II)I"⟩, 48), (⟨"ForfeitBookModel", "topOf", "(I)I"⟩, 48), (⟨"ForfeitBookModel", "priceOf", "(I)I"⟩, 48), (⟨"ForfeitBookModel", "isWithin", "(II)Z"⟩, 48), (⟨"ForfeitBookModel", "ask", "(II)I"⟩, 48), (⟨"ForfeitBookModel", "isDeath", "(I)Z"⟩, 48), (⟨"ForfeitBookModel", "mayBe", "(III)Z"⟩, 48), (⟨"ForfeitBookModel", "doubts", "(I)I"⟩, 48), (⟨"ForfeitBookModel", "put", "(IIIIZ)V"⟩, 48), (⟨"ForfeitBookModel", "deathTells", "(II)I"⟩, 48), (⟨"ForfeitBookModel", "readings", "(I)I"⟩, 48)]
theorem lw_r2 : ∀ q ∈ lw_privs_2, lw_okq q := List.forall_mem_cons.mpr ⟨lw_p16, List.forall_mem_cons.mpr ⟨lw_p17, List.forall_mem_cons.mpr ⟨lw_p18, List.forall_mem_cons.mpr ⟨lw_p19, List.forall_mem_cons.mpr ⟨lw_p20, List.forall_mem_cons.mpr ⟨lw_p21, List.forall_mem_cons.mpr ⟨lw_p22, List.forall_mem_cons.mpr ⟨lw_p23, List.forall_mem_cons.mpr ⟨lw_p24, List.forall_mem_cons.mpr ⟨lw_p25, List.forall_mem_cons.mpr ⟨lw_p26, List.forall_mem_cons.mpr ⟨lw_p27, List.forall_mem_cons.mpr ⟨lw_p28, List.forall_mem_cons.mpr ⟨lw_p29, List.forall_mem_cons.mpr ⟨lw_p30, List.forall_mem_cons.mpr ⟨lw_p31, fun _ h => absurd h List.not_mem_nil⟩⟩⟩⟩⟩⟩⟩⟩⟩⟩⟩⟩⟩⟩⟩⟩
theorem lw_p32 : lw_okq (⟨"ForfeitBookModel", "isReading", "(II)Z"⟩, 48) := ⟨⟨by decide +kernel, by decide +kernel⟩, List.mem_of_getElem? (i := 835) (by decide +kernel), List.mem_of_getElem? (i := 1121) (by decide +kernel), List.mem_of_getElem? (i := 1122) (by decide +kernel)⟩
theorem lw_p33 : lw_okq (⟨"ForfeitBookModel", "lays", "(II)V"⟩, 48) := ⟨⟨by decide +kernel, by decide +kernel⟩, List.mem_of_getElem? (i := 835) (by decide +kernel), List.mem_of_getElem? (i := 1125) (by decide +kernel), List.mem_of_getElem? (i := 1126) (by decide +kernel)⟩
theorem lw_p34 : lw_okq (⟨"ForfeitBookModel", "so", "(I)Z"⟩, 48) := ⟨⟨by decide +kernel, by decide +kernel⟩, List.mem_of_getElem? (i := 835) (by decide +kernel), List.mem_of_getElem? (i := 1132) (by decide +kernel), List.mem_of_getElem? (i := 1133) (by decide +kernel)⟩
theorem lw_p35 : lw_okq (⟨"ForfeitBookModel", "isBeast", "(I)Z"⟩, 48) := ⟨⟨by decide +kernel, by decide +kernel⟩, List.mem_of_getElem? (i := 835) (by decide +kernel), List.mem_of_getElem? (i := 1136) (by decide +kernel), List.mem_of_getElem? (i := 1137) (by decide +kernel)⟩
theorem lw_p36 : lw_okq (⟨"ForfeitBookModel", "moveOn", "(I)V"⟩, 48) := ⟨⟨by decide +kernel, by decide +kernel⟩, List.mem_of_getElem? (i := 835) (by decide +kernel), List.mem_of_getElem? (i := 1140) (by decide +kernel), List.mem_of_getElem? (i := 1141) (by decide +kernel)⟩
theorem lw_p37 : lw_okq (⟨"ForfeitBookModel", "mayMove", "(I)Z"⟩, 48) := ⟨⟨by decide +kernel, by decide +kernel⟩, List.mem_of_getElem? (i := 835) (by decide +kernel), List.mem_of_getElem? (i := 1144) (by decide +kernel), List.mem_of_getElem? (i := 1145) (by decide +kernel)⟩
theorem lw_p38 : lw_okq (⟨"ForfeitBookModel", "blameOn", "(I)V"⟩, 48) := ⟨⟨by decide +kernel, by decide +kernel⟩, List.mem_of_getElem? (i := 835) (by decide +kernel), List.mem_of_getElem? (i := 1148) (by decide +kernel), List.mem_of_getElem? (i := 1149) (by decide +kernel)⟩
theorem lw_p39 : lw_okq (⟨"ForfeitBookModel", "setText", "(IIZI)V"⟩, 48) := ⟨⟨by decide +kernel, by decide +kernel⟩, List.mem_of_getElem? (i := 835) (by decide +kernel), List.mem_of_getElem? (i := 1166) (by decide +kernel), List.mem_of_getElem? (i := 1167) (by decide +kernel)⟩
theorem lw_p40 : lw_okq (⟨"ForfeitBookModel", "forceIn", "(I)I"⟩, 48) := ⟨⟨by decide +kernel, by decide +kernel⟩, List.mem_of_getElem? (i := 835) (by decide +kernel), List.mem_of_getElem? (i := 1174) (by decide +kernel), List.mem_of_getElem? (i := 1175) (by decide +kernel)⟩
theorem lw_p41 : lw_okq (⟨"ForfeitBookModel", "forfeitOf", "(III)I"⟩, 48) := ⟨⟨by decide +kernel, by decide +kernel⟩, List.mem_of_getElem? (i := 835) (by decide +kernel), List.mem_of_getElem? (i := 1182) (by decide +kernel), List.mem_of_getElem? (i := 1183) (by decide +kernel)⟩
theorem lw_p42 : lw_okq (⟨"ForfeitBookModel", "valueOf", "(I)I"⟩, 48) := ⟨⟨by decide +kernel, by decide +kernel⟩, List.mem_of_getElem? (i := 835) (by decide +kernel), List.mem_of_getElem? (i := 1190) (by decide +kernel), List.mem_of_getElem? (i := 1191) (by decide +kernel)⟩
theorem lw_p43 : lw_okq (⟨"ForfeitBookModel", "layDueNow", "(I)V"⟩, 48) := ⟨⟨by decide +kernel, by decide +kernel⟩, List.mem_of_getElem? (i := 835) (by decide +kernel), List.mem_of_getElem? (i := 1202) (by decide +kernel), List.mem_of_getElem? (i := 1203) (by decide +kernel)⟩
theorem lw_p44 : lw_okq (⟨"ForfeitBookModel", "layDue", "(II)V"⟩, 48) := ⟨⟨by decide +kernel, by decide +kernel⟩, List.mem_of_getElem? (i := 835) (by decide +kernel), List.mem_of_getElem? (i := 1206) (by decide +kernel), List.mem_of_getElem? (i := 1207) (by decide +kernel)⟩
theorem lw_p45 : lw_okq (⟨"ForfeitBookModel", "laySets", "(I)V"⟩, 48) := ⟨⟨by decide +kernel, by decide +kernel⟩, List.mem_of_getElem? (i := 835) (by decide +kernel), List.mem_of_getElem? (i := 1214) (by decide +kernel), List.mem_of_getElem? (i := 1215) (by decide +kernel)⟩
theorem lw_p46 : lw_okq (⟨"ForfeitBookModel", "unlikeOf", "(III)I"⟩, 48) := ⟨⟨by decide +kernel, by decide +kernel⟩, List.mem_of_getElem? (i := 835) (by decide +kernel), List.mem_of_getElem? (i := 1218) (by decide +kernel), List.mem_of_getElem? (i := 1219) (by decide +kernel)⟩
theorem lw_p47 : lw_okq (⟨"ForfeitBookModel", "layHabit", "(III)V"⟩, 48) := ⟨⟨by decide +kernel, by decide +kernel⟩, List.mem_of_getElem? (i := 835) (by decide +kernel), List.mem_of_getElem? (i := 1237) (by decide +kernel), List.mem_of_getElem? (i := 1238) (by decide +kernel)⟩
def lw_privs_3 : List (MethodName × Nat) := [(⟨"ForfeitBookModel", "isReading", "(II)Z"⟩, 48), (⟨"ForfeitBookModel", "lays", "(II)V"⟩, 48), (⟨"ForfeitBookModel", "so", "(I)Z"⟩, 48), (⟨"ForfeitBookModel", "isBeast", "(I)Z"⟩, 48), (⟨"ForfeitBookModel", "moveOn", "(I)V"⟩, 48), (⟨"ForfeitBookModel", "mayMove", "(I)Z"⟩, 48), (⟨"ForfeitBookModel", "blameOn", "(I)V"⟩, 48), (⟨"ForfeitBookModel", "setText", "(IIZI)V"⟩, 48), (⟨"ForfeitBookModel", "forceIn", "(I)I"⟩, 48), (⟨"ForfeitBookModel", "forfeitOf", "(III)I"⟩, 48), (⟨"ForfeitBookModel", "valueOf", "(I)I"⟩, 48), (⟨"ForfeitBookModel", "layDueNow", "(I)V"⟩, 48), (⟨"ForfeitBookModel", "layDue", "(II)V"⟩, 48), (⟨"ForfeitBookModel", "laySets", "(I)V"⟩, 48), (⟨"ForfeitBookModel", "unlikeOf", "(III)I"⟩, 48), (⟨"ForfeitBookModel", "layHabit", "(III)V"⟩, 48)]
theorem lw_r3 : ∀ q ∈ lw_privs_3, lw_okq q := List.forall_mem_cons.mpr ⟨lw_p32, List.forall_mem_cons.mpr ⟨lw_p33, List.forall_mem_cons.mpr ⟨lw_p34, List.forall_mem_cons.mpr ⟨lw_p35, List.forall_mem_cons.mpr ⟨lw_p36, List.forall_mem_cons.mpr ⟨lw_p37, List.forall_mem_cons.mpr ⟨lw_p38, List.forall_mem_cons.mpr ⟨lw_p39, List.forall_mem_cons.mpr ⟨lw_p40, List.forall_mem_cons.mpr ⟨lw_p41, List.forall_mem_cons.mpr ⟨lw_p42, List.forall_mem_cons.mpr ⟨lw_p43, List.forall_mem_cons.mpr ⟨lw_p44, List.forall_mem_cons.mpr ⟨lw_p45, List.forall_mem_cons.mpr ⟨lw_p46, List.forall_mem_cons.mpr ⟨lw_p47, fun _ h => absurd h List.not_mem_nil⟩⟩⟩⟩⟩⟩⟩⟩⟩⟩⟩⟩⟩⟩⟩⟩
theorem lw_p48 : lw_okq (⟨"ForfeitBookModel", "waysOf", "(II)I"⟩, 48) := ⟨⟨by decide +kernel, by decide +kernel⟩, List.mem_of_getElem? (i := 835) (by decide +kernel), List.mem_of_getElem? (i := 1241) (by decide +kernel), List.mem_of_getElem? (i := 1242) (by decide +kernel)⟩
theorem lw_p49 : lw_okq (⟨"ForfeitBookModel", "share", "(JJI)I"⟩, 48) := ⟨⟨by decide +kernel, by decide +kernel⟩, List.mem_of_getElem? (i := 835) (by decide +kernel), List.mem_of_getElem? (i := 1245) (by decide +kernel), List.mem_of_getElem? (i := 1246) (by decide +kernel)⟩
theorem lw_p50 : lw_okq (⟨"ForfeitBookModel", "grantFor", "(II)I"⟩, 48) := ⟨⟨by decide +kernel, by decide +kernel⟩, List.mem_of_getElem? (i := 835) (by decide +kernel), List.mem_of_getElem? (i := 1265) (by decide +kernel), List.mem_of_getElem? (i := 1266) (by decide +kernel)⟩
theorem lw_p51 : lw_okq (⟨"ForfeitBookModel", "layChange", "(IZI)V"⟩, 48) := ⟨⟨by decide +kernel, by decide +kernel⟩, List.mem_of_getElem? (i := 835) (by decide +kernel), List.mem_of_getElem? (i := 1277) (by decide +kernel), List.mem_of_getElem? (i := 1278) (by decide +kernel)⟩
theorem lw_p52 : lw_okq (⟨"ForfeitBookModel", "valueOfSort", "(II)I"⟩, 48) := ⟨⟨by decide +kernel, by decide +kernel⟩, List.mem_of_getElem? (i := 835) (by decide +kernel), List.mem_of_getElem? (i := 1289) (by decide +kernel), List.mem_of_getElem? (i := 1290) (by decide +kernel)⟩
theorem lw_p53 : lw_okq (⟨"ForfeitBookModel", "counts", "(I)I"⟩, 48) := ⟨⟨by decide +kernel, by decide +kernel⟩, List.mem_of_getElem? (i := 835) (by decide +kernel), List.mem_of_getElem? (i := 1313) (by decide +kernel), List.mem_of_getElem? (i := 1314) (by decide +kernel)⟩
theorem lw_p54 : lw_okq (⟨"ForfeitBookModel", "mix", "(I)V"⟩, 48) := ⟨⟨by decide +kernel, by decide +kernel⟩, List.mem_of_getElem? (i := 835) (by decide +kernel), List.mem_of_getElem? (i := 1330) (by decide +kernel), List.mem_of_getElem? (i := 1331) (by decide +kernel)⟩
theorem lw_p55 : lw_okq (⟨"ForfeitBookModel", "mixDeath", "(I)V"⟩, 48) := ⟨⟨by decide +kernel, by decide +kernel⟩, List.mem_of_getElem? (i := 835) (by decide +kernel), List.mem_of_getElem? (i := 1335) (by decide +kernel), List.mem_of_getElem? (i := 1336) (by decide +kernel)⟩
def lw_privs_4 : List (MethodName × Nat) := [(⟨"ForfeitBookModel", "waysOf", "(II)I"⟩, 48), (⟨"ForfeitBookModel", "share", "(JJI)I"⟩, 48), (⟨"ForfeitBookModel", "grantFor", "(II)I"⟩, 48), (⟨"ForfeitBookModel", "layChange", "(IZI)V"⟩, 48), (⟨"ForfeitBookModel", "valueOfSort", "(II)I"⟩, 48), (⟨"ForfeitBookModel", "counts", "(I)I"⟩, 48), (⟨"ForfeitBookModel", "mix", "(I)V"⟩, 48), (⟨"ForfeitBookModel", "mixDeath", "(I)V"⟩, 48)]
theorem lw_r4 : ∀ q ∈ lw_privs_4, lw_okq q := List.forall_mem_cons.mpr ⟨lw_p48, List.forall_mem_cons.mpr ⟨lw_p49, List.forall_mem_cons.mpr ⟨lw_p50, List.forall_mem_cons.mpr ⟨lw_p51, List.forall_mem_cons.mpr ⟨lw_p52, List.forall_mem_cons.mpr ⟨lw_p53, List.forall_mem_cons.mpr ⟨lw_p54, List.forall_mem_cons.mpr ⟨lw_p55, fun _ h => absurd h List.not_mem_nil⟩⟩⟩⟩⟩⟩⟩⟩
def lw_privs : List (MethodName × Nat) := lw_privs_1 ++ (lw_privs_2 ++ (lw_privs_3 ++ (lw_privs_4)))
def lw_tbl : List Cond := k2_sels lw_privs ++ tables_1
theorem lw_privs_ok : ∀ q ∈ lw_privs, lw_okq q := by
  show ∀ q ∈ lw_privs_1 ++ (lw_privs_2 ++ (lw_privs_3 ++ (lw_privs_4))), lw_okq q
  exact List.forall_mem_append.mpr ⟨lw_r1, List.forall_mem_append.mpr ⟨lw_r2, List.forall_mem_append.mpr ⟨lw_r3, lw_r4⟩⟩⟩

def RX0 : String := "ForfeitBook$Deaths"
def TX0 : u_T := fun k => match k with
  | 0 => ("ForfeitBook$Deaths", "place", "[I", true)
  | 1 => ("ForfeitBook$Deaths", "year", "[I", true)
  | 2 => ("ForfeitBook$Deaths", "told", "[I", true)
  | 3 => ("ForfeitBook$Deaths", "actCount", "[I", true)
  | 4 => ("ForfeitBook$Deaths", "doubtCount", "[I", true)
  | 5 => ("ForfeitBook$Deaths", "actSort", "[I", true)
  | 6 => ("ForfeitBook$Deaths", "actA", "[I", true)
  | 7 => ("ForfeitBook$Deaths", "actB", "[I", true)
  | 8 => ("ForfeitBook$Deaths", "actSure", "[Z", true)
  | _ => ("ForfeitBook$Deaths", "count", "I", false)
def tyX0 : Nat → FieldType := fun k => match k with
  | 0 => .array .int
  | 1 => .array .int
  | 2 => .array .int
  | 3 => .array .int
  | 4 => .array .int
  | 5 => .array .int
  | 6 => .array .int
  | 7 => .array .int
  | 8 => .array .boolean
  | _ => .int
abbrev wsX00 : List Cond := u_ws RX0 TX0 10
theorem nmX0 : ∀ a, a < 10 → ∀ b, b < 10 → a ≠ b → (TX0 a).2.1 ≠ (TX0 b).2.1 := by decide +kernel
theorem tyX0_ok : ∀ k, k < 10 → parseFieldDescriptor (TX0 k).2.2.1 = some (tyX0 k) := by decide +kernel
abbrev cX0_init : ByteArray := prog_2_method_1_code
def yX0_init : MethodName := ⟨RX0, "<init>", "()V"⟩
abbrev cX0_has : ByteArray := prog_2_method_2_code
def yX0_has : MethodName := ⟨RX0, "has", "(I)Z"⟩
abbrev cX0_hasReading : ByteArray := prog_2_method_3_code
def yX0_hasReading : MethodName := ⟨RX0, "hasReading", "(II)Z"⟩
abbrev cX0_readings : ByteArray := prog_2_method_4_code
def yX0_readings : MethodName := ⟨RX0, "readings", "(I)I"⟩
abbrev cX0_isWithin : ByteArray := prog_2_method_5_code
def yX0_isWithin : MethodName := ⟨RX0, "isWithin", "(III)Z"⟩
abbrev cX0_add : ByteArray := prog_2_method_6_code
def yX0_add : MethodName := ⟨RX0, "add", "(III)I"⟩
abbrev cX0_addAct : ByteArray := prog_2_method_7_code
def yX0_addAct : MethodName := ⟨RX0, "addAct", "(IIIIZ)V"⟩
abbrev cX0_dropActs : ByteArray := prog_2_method_8_code
def yX0_dropActs : MethodName := ⟨RX0, "dropActs", "(I)V"⟩
abbrev cX0_actsInAll : ByteArray := prog_2_method_9_code
def yX0_actsInAll : MethodName := ⟨RX0, "actsInAll", "()I"⟩
abbrev cX0_doubtfulAct : ByteArray := prog_2_method_10_code
def yX0_doubtfulAct : MethodName := ⟨RX0, "doubtfulAct", "(II)I"⟩
abbrev cX0_actsThatWereSo : ByteArray := prog_2_method_11_code
def yX0_actsThatWereSo : MethodName := ⟨RX0, "actsThatWereSo", "(II)I"⟩
abbrev cX0_actors : ByteArray := prog_2_method_12_code
def yX0_actors : MethodName := ⟨RX0, "actors", "(III)I"⟩
abbrev cX0_hit : ByteArray := prog_2_method_13_code
def yX0_hit : MethodName := ⟨RX0, "hit", "(II)I"⟩
abbrev cX0_movedBy : ByteArray := prog_2_method_14_code
def yX0_movedBy : MethodName := ⟨RX0, "movedBy", "(III)I"⟩
abbrev cX0_moversOf : ByteArray := prog_2_method_15_code
def yX0_moversOf : MethodName := ⟨RX0, "moversOf", "(III)I"⟩
abbrev cX0_fact : ByteArray := prog_2_method_16_code
def yX0_fact : MethodName := ⟨RX0, "fact", "(II)I"⟩
abbrev cX0_mixInto : ByteArray := prog_2_method_17_code
def yX0_mixInto : MethodName := ⟨RX0, "mixInto", "(J)J"⟩
def RX1 : String := "ForfeitBook$Grants"
def TX1 : u_T := fun k => match k with
  | 0 => ("ForfeitBook$Grants", "lord", "[I", true)
  | 1 => ("ForfeitBook$Grants", "place", "[I", true)
  | 2 => ("ForfeitBook$Grants", "from", "[I", true)
  | 3 => ("ForfeitBook$Grants", "to", "[I", true)
  | 4 => ("ForfeitBook$Grants", "sorts", "[I", true)
  | 5 => ("ForfeitBook$Grants", "twelfths", "[I", true)
  | _ => ("ForfeitBook$Grants", "count", "I", false)
def tyX1 : Nat → FieldType := fun k => match k with
  | 0 => .array .int
  | 1 => .array .int
  | 2 => .array .int
  | 3 => .array .int
  | 4 => .array .int
  | 5 => .array .int
  | _ => .int
abbrev wsX10 : List Cond := u_ws RX1 TX1 7
theorem nmX1 : ∀ a, a < 7 → ∀ b, b < 7 → a ≠ b → (TX1 a).2.1 ≠ (TX1 b).2.1 := by decide +kernel
theorem tyX1_ok : ∀ k, k < 7 → parseFieldDescriptor (TX1 k).2.2.1 = some (tyX1 k) := by decide +kernel
abbrev cX1_init : ByteArray := prog_3_method_1_code
def yX1_init : MethodName := ⟨RX1, "<init>", "()V"⟩
abbrev cX1_add : ByteArray := prog_3_method_2_code
def yX1_add : MethodName := ⟨RX1, "add", "(IIIIII)V"⟩
abbrev cX1_firstFor : ByteArray := prog_3_method_3_code
def yX1_firstFor : MethodName := ⟨RX1, "firstFor", "(III)I"⟩
abbrev cX1_mixInto : ByteArray := prog_3_method_4_code
def yX1_mixInto : MethodName := ⟨RX1, "mixInto", "(J)J"⟩
def RX2 : String := "ForfeitBook$Inquest"
def TX2 : u_T := fun k => match k with
  | 0 => ("ForfeitBook$Inquest", "things", "LForfeitBook$Things;", true)
  | 1 => ("ForfeitBook$Inquest", "deaths", "LForfeitBook$Deaths;", true)
  | 2 => ("ForfeitBook$Inquest", "moving", "[I", true)
  | 3 => ("ForfeitBook$Inquest", "hit", "[I", true)
  | 4 => ("ForfeitBook$Inquest", "blame", "[I", true)
  | _ => ("ForfeitBook$Inquest", "readings", "I", false)
def tyX2 : Nat → FieldType := fun k => match k with
  | 0 => .object "ForfeitBook$Things"
  | 1 => .object "ForfeitBook$Deaths"
  | 2 => .array .int
  | 3 => .array .int
  | 4 => .array .int
  | _ => .int
abbrev wsX20 : List Cond := u_ws RX2 TX2 6
theorem nmX2 : ∀ a, a < 6 → ∀ b, b < 6 → a ≠ b → (TX2 a).2.1 ≠ (TX2 b).2.1 := by decide +kernel
theorem tyX2_ok : ∀ k, k < 6 → parseFieldDescriptor (TX2 k).2.2.1 = some (tyX2 k) := by decide +kernel
abbrev cX2_init : ByteArray := prog_4_method_1_code
def yX2_init : MethodName := ⟨RX2, "<init>", "(LForfeitBook$Things;LForfeitBook$Deaths;)V"⟩
abbrev cX2_hear : ByteArray := prog_4_method_2_code
def yX2_hear : MethodName := ⟨RX2, "hear", "(III)V"⟩
abbrev cX2_whatMoves : ByteArray := prog_4_method_3_code
def yX2_whatMoves : MethodName := ⟨RX2, "whatMoves", "(II)I"⟩
abbrev cX2_whatIsToBlame : ByteArray := prog_4_method_4_code
def yX2_whatIsToBlame : MethodName := ⟨RX2, "whatIsToBlame", "(IIII)I"⟩
abbrev cX2_falls : ByteArray := prog_4_method_5_code
def yX2_falls : MethodName := ⟨RX2, "falls", "(IIZI)I"⟩
def RX3 : String := "ForfeitBook$Rows"
def TX3 : u_T := fun k => match k with
  | 0 => ("ForfeitBook$Rows", "sizes", "[I", true)
  | _ => ("ForfeitBook$Rows", "places", "[I", true)
def tyX3 : Nat → FieldType := fun k => match k with
  | 0 => .array .int
  | _ => .array .int
abbrev wsX30 : List Cond := u_ws RX3 TX3 2
theorem nmX3 : ∀ a, a < 2 → ∀ b, b < 2 → a ≠ b → (TX3 a).2.1 ≠ (TX3 b).2.1 := by decide +kernel
theorem tyX3_ok : ∀ k, k < 2 → parseFieldDescriptor (TX3 k).2.2.1 = some (tyX3 k) := by decide +kernel
abbrev cX3_init : ByteArray := prog_5_method_1_code
def yX3_init : MethodName := ⟨RX3, "<init>", "()V"⟩
abbrev cX3_isMissing : ByteArray := prog_5_method_2_code
def yX3_isMissing : MethodName := ⟨RX3, "isMissing", "(I)Z"⟩
abbrev cX3_reaches : ByteArray := prog_5_method_3_code
def yX3_reaches : MethodName := ⟨RX3, "reaches", "(III)Z"⟩
abbrev cX3_at : ByteArray := prog_5_method_4_code
def yX3_at : MethodName := ⟨RX3, "at", "(II)I"⟩
abbrev cX3_put : ByteArray := prog_5_method_5_code
def yX3_put : MethodName := ⟨RX3, "put", "(III)V"⟩
abbrev cX3_make : ByteArray := prog_5_method_6_code
def yX3_make : MethodName := ⟨RX3, "make", "(II)V"⟩
abbrev cX3_drop : ByteArray := prog_5_method_7_code
def yX3_drop : MethodName := ⟨RX3, "drop", "(I)V"⟩
abbrev cX3_carry : ByteArray := prog_5_method_8_code
def yX3_carry : MethodName := ⟨RX3, "carry", "(IIIII)V"⟩
abbrev cX3_there : ByteArray := prog_5_method_9_code
def yX3_there : MethodName := ⟨RX3, "there", "()I"⟩
abbrev cX3_mixInto : ByteArray := prog_5_method_10_code
def yX3_mixInto : MethodName := ⟨RX3, "mixInto", "(J)J"⟩
def RX4 : String := "ForfeitBook$Ruling"
def TX4 : u_T := fun k => match k with
  | 0 => ("ForfeitBook$Ruling", "things", "LForfeitBook$Things;", true)
  | 1 => ("ForfeitBook$Ruling", "sets", "[I", true)
  | 2 => ("ForfeitBook$Ruling", "readings", "I", false)
  | 3 => ("ForfeitBook$Ruling", "dueReading", "I", false)
  | _ => ("ForfeitBook$Ruling", "dueValue", "I", false)
def tyX4 : Nat → FieldType := fun k => match k with
  | 0 => .object "ForfeitBook$Things"
  | 1 => .array .int
  | 2 => .int
  | 3 => .int
  | _ => .int
abbrev wsX40 : List Cond := u_ws RX4 TX4 5
theorem nmX4 : ∀ a, a < 5 → ∀ b, b < 5 → a ≠ b → (TX4 a).2.1 ≠ (TX4 b).2.1 := by decide +kernel
theorem tyX4_ok : ∀ k, k < 5 → parseFieldDescriptor (TX4 k).2.2.1 = some (tyX4 k) := by decide +kernel
abbrev cX4_init : ByteArray := prog_6_method_1_code
def yX4_init : MethodName := ⟨RX4, "<init>", "(LForfeitBook$Things;)V"⟩
abbrev cX4_rule : ByteArray := prog_6_method_2_code
def yX4_rule : MethodName := ⟨RX4, "rule", "(LForfeitBook$Inquest;IZI)V"⟩
abbrev cX4_letAllGo : ByteArray := prog_6_method_3_code
def yX4_letAllGo : MethodName := ⟨RX4, "letAllGo", "(LForfeitBook$Inquest;)V"⟩
abbrev cX4_findDue : ByteArray := prog_6_method_4_code
def yX4_findDue : MethodName := ⟨RX4, "findDue", "()V"⟩
abbrev cX4_dueSet : ByteArray := prog_6_method_5_code
def yX4_dueSet : MethodName := ⟨RX4, "dueSet", "()I"⟩
abbrev cX4_inEach : ByteArray := prog_6_method_6_code
def yX4_inEach : MethodName := ⟨RX4, "inEach", "()I"⟩
abbrev cX4_inSome : ByteArray := prog_6_method_7_code
def yX4_inSome : MethodName := ⟨RX4, "inSome", "()I"⟩
abbrev cX4_unlikeSets : ByteArray := prog_6_method_8_code
def yX4_unlikeSets : MethodName := ⟨RX4, "unlikeSets", "(II)I"⟩
abbrev cX4_isNewAt : ByteArray := prog_6_method_9_code
def yX4_isNewAt : MethodName := ⟨RX4, "isNewAt", "(III)Z"⟩
def RX5 : String := "ForfeitBook$Texts"
def TX5 : u_T := fun k => match k with
  | 0 => ("ForfeitBook$Texts", "year", "[I", true)
  | 1 => ("ForfeitBook$Texts", "rule", "[I", true)
  | 2 => ("ForfeitBook$Texts", "stood", "[Z", true)
  | 3 => ("ForfeitBook$Texts", "free", "[I", true)
  | _ => ("ForfeitBook$Texts", "count", "I", false)
def tyX5 : Nat → FieldType := fun k => match k with
  | 0 => .array .int
  | 1 => .array .int
  | 2 => .array .boolean
  | 3 => .array .int
  | _ => .int
abbrev wsX50 : List Cond := u_ws RX5 TX5 5
theorem nmX5 : ∀ a, a < 5 → ∀ b, b < 5 → a ≠ b → (TX5 a).2.1 ≠ (TX5 b).2.1 := by decide +kernel
theorem tyX5_ok : ∀ k, k < 5 → parseFieldDescriptor (TX5 k).2.2.1 = some (tyX5 k) := by decide +kernel
abbrev cX5_init : ByteArray := prog_7_method_1_code
def yX5_init : MethodName := ⟨RX5, "<init>", "()V"⟩
abbrev cX5_has : ByteArray := prog_7_method_2_code
def yX5_has : MethodName := ⟨RX5, "has", "(I)Z"⟩
abbrev cX5_add : ByteArray := prog_7_method_3_code
def yX5_add : MethodName := ⟨RX5, "add", "(IIZI)I"⟩
abbrev cX5_latestBy : ByteArray := prog_7_method_4_code
def yX5_latestBy : MethodName := ⟨RX5, "latestBy", "(I)I"⟩
abbrev cX5_mixInto : ByteArray := prog_7_method_5_code
def yX5_mixInto : MethodName := ⟨RX5, "mixInto", "(J)J"⟩
def RX6 : String := "ForfeitBook$Things"
def TX6 : u_T := fun k => match k with
  | 0 => ("ForfeitBook$Things", "kind", "[I", true)
  | 1 => ("ForfeitBook$Things", "sort", "[I", true)
  | 2 => ("ForfeitBook$Things", "worth", "[I", true)
  | 3 => ("ForfeitBook$Things", "whole", "[I", true)
  | 4 => ("ForfeitBook$Things", "on", "[I", true)
  | 5 => ("ForfeitBook$Things", "top", "[I", true)
  | 6 => ("ForfeitBook$Things", "wholes", "[I", true)
  | 7 => ("ForfeitBook$Things", "price", "[I", true)
  | 8 => ("ForfeitBook$Things", "parts", "[I", true)
  | 9 => ("ForfeitBook$Things", "laden", "[I", true)
  | 10 => ("ForfeitBook$Things", "beasts", "I", false)
  | 11 => ("ForfeitBook$Things", "standing", "I", false)
  | _ => ("ForfeitBook$Things", "count", "I", false)
def tyX6 : Nat → FieldType := fun k => match k with
  | 0 => .array .int
  | 1 => .array .int
  | 2 => .array .int
  | 3 => .array .int
  | 4 => .array .int
  | 5 => .array .int
  | 6 => .array .int
  | 7 => .array .int
  | 8 => .array .int
  | 9 => .array .int
  | 10 => .int
  | 11 => .int
  | _ => .int
abbrev wsX60 : List Cond := u_ws RX6 TX6 13
theorem nmX6 : ∀ a, a < 13 → ∀ b, b < 13 → a ≠ b → (TX6 a).2.1 ≠ (TX6 b).2.1 := by decide +kernel
theorem tyX6_ok : ∀ k, k < 13 → parseFieldDescriptor (TX6 k).2.2.1 = some (tyX6 k) := by decide +kernel
abbrev cX6_init : ByteArray := prog_8_method_1_code
def yX6_init : MethodName := ⟨RX6, "<init>", "()V"⟩
abbrev cX6_has : ByteArray := prog_8_method_2_code
def yX6_has : MethodName := ⟨RX6, "has", "(I)Z"⟩
abbrev cX6_add : ByteArray := prog_8_method_3_code
def yX6_add : MethodName := ⟨RX6, "add", "(IIII)I"⟩
abbrev cX6_isA : ByteArray := prog_8_method_4_code
def yX6_isA : MethodName := ⟨RX6, "isA", "(II)Z"⟩
abbrev cX6_changeWorth : ByteArray := prog_8_method_5_code
def yX6_changeWorth : MethodName := ⟨RX6, "changeWorth", "(II)V"⟩
abbrev cX6_layOn : ByteArray := prog_8_method_6_code
def yX6_layOn : MethodName := ⟨RX6, "layOn", "(II)V"⟩
abbrev cX6_liesBeneath : ByteArray := prog_8_method_7_code
def yX6_liesBeneath : MethodName := ⟨RX6, "liesBeneath", "(II)Z"⟩
abbrev cX6_fact : ByteArray := prog_8_method_8_code
def yX6_fact : MethodName := ⟨RX6, "fact", "(II)I"⟩
abbrev cX6_ofSorts : ByteArray := prog_8_method_9_code
def yX6_ofSorts : MethodName := ⟨RX6, "ofSorts", "(I)I"⟩
abbrev cX6_topsOf : ByteArray := prog_8_method_10_code
def yX6_topsOf : MethodName := ⟨RX6, "topsOf", "(I)I"⟩
abbrev cX6_withoutPartsOf : ByteArray := prog_8_method_11_code
def yX6_withoutPartsOf : MethodName := ⟨RX6, "withoutPartsOf", "(I)I"⟩
abbrev cX6_priceOf : ByteArray := prog_8_method_12_code
def yX6_priceOf : MethodName := ⟨RX6, "priceOf", "(I)I"⟩
abbrev cX6_borneBy : ByteArray := prog_8_method_13_code
def yX6_borneBy : MethodName := ⟨RX6, "borneBy", "(I)I"⟩
abbrev cX6_bearersOf : ByteArray := prog_8_method_14_code
def yX6_bearersOf : MethodName := ⟨RX6, "bearersOf", "(I)I"⟩
abbrev cX6_mixInto : ByteArray := prog_8_method_15_code
def yX6_mixInto : MethodName := ⟨RX6, "mixInto", "(J)J"⟩
def RX7 : String := "ForfeitBook"
def TX7 : u_T := fun k => match k with
  | 0 => ("ForfeitBook", "rows", "LForfeitBook$Rows;", true)
  | 1 => ("ForfeitBook", "things", "LForfeitBook$Things;", true)
  | 2 => ("ForfeitBook", "deaths", "LForfeitBook$Deaths;", true)
  | 3 => ("ForfeitBook", "texts", "LForfeitBook$Texts;", true)
  | 4 => ("ForfeitBook", "grants", "LForfeitBook$Grants;", true)
  | 5 => ("ForfeitBook", "inquest", "LForfeitBook$Inquest;", true)
  | 6 => ("ForfeitBook", "now", "LForfeitBook$Ruling;", true)
  | 7 => ("ForfeitBook", "changed", "LForfeitBook$Ruling;", true)
  | 8 => ("ForfeitBook", "findingCounts", "[I", true)
  | 9 => ("ForfeitBook", "latestFinding", "I", false)
  | 10 => ("ForfeitBook", "lastTold", "I", false)
  | 11 => ("ForfeitBook", "upperNumber", "J", false)
  | _ => ("ForfeitBook", "lowerNumber", "J", false)
def tyX7 : Nat → FieldType := fun k => match k with
  | 0 => .object "ForfeitBook$Rows"
  | 1 => .object "ForfeitBook$Things"
  | 2 => .object "ForfeitBook$Deaths"
  | 3 => .object "ForfeitBook$Texts"
  | 4 => .object "ForfeitBook$Grants"
  | 5 => .object "ForfeitBook$Inquest"
  | 6 => .object "ForfeitBook$Ruling"
  | 7 => .object "ForfeitBook$Ruling"
  | 8 => .array .int
  | 9 => .int
  | 10 => .int
  | 11 => .long
  | _ => .long
abbrev wsX70 : List Cond := u_ws RX7 TX7 13
theorem nmX7 : ∀ a, a < 13 → ∀ b, b < 13 → a ≠ b → (TX7 a).2.1 ≠ (TX7 b).2.1 := by decide +kernel
theorem tyX7_ok : ∀ k, k < 13 → parseFieldDescriptor (TX7 k).2.2.1 = some (tyX7 k) := by decide +kernel
abbrev cX7_init : ByteArray := prog_1_method_1_code
def yX7_init : MethodName := ⟨RX7, "<init>", "()V"⟩
abbrev cX7_row : ByteArray := prog_1_method_2_code
def yX7_row : MethodName := ⟨RX7, "row", "(II)I"⟩
abbrev cX7_lay : ByteArray := prog_1_method_3_code
def yX7_lay : MethodName := ⟨RX7, "lay", "(III)I"⟩
abbrev cX7_tear : ByteArray := prog_1_method_4_code
def yX7_tear : MethodName := ⟨RX7, "tear", "(I)I"⟩
abbrev cX7_copy : ByteArray := prog_1_method_5_code
def yX7_copy : MethodName := ⟨RX7, "copy", "(IIIII)I"⟩
abbrev cX7_thing : ByteArray := prog_1_method_6_code
def yX7_thing : MethodName := ⟨RX7, "thing", "(IIII)I"⟩
abbrev cX7_on : ByteArray := prog_1_method_7_code
def yX7_on : MethodName := ⟨RX7, "on", "(II)I"⟩
abbrev cX7_told : ByteArray := prog_1_method_8_code
def yX7_told : MethodName := ⟨RX7, "told", "(II)I"⟩
abbrev cX7_mark : ByteArray := prog_1_method_9_code
def yX7_mark : MethodName := ⟨RX7, "mark", "(II)I"⟩
abbrev cX7_markedIn : ByteArray := prog_1_method_10_code
def yX7_markedIn : MethodName := ⟨RX7, "markedIn", "(II)I"⟩
abbrev cX7_worth : ByteArray := prog_1_method_11_code
def yX7_worth : MethodName := ⟨RX7, "worth", "(II)I"⟩
abbrev cX7_mean : ByteArray := prog_1_method_12_code
def yX7_mean : MethodName := ⟨RX7, "mean", "(I)I"⟩
abbrev cX7_death : ByteArray := prog_1_method_13_code
def yX7_death : MethodName := ⟨RX7, "death", "(III)I"⟩
abbrev cX7_act : ByteArray := prog_1_method_14_code
def yX7_act : MethodName := ⟨RX7, "act", "(IIIIZ)I"⟩
abbrev cX7_acts : ByteArray := prog_1_method_15_code
def yX7_acts : MethodName := ⟨RX7, "acts", "(II)I"⟩
abbrev cX7_holdsActs : ByteArray := prog_1_method_16_code
def yX7_holdsActs : MethodName := ⟨RX7, "holdsActs", "(I)Z"⟩
abbrev cX7_isAct : ByteArray := prog_1_method_17_code
def yX7_isAct : MethodName := ⟨RX7, "isAct", "(III)Z"⟩
abbrev cX7_deathTold : ByteArray := prog_1_method_18_code
def yX7_deathTold : MethodName := ⟨RX7, "deathTold", "(II)I"⟩
abbrev cX7_moving : ByteArray := prog_1_method_19_code
def yX7_moving : MethodName := ⟨RX7, "moving", "(II)I"⟩
abbrev cX7_blame : ByteArray := prog_1_method_20_code
def yX7_blame : MethodName := ⟨RX7, "blame", "(II)I"⟩
abbrev cX7_text : ByteArray := prog_1_method_21_code
def yX7_text : MethodName := ⟨RX7, "text", "(IIZI)I"⟩
abbrev cX7_inForce : ByteArray := prog_1_method_22_code
def yX7_inForce : MethodName := ⟨RX7, "inForce", "(I)I"⟩
abbrev cX7_forfeit : ByteArray := prog_1_method_23_code
def yX7_forfeit : MethodName := ⟨RX7, "forfeit", "(III)I"⟩
abbrev cX7_value : ByteArray := prog_1_method_24_code
def yX7_value : MethodName := ⟨RX7, "value", "(II)I"⟩
abbrev cX7_sure : ByteArray := prog_1_method_25_code
def yX7_sure : MethodName := ⟨RX7, "sure", "(IZ)I"⟩
abbrev cX7_due : ByteArray := prog_1_method_26_code
def yX7_due : MethodName := ⟨RX7, "due", "(I)I"⟩
abbrev cX7_unlike : ByteArray := prog_1_method_27_code
def yX7_unlike : MethodName := ⟨RX7, "unlike", "(I)I"⟩
abbrev cX7_settle : ByteArray := prog_1_method_28_code
def yX7_settle : MethodName := ⟨RX7, "settle", "(I)I"⟩
abbrev cX7_ruleNow : ByteArray := prog_1_method_29_code
def yX7_ruleNow : MethodName := ⟨RX7, "ruleNow", "(I)V"⟩
abbrev cX7_jury : ByteArray := prog_1_method_30_code
def yX7_jury : MethodName := ⟨RX7, "jury", "(II)I"⟩
abbrev cX7_habit : ByteArray := prog_1_method_31_code
def yX7_habit : MethodName := ⟨RX7, "habit", "(III)I"⟩
abbrev cX7_worstPlace : ByteArray := prog_1_method_32_code
def yX7_worstPlace : MethodName := ⟨RX7, "worstPlace", "(II)I"⟩
abbrev cX7_chanceOf : ByteArray := prog_1_method_33_code
def yX7_chanceOf : MethodName := ⟨RX7, "chanceOf", "(III)I"⟩
abbrev cX7_waysToFall : ByteArray := prog_1_method_34_code
def yX7_waysToFall : MethodName := ⟨RX7, "waysToFall", "(II)I"⟩
abbrev cX7_shortfall : ByteArray := prog_1_method_35_code
def yX7_shortfall : MethodName := ⟨RX7, "shortfall", "(II)I"⟩
abbrev cX7_grant : ByteArray := prog_1_method_36_code
def yX7_grant : MethodName := ⟨RX7, "grant", "(IIIIII)I"⟩
abbrev cX7_taker : ByteArray := prog_1_method_37_code
def yX7_taker : MethodName := ⟨RX7, "taker", "(II)I"⟩
abbrev cX7_takes : ByteArray := prog_1_method_38_code
def yX7_takes : MethodName := ⟨RX7, "takes", "(III)I"⟩
abbrev cX7_takenOf : ByteArray := prog_1_method_39_code
def yX7_takenOf : MethodName := ⟨RX7, "takenOf", "(II)I"⟩
abbrev cX7_shareOf : ByteArray := prog_1_method_40_code
def yX7_shareOf : MethodName := ⟨RX7, "shareOf", "(III)I"⟩
abbrev cX7_grantOver : ByteArray := prog_1_method_41_code
def yX7_grantOver : MethodName := ⟨RX7, "grantOver", "(II)I"⟩
abbrev cX7_otherwise : ByteArray := prog_1_method_42_code
def yX7_otherwise : MethodName := ⟨RX7, "otherwise", "(IZI)I"⟩
abbrev cX7_freed : ByteArray := prog_1_method_43_code
def yX7_freed : MethodName := ⟨RX7, "freed", "(IZI)I"⟩
abbrev cX7_shift : ByteArray := prog_1_method_44_code
def yX7_shift : MethodName := ⟨RX7, "shift", "(IZII)I"⟩
abbrev cX7_leastChange : ByteArray := prog_1_method_45_code
def yX7_leastChange : MethodName := ⟨RX7, "leastChange", "(II)I"⟩
abbrev cX7_changesThatFit : ByteArray := prog_1_method_46_code
def yX7_changesThatFit : MethodName := ⟨RX7, "changesThatFit", "(IIII)I"⟩
abbrev cX7_ruleOfChange : ByteArray := prog_1_method_47_code
def yX7_ruleOfChange : MethodName := ⟨RX7, "ruleOfChange", "(I)I"⟩
abbrev cX7_stoodOfChange : ByteArray := prog_1_method_48_code
def yX7_stoodOfChange : MethodName := ⟨RX7, "stoodOfChange", "(I)Z"⟩
abbrev cX7_withOfChange : ByteArray := prog_1_method_49_code
def yX7_withOfChange : MethodName := ⟨RX7, "withOfChange", "(I)I"⟩
abbrev cX7_ruleBoth : ByteArray := prog_1_method_50_code
def yX7_ruleBoth : MethodName := ⟨RX7, "ruleBoth", "(IIZI)V"⟩
abbrev cX7_asked : ByteArray := prog_1_method_51_code
def yX7_asked : MethodName := ⟨RX7, "asked", "()I"⟩
abbrev cX7_upper : ByteArray := prog_1_method_52_code
def yX7_upper : MethodName := ⟨RX7, "upper", "()J"⟩
abbrev cX7_lower : ByteArray := prog_1_method_53_code
def yX7_lower : MethodName := ⟨RX7, "lower", "()J"⟩
abbrev cX7_count : ByteArray := prog_1_method_54_code
def yX7_count : MethodName := ⟨RX7, "count", "(I)I"⟩
abbrev cX7_finding : ByteArray := prog_1_method_55_code
def yX7_finding : MethodName := ⟨RX7, "finding", "()I"⟩
abbrev cX7_findings : ByteArray := prog_1_method_56_code
def yX7_findings : MethodName := ⟨RX7, "findings", "(I)I"⟩
abbrev cX7_digest : ByteArray := prog_1_method_57_code
def yX7_digest : MethodName := ⟨RX7, "digest", "()J"⟩
abbrev cX7_found : ByteArray := prog_1_method_58_code
def yX7_found : MethodName := ⟨RX7, "found", "(I)I"⟩
abbrev cX7_tell : ByteArray := prog_1_method_59_code
def yX7_tell : MethodName := ⟨RX7, "tell", "(II)I"⟩
abbrev cX7_tellSet : ByteArray := prog_1_method_60_code
def yX7_tellSet : MethodName := ⟨RX7, "tellSet", "(I)I"⟩
abbrev cX7_tellFraction : ByteArray := prog_1_method_61_code
def yX7_tellFraction : MethodName := ⟨RX7, "tellFraction", "(II)V"⟩
abbrev cX7_isBetween : ByteArray := prog_1_method_62_code
def yX7_isBetween : MethodName := ⟨RX7, "isBetween", "(III)Z"⟩
abbrev cX7_isBelow : ByteArray := prog_1_method_63_code
def yX7_isBelow : MethodName := ⟨RX7, "isBelow", "(II)Z"⟩
abbrev cX7_isYear : ByteArray := prog_1_method_64_code
def yX7_isYear : MethodName := ⟨RX7, "isYear", "(I)Z"⟩
abbrev cX7_areYears : ByteArray := prog_1_method_65_code
def yX7_areYears : MethodName := ⟨RX7, "areYears", "(II)Z"⟩
abbrev cX7_isToldWorth : ByteArray := prog_1_method_66_code
def yX7_isToldWorth : MethodName := ⟨RX7, "isToldWorth", "(I)Z"⟩
abbrev cX7_areSorts : ByteArray := prog_1_method_67_code
def yX7_areSorts : MethodName := ⟨RX7, "areSorts", "(I)Z"⟩
abbrev cX7_isLaw : ByteArray := prog_1_method_68_code
def yX7_isLaw : MethodName := ⟨RX7, "isLaw", "(II)Z"⟩
abbrev cX7_isIn : ByteArray := prog_1_method_69_code
def yX7_isIn : MethodName := ⟨RX7, "isIn", "(II)Z"⟩
abbrev cX7_bitOf : ByteArray := prog_1_method_70_code
def yX7_bitOf : MethodName := ⟨RX7, "bitOf", "(I)I"⟩
abbrev cX7_mixed : ByteArray := prog_1_method_71_code
def yX7_mixed : MethodName := ⟨RX7, "mixed", "(JJ)J"⟩
def RX8 : String := "ForfeitBookModel"
def TX8 : u_T := fun k => match k with
  | 0 => ("ForfeitBookModel", "finding", "I", false)
  | 1 => ("ForfeitBookModel", "findings", "[I", true)
  | 2 => ("ForfeitBookModel", "asked", "I", false)
  | 3 => ("ForfeitBookModel", "upper", "J", false)
  | 4 => ("ForfeitBookModel", "lower", "J", false)
  | 5 => ("ForfeitBookModel", "sizes", "[I", true)
  | 6 => ("ForfeitBookModel", "rows", "[I", true)
  | 7 => ("ForfeitBookModel", "moving", "[I", true)
  | 8 => ("ForfeitBookModel", "things", "I", false)
  | 9 => ("ForfeitBookModel", "kinds", "[I", true)
  | 10 => ("ForfeitBookModel", "sorts", "[I", true)
  | 11 => ("ForfeitBookModel", "worths", "[I", true)
  | 12 => ("ForfeitBookModel", "wholes", "[I", true)
  | 13 => ("ForfeitBookModel", "ons", "[I", true)
  | 14 => ("ForfeitBookModel", "deaths", "I", false)
  | 15 => ("ForfeitBookModel", "places", "[I", true)
  | 16 => ("ForfeitBookModel", "years", "[I", true)
  | 17 => ("ForfeitBookModel", "tolds", "[I", true)
  | 18 => ("ForfeitBookModel", "actMany", "[I", true)
  | 19 => ("ForfeitBookModel", "actSort", "[I", true)
  | 20 => ("ForfeitBookModel", "actA", "[I", true)
  | 21 => ("ForfeitBookModel", "actB", "[I", true)
  | 22 => ("ForfeitBookModel", "isSure", "[Z", true)
  | 23 => ("ForfeitBookModel", "wasSo", "I", false)
  | 24 => ("ForfeitBookModel", "moved", "I", false)
  | 25 => ("ForfeitBookModel", "hit", "I", false)
  | 26 => ("ForfeitBookModel", "blamed", "I", false)
  | 27 => ("ForfeitBookModel", "texts", "I", false)
  | 28 => ("ForfeitBookModel", "textYear", "[I", true)
  | 29 => ("ForfeitBookModel", "textRule", "[I", true)
  | 30 => ("ForfeitBookModel", "textStood", "[Z", true)
  | 31 => ("ForfeitBookModel", "textFree", "[I", true)
  | 32 => ("ForfeitBookModel", "dueReading", "I", false)
  | 33 => ("ForfeitBookModel", "dueSet", "I", false)
  | 34 => ("ForfeitBookModel", "dueValue", "I", false)
  | 35 => ("ForfeitBookModel", "sets", "[I", true)
  | 36 => ("ForfeitBookModel", "throwsMany", "I", false)
  | 37 => ("ForfeitBookModel", "heads", "I", false)
  | 38 => ("ForfeitBookModel", "grants", "I", false)
  | 39 => ("ForfeitBookModel", "grantLord", "[I", true)
  | 40 => ("ForfeitBookModel", "grantPlace", "[I", true)
  | 41 => ("ForfeitBookModel", "grantFrom", "[I", true)
  | 42 => ("ForfeitBookModel", "grantTo", "[I", true)
  | 43 => ("ForfeitBookModel", "grantSorts", "[I", true)
  | 44 => ("ForfeitBookModel", "grantParts", "[I", true)
  | 45 => ("ForfeitBookModel", "otherOnes", "I", false)
  | 46 => ("ForfeitBookModel", "freedOnes", "I", false)
  | _ => ("ForfeitBookModel", "h", "J", false)
def tyX8 : Nat → FieldType := fun k => match k with
  | 0 => .int
  | 1 => .array .int
  | 2 => .int
  | 3 => .long
  | 4 => .long
  | 5 => .array .int
  | 6 => .array .int
  | 7 => .array .int
  | 8 => .int
  | 9 => .array .int
  | 10 => .array .int
  | 11 => .array .int
  | 12 => .array .int
  | 13 => .array .int
  | 14 => .int
  | 15 => .array .int
  | 16 => .array .int
  | 17 => .array .int
  | 18 => .array .int
  | 19 => .array .int
  | 20 => .array .int
  | 21 => .array .int
  | 22 => .array .boolean
  | 23 => .int
  | 24 => .int
  | 25 => .int
  | 26 => .int
  | 27 => .int
  | 28 => .array .int
  | 29 => .array .int
  | 30 => .array .boolean
  | 31 => .array .int
  | 32 => .int
  | 33 => .int
  | 34 => .int
  | 35 => .array .int
  | 36 => .int
  | 37 => .int
  | 38 => .int
  | 39 => .array .int
  | 40 => .array .int
  | 41 => .array .int
  | 42 => .array .int
  | 43 => .array .int
  | 44 => .array .int
  | 45 => .int
  | 46 => .int
  | _ => .long
abbrev wsX80 : List Cond := u_ws RX8 TX8 48
theorem nmX8 : ∀ a, a < 48 → ∀ b, b < 48 → a ≠ b → (TX8 a).2.1 ≠ (TX8 b).2.1 := by decide +kernel
theorem tyX8_ok : ∀ k, k < 48 → parseFieldDescriptor (TX8 k).2.2.1 = some (tyX8 k) := by decide +kernel
abbrev cX8_init : ByteArray := prog_10_method_1_code
def yX8_init : MethodName := ⟨RX8, "<init>", "()V"⟩
abbrev cX8_in : ByteArray := prog_10_method_3_code
def yX8_in : MethodName := ⟨RX8, "in", "(III)Z"⟩
abbrev cX8_meets : ByteArray := prog_10_method_4_code
def yX8_meets : MethodName := ⟨RX8, "meets", "(I)I"⟩
abbrev cX8_ask : ByteArray := prog_10_method_5_code
def yX8_ask : MethodName := ⟨RX8, "ask", "(II)I"⟩
abbrev cX8_share : ByteArray := prog_10_method_6_code
def yX8_share : MethodName := ⟨RX8, "share", "(JJI)I"⟩
abbrev cX8_bits : ByteArray := prog_10_method_7_code
def yX8_bits : MethodName := ⟨RX8, "bits", "(I)I"⟩
abbrev cX8_has : ByteArray := prog_10_method_8_code
def yX8_has : MethodName := ⟨RX8, "has", "(II)Z"⟩
abbrev cX8_isRow : ByteArray := prog_10_method_9_code
def yX8_isRow : MethodName := ⟨RX8, "isRow", "(I)Z"⟩
abbrev cX8_looked : ByteArray := prog_10_method_10_code
def yX8_looked : MethodName := ⟨RX8, "looked", "(I)I"⟩
abbrev cX8_row : ByteArray := prog_10_method_11_code
def yX8_row : MethodName := ⟨RX8, "row", "(II)I"⟩
abbrev cX8_lay : ByteArray := prog_10_method_12_code
def yX8_lay : MethodName := ⟨RX8, "lay", "(III)I"⟩
abbrev cX8_tear : ByteArray := prog_10_method_13_code
def yX8_tear : MethodName := ⟨RX8, "tear", "(I)I"⟩
abbrev cX8_copy : ByteArray := prog_10_method_14_code
def yX8_copy : MethodName := ⟨RX8, "copy", "(IIIII)I"⟩
abbrev cX8_isThing : ByteArray := prog_10_method_15_code
def yX8_isThing : MethodName := ⟨RX8, "isThing", "(I)Z"⟩
abbrev cX8_isSort : ByteArray := prog_10_method_16_code
def yX8_isSort : MethodName := ⟨RX8, "isSort", "(I)Z"⟩
abbrev cX8_thing : ByteArray := prog_10_method_17_code
def yX8_thing : MethodName := ⟨RX8, "thing", "(IIII)I"⟩
abbrev cX8_on : ByteArray := prog_10_method_18_code
def yX8_on : MethodName := ⟨RX8, "on", "(II)I"⟩
abbrev cX8_topOf : ByteArray := prog_10_method_19_code
def yX8_topOf : MethodName := ⟨RX8, "topOf", "(I)I"⟩
abbrev cX8_isWithin : ByteArray := prog_10_method_20_code
def yX8_isWithin : MethodName := ⟨RX8, "isWithin", "(II)Z"⟩
abbrev cX8_priceOf : ByteArray := prog_10_method_21_code
def yX8_priceOf : MethodName := ⟨RX8, "priceOf", "(I)I"⟩
abbrev cX8_thingTells : ByteArray := prog_10_method_22_code
def yX8_thingTells : MethodName := ⟨RX8, "thingTells", "(II)I"⟩
abbrev cX8_told : ByteArray := prog_10_method_23_code
def yX8_told : MethodName := ⟨RX8, "told", "(II)I"⟩
abbrev cX8_isBeast : ByteArray := prog_10_method_24_code
def yX8_isBeast : MethodName := ⟨RX8, "isBeast", "(I)Z"⟩
abbrev cX8_mark : ByteArray := prog_10_method_25_code
def yX8_mark : MethodName := ⟨RX8, "mark", "(II)I"⟩
abbrev cX8_worth : ByteArray := prog_10_method_26_code
def yX8_worth : MethodName := ⟨RX8, "worth", "(II)I"⟩
abbrev cX8_mean : ByteArray := prog_10_method_27_code
def yX8_mean : MethodName := ⟨RX8, "mean", "(I)I"⟩
abbrev cX8_isDeath : ByteArray := prog_10_method_28_code
def yX8_isDeath : MethodName := ⟨RX8, "isDeath", "(I)Z"⟩
abbrev cX8_isPlace : ByteArray := prog_10_method_29_code
def yX8_isPlace : MethodName := ⟨RX8, "isPlace", "(I)Z"⟩
abbrev cX8_isYear : ByteArray := prog_10_method_30_code
def yX8_isYear : MethodName := ⟨RX8, "isYear", "(I)Z"⟩
abbrev cX8_areYears : ByteArray := prog_10_method_31_code
def yX8_areYears : MethodName := ⟨RX8, "areYears", "(II)Z"⟩
abbrev cX8_isTold : ByteArray := prog_10_method_32_code
def yX8_isTold : MethodName := ⟨RX8, "isTold", "(I)Z"⟩
abbrev cX8_death : ByteArray := prog_10_method_33_code
def yX8_death : MethodName := ⟨RX8, "death", "(III)I"⟩
abbrev cX8_doubts : ByteArray := prog_10_method_34_code
def yX8_doubts : MethodName := ⟨RX8, "doubts", "(I)I"⟩
abbrev cX8_mayBe : ByteArray := prog_10_method_35_code
def yX8_mayBe : MethodName := ⟨RX8, "mayBe", "(III)Z"⟩
abbrev cX8_put : ByteArray := prog_10_method_36_code
def yX8_put : MethodName := ⟨RX8, "put", "(IIIIZ)V"⟩
abbrev cX8_act : ByteArray := prog_10_method_37_code
def yX8_act : MethodName := ⟨RX8, "act", "(IIIIZ)I"⟩
abbrev cX8_acts : ByteArray := prog_10_method_38_code
def yX8_acts : MethodName := ⟨RX8, "acts", "(II)I"⟩
abbrev cX8_readings : ByteArray := prog_10_method_39_code
def yX8_readings : MethodName := ⟨RX8, "readings", "(I)I"⟩
abbrev cX8_deathTells : ByteArray := prog_10_method_40_code
def yX8_deathTells : MethodName := ⟨RX8, "deathTells", "(II)I"⟩
abbrev cX8_deathTold : ByteArray := prog_10_method_41_code
def yX8_deathTold : MethodName := ⟨RX8, "deathTold", "(II)I"⟩
abbrev cX8_so : ByteArray := prog_10_method_42_code
def yX8_so : MethodName := ⟨RX8, "so", "(I)Z"⟩
abbrev cX8_lays : ByteArray := prog_10_method_43_code
def yX8_lays : MethodName := ⟨RX8, "lays", "(II)V"⟩
abbrev cX8_mayMove : ByteArray := prog_10_method_44_code
def yX8_mayMove : MethodName := ⟨RX8, "mayMove", "(I)Z"⟩
abbrev cX8_moveOn : ByteArray := prog_10_method_45_code
def yX8_moveOn : MethodName := ⟨RX8, "moveOn", "(I)V"⟩
abbrev cX8_blameOn : ByteArray := prog_10_method_46_code
def yX8_blameOn : MethodName := ⟨RX8, "blameOn", "(I)V"⟩
abbrev cX8_isReading : ByteArray := prog_10_method_47_code
def yX8_isReading : MethodName := ⟨RX8, "isReading", "(II)Z"⟩
abbrev cX8_moving : ByteArray := prog_10_method_48_code
def yX8_moving : MethodName := ⟨RX8, "moving", "(II)I"⟩
abbrev cX8_blame : ByteArray := prog_10_method_49_code
def yX8_blame : MethodName := ⟨RX8, "blame", "(II)I"⟩
abbrev cX8_isRule : ByteArray := prog_10_method_50_code
def yX8_isRule : MethodName := ⟨RX8, "isRule", "(II)Z"⟩
abbrev cX8_text : ByteArray := prog_10_method_51_code
def yX8_text : MethodName := ⟨RX8, "text", "(IIZI)I"⟩
abbrev cX8_setText : ByteArray := prog_10_method_52_code
def yX8_setText : MethodName := ⟨RX8, "setText", "(IIZI)V"⟩
abbrev cX8_forceIn : ByteArray := prog_10_method_53_code
def yX8_forceIn : MethodName := ⟨RX8, "forceIn", "(I)I"⟩
abbrev cX8_inForce : ByteArray := prog_10_method_54_code
def yX8_inForce : MethodName := ⟨RX8, "inForce", "(I)I"⟩
abbrev cX8_forfeitOf : ByteArray := prog_10_method_55_code
def yX8_forfeitOf : MethodName := ⟨RX8, "forfeitOf", "(III)I"⟩
abbrev cX8_valueOf : ByteArray := prog_10_method_56_code
def yX8_valueOf : MethodName := ⟨RX8, "valueOf", "(I)I"⟩
abbrev cX8_forfeit : ByteArray := prog_10_method_57_code
def yX8_forfeit : MethodName := ⟨RX8, "forfeit", "(III)I"⟩
abbrev cX8_value : ByteArray := prog_10_method_58_code
def yX8_value : MethodName := ⟨RX8, "value", "(II)I"⟩
abbrev cX8_sure : ByteArray := prog_10_method_59_code
def yX8_sure : MethodName := ⟨RX8, "sure", "(IZ)I"⟩
abbrev cX8_layDue : ByteArray := prog_10_method_60_code
def yX8_layDue : MethodName := ⟨RX8, "layDue", "(II)V"⟩
abbrev cX8_layDueNow : ByteArray := prog_10_method_61_code
def yX8_layDueNow : MethodName := ⟨RX8, "layDueNow", "(I)V"⟩
abbrev cX8_due : ByteArray := prog_10_method_62_code
def yX8_due : MethodName := ⟨RX8, "due", "(I)I"⟩
abbrev cX8_laySets : ByteArray := prog_10_method_63_code
def yX8_laySets : MethodName := ⟨RX8, "laySets", "(I)V"⟩
abbrev cX8_unlikeOf : ByteArray := prog_10_method_64_code
def yX8_unlikeOf : MethodName := ⟨RX8, "unlikeOf", "(III)I"⟩
abbrev cX8_unlike : ByteArray := prog_10_method_65_code
def yX8_unlike : MethodName := ⟨RX8, "unlike", "(I)I"⟩
abbrev cX8_settle : ByteArray := prog_10_method_66_code
def yX8_settle : MethodName := ⟨RX8, "settle", "(I)I"⟩
abbrev cX8_jury : ByteArray := prog_10_method_67_code
def yX8_jury : MethodName := ⟨RX8, "jury", "(II)I"⟩
abbrev cX8_layHabit : ByteArray := prog_10_method_68_code
def yX8_layHabit : MethodName := ⟨RX8, "layHabit", "(III)V"⟩
abbrev cX8_waysOf : ByteArray := prog_10_method_69_code
def yX8_waysOf : MethodName := ⟨RX8, "waysOf", "(II)I"⟩
abbrev cX8_habit : ByteArray := prog_10_method_70_code
def yX8_habit : MethodName := ⟨RX8, "habit", "(III)I"⟩
abbrev cX8_worstPlace : ByteArray := prog_10_method_71_code
def yX8_worstPlace : MethodName := ⟨RX8, "worstPlace", "(II)I"⟩
abbrev cX8_shortfall : ByteArray := prog_10_method_72_code
def yX8_shortfall : MethodName := ⟨RX8, "shortfall", "(II)I"⟩
abbrev cX8_grant : ByteArray := prog_10_method_73_code
def yX8_grant : MethodName := ⟨RX8, "grant", "(IIIIII)I"⟩
abbrev cX8_grantFor : ByteArray := prog_10_method_74_code
def yX8_grantFor : MethodName := ⟨RX8, "grantFor", "(II)I"⟩
abbrev cX8_taker : ByteArray := prog_10_method_75_code
def yX8_taker : MethodName := ⟨RX8, "taker", "(II)I"⟩
abbrev cX8_takes : ByteArray := prog_10_method_76_code
def yX8_takes : MethodName := ⟨RX8, "takes", "(III)I"⟩
abbrev cX8_layChange : ByteArray := prog_10_method_77_code
def yX8_layChange : MethodName := ⟨RX8, "layChange", "(IZI)V"⟩
abbrev cX8_otherwise : ByteArray := prog_10_method_78_code
def yX8_otherwise : MethodName := ⟨RX8, "otherwise", "(IZI)I"⟩
abbrev cX8_freed : ByteArray := prog_10_method_79_code
def yX8_freed : MethodName := ⟨RX8, "freed", "(IZI)I"⟩
abbrev cX8_valueOfSort : ByteArray := prog_10_method_80_code
def yX8_valueOfSort : MethodName := ⟨RX8, "valueOfSort", "(II)I"⟩
abbrev cX8_shift : ByteArray := prog_10_method_81_code
def yX8_shift : MethodName := ⟨RX8, "shift", "(IZII)I"⟩
abbrev cX8_leastChange : ByteArray := prog_10_method_82_code
def yX8_leastChange : MethodName := ⟨RX8, "leastChange", "(II)I"⟩
abbrev cX8_asked : ByteArray := prog_10_method_83_code
def yX8_asked : MethodName := ⟨RX8, "asked", "()I"⟩
abbrev cX8_upper : ByteArray := prog_10_method_84_code
def yX8_upper : MethodName := ⟨RX8, "upper", "()J"⟩
abbrev cX8_lower : ByteArray := prog_10_method_85_code
def yX8_lower : MethodName := ⟨RX8, "lower", "()J"⟩
abbrev cX8_counts : ByteArray := prog_10_method_86_code
def yX8_counts : MethodName := ⟨RX8, "counts", "(I)I"⟩
abbrev cX8_count : ByteArray := prog_10_method_87_code
def yX8_count : MethodName := ⟨RX8, "count", "(I)I"⟩
abbrev cX8_finding : ByteArray := prog_10_method_88_code
def yX8_finding : MethodName := ⟨RX8, "finding", "()I"⟩
abbrev cX8_findings : ByteArray := prog_10_method_89_code
def yX8_findings : MethodName := ⟨RX8, "findings", "(I)I"⟩
abbrev cX8_mix : ByteArray := prog_10_method_90_code
def yX8_mix : MethodName := ⟨RX8, "mix", "(I)V"⟩
abbrev cX8_mixDeath : ByteArray := prog_10_method_91_code
def yX8_mixDeath : MethodName := ⟨RX8, "mixDeath", "(I)V"⟩
abbrev cX8_digest : ByteArray := prog_10_method_92_code
def yX8_digest : MethodName := ⟨RX8, "digest", "()J"⟩
def RJ6 : String := "java/lang/Integer"
def TJ6 : u_T := fun k => match k with
  | _ => ("", "", "", false)
def tyJ6 : Nat → FieldType := fun k => match k with
  | _ => .int
abbrev wsJ60 : List Cond := u_ws RJ6 TJ6 0
theorem nmJ6 : ∀ a, a < 0 → ∀ b, b < 0 → a ≠ b → (TJ6 a).2.1 ≠ (TJ6 b).2.1 := by decide +kernel
theorem tyJ6_ok : ∀ k, k < 0 → parseFieldDescriptor (TJ6 k).2.2.1 = some (tyJ6 k) := by decide +kernel
abbrev cJ6_numberOfTrailingZeros_0f7a4 : ByteArray := prog_11_method_48_code
def yJ6_numberOfTrailingZeros_0f7a4 : MethodName := ⟨RJ6, "numberOfTrailingZeros", "(I)I"⟩
abbrev cJ6_bitCount_0f7a4 : ByteArray := prog_11_method_49_code
def yJ6_bitCount_0f7a4 : MethodName := ⟨RJ6, "bitCount", "(I)I"⟩
def RJ9 : String := "java/lang/Math"
def TJ9 : u_T := fun k => match k with
  | _ => ("", "", "", false)
def tyJ9 : Nat → FieldType := fun k => match k with
  | _ => .int
abbrev wsJ90 : List Cond := u_ws RJ9 TJ9 0
theorem nmJ9 : ∀ a, a < 0 → ∀ b, b < 0 → a ≠ b → (TJ9 a).2.1 ≠ (TJ9 b).2.1 := by decide +kernel
theorem tyJ9_ok : ∀ k, k < 0 → parseFieldDescriptor (TJ9 k).2.2.1 = some (tyJ9 k) := by decide +kernel
abbrev cJ9_max_7cf53 : ByteArray := prog_12_method_65_code
def yJ9_max_7cf53 : MethodName := ⟨RJ9, "max", "(II)I"⟩
def RJ10 : String := "java/lang/System"
def TJ10 : u_T := fun k => match k with
  | _ => ("", "", "", false)
def tyJ10 : Nat → FieldType := fun k => match k with
  | _ => .int
abbrev wsJ100 : List Cond := u_ws RJ10 TJ10 0
theorem nmJ10 : ∀ a, a < 0 → ∀ b, b < 0 → a ≠ b → (TJ10 a).2.1 ≠ (TJ10 b).2.1 := by decide +kernel
theorem tyJ10_ok : ∀ k, k < 0 → parseFieldDescriptor (TJ10 k).2.2.1 = some (tyJ10 k) := by decide +kernel
def RL : String := "ForfeitBookLaw"
abbrev cL_law : ByteArray := code
def yL_law : MethodName := ⟨RL, "law", "([I)Z"⟩
def fb_C : List vw_C := [(RX0, TX0, 10), (RX1, TX1, 7), (RX2, TX2, 6), (RX3, TX3, 2), (RX4, TX4, 5), (RX5, TX5, 5), (RX6, TX6, 13), (RX7, TX7, 13), (RX8, TX8, 48)]
abbrev fb_Sh : Type := (Bool × Nat) ⊕ (Nat × List Nat)
def fb_S : List fb_Sh := [.inr (7, [3, 4, 5, 6, 7, 8, 9, 10, 11, 0, 0, 1, 1]), .inr (3, [12, 13]), .inr (6, [14, 15, 16, 17, 18, 19, 20, 21, 22, 23, 0, 0, 0]), .inr (0, [24, 25, 26, 27, 28, 29, 30, 31, 32, 0]), .inr (5, [33, 34, 35, 36, 0]), .inr (1, [37, 38, 39, 40, 41, 42, 0]), .inr (2, [4, 5, 43, 44, 45, 0]), .inr (4, [4, 46, 0, 0, 0]), .inr (4, [4, 47, 0, 0, 0]), .inl (false, 6), .inl (false, 6), .inl (false, 240), .inl (false, 20), .inl (false, 20), .inl (false, 20), .inl (false, 20), .inl (false, 20), .inl (false, 20), .inl (false, 20), .inl (false, 20), .inl (false, 20), .inl (false, 20), .inl (false, 12), .inl (false, 12), .inl (false, 12), .inl (false, 12), .inl (false, 12), .inl (false, 120), .inl (false, 120), .inl (false, 120), .inl (true, 120), .inl (false, 8), .inl (false, 8), .inl (true, 8), .inl (false, 8), .inl (false, 10), .inl (false, 10), .inl (false, 10), .inl (false, 10), .inl (false, 10), .inl (false, 10), .inl (false, 32), .inl (false, 32), .inl (false, 32), .inl (false, 32), .inl (false, 32), .inr (8, [0, 49, 0, 1, 1, 50, 51, 52, 0, 53, 54, 55, 56, 57, 0, 58, 59, 60, 61, 62, 63, 64, 65, 0, 0, 0, 0, 0, 66, 67, 68, 69, 0, 0, 0, 70, 0, 0, 0, 71, 72, 73, 74, 75, 76, 0, 0, 1]), .inl (false, 6), .inl (false, 6), .inl (false, 240), .inl (false, 40), .inl (false, 20), .inl (false, 20), .inl (false, 20), .inl (false, 20), .inl (false, 20), .inl (false, 12), .inl (false, 12), .inl (false, 12), .inl (false, 12), .inl (false, 120), .inl (false, 120), .inl (false, 120), .inl (true, 120), .inl (false, 9), .inl (false, 9), .inl (true, 9), .inl (false, 9), .inl (false, 32), .inl (false, 10), .inl (false, 10), .inl (false, 10), .inl (false, 10), .inl (false, 10), .inl (false, 10)]
theorem fb_S_len : fb_S.length = 75 := by decide +kernel
def fb_nest : Cond → Bool
  | .fieldLinkNest _ _ _ _ _ _ => true
  | .methodLinkNest _ _ _ _ => true
  | _ => false
def fb_gT : List Cond := lw_tbl.filter goodWord
def fb_nT : List Cond := lw_tbl.filter fb_nest
end
section
abbrev fb_Wd : Type := (Nat → Nat → Int32) × (Nat → Nat → Int64)
abbrev fb_En : Type := va_G × ClassId × ClassId × (Nat → Nat)
def fb_rv (ad : Nat → Nat) : Value → Value
  | .ref a => .ref (ad a)
  | v => v
theorem fb_rv_cat (ad : Nat → Nat) (v : Value) : (fb_rv ad v).category = v.category := by cases v <;> rfl
def fb_slt (ad : Nat → Nat) (w : fb_Wd) (c j : Nat) : Nat → Value
  | 0 => .int (w.1 c j)
  | 1 => .long (w.2 c j)
  | k + 2 => .ref (ad k)
def fb_ent (E : fb_En) (w : fb_Wd) (c : Nat) : fb_Sh → va_E
  | .inl (z, n) => .inl ((if z = true then E.2.2.1 else E.2.1), n, .inl (w.1 c))
  | .inr (ci, ks) => .inr (ci, ks.mapIdx (fun j k => fb_slt E.2.2.2 w c j k))
def fb_cells (E : fb_En) (w : fb_Wd) : va_W := fb_S.mapIdx (fun c sh => (E.2.2.2 c, fb_ent E w c sh))
def fb_up (w : fb_Wd) (c k : Nat) (x : Int32) : fb_Wd := (fun a b => if a = c then (if b = k then x else w.1 a b) else w.1 a b, w.2)
def fb_ul (w : fb_Wd) (c k : Nat) (x : Int64) : fb_Wd := (w.1, fun a b => if a = c then (if b = k then x else w.2 a b) else w.2 a b)
def fb_ua (w : fb_Wd) (c : Nat) (f : Nat → Int32) : fb_Wd := (fun a b => if a = c then f b else w.1 a b, w.2)
theorem fb_get {E : fb_En} {w : fb_Wd} {c : Nat} {sh : fb_Sh} (h : fb_S[c]? = some sh) : (fb_cells E w)[c]? = some (E.2.2.2 c, fb_ent E w c sh) := by
  unfold fb_cells
  rw [List.getElem?_mapIdx, h]; rfl
theorem fb_len (E : fb_En) (w : fb_Wd) : (fb_cells E w).length = 75 := by
  unfold fb_cells
  rw [List.length_mapIdx]; exact fb_S_len
theorem fb_get' {E : fb_En} {w : fb_Wd} {c : Nat} {q : Nat × va_E} (h : (fb_cells E w)[c]? = some q) : c < 75 ∧ ∃ sh, fb_S[c]? = some sh ∧ q = (E.2.2.2 c, fb_ent E w c sh) := by
  refine ⟨by rw [← fb_len E w]; exact (List.getElem?_eq_some_iff.mp h).1, ?_⟩
  unfold fb_cells at h
  rw [List.getElem?_mapIdx] at h
  cases hs : fb_S[c]? with
  | none => rw [hs] at h; cases h
  | some sh => rw [hs] at h; exact ⟨sh, rfl, (Option.some.inj h).symm⟩
theorem fb_set {E : fb_En} {w w' : fb_Wd} {c : Nat} {sh : fb_Sh} (h : fb_S[c]? = some sh) (ho : ∀ a, a ≠ c → w'.1 a = w.1 a ∧ w'.2 a = w.2 a) {e : va_E} (he : e = fb_ent E w' c sh) : (fb_cells E w).set c (E.2.2.2 c, e) = fb_cells E w' := by
  apply List.ext_getElem?
  intro k
  have hl : c < (fb_cells E w).length := (List.getElem?_eq_some_iff.mp (fb_get (E := E) (w := w) h)).1
  by_cases hk : k = c
  · subst hk
    rw [List.getElem?_set_self hl, fb_get h, he]
  · rw [List.getElem?_set_ne (Ne.symm hk)]
    unfold fb_cells
    rw [List.getElem?_mapIdx, List.getElem?_mapIdx]
    cases hs : fb_S[k]? with
    | none => rfl
    | some sh2 =>
      have e1 := (ho k hk).1
      have e2 := (ho k hk).2
      cases sh2 with
      | inl z => simp [fb_ent, e1]
      | inr o => simp [fb_ent, fb_slt.eq_def, e1, e2]
theorem fb_setA {E : fb_En} {w : fb_Wd} {c n : Nat} {z : Bool} (f : Nat → Int32) (h : fb_S[c]? = some (.inl (z, n))) : (fb_cells E w).set c (E.2.2.2 c, .inl ((if z = true then E.2.2.1 else E.2.1), n, .inl f)) = fb_cells E (fb_ua w c f) := by
  have ho : ∀ a, a ≠ c → (fb_ua w c f).1 a = w.1 a ∧ (fb_ua w c f).2 a = w.2 a := fun a ha => ⟨by funext b; simp [fb_ua, ha], rfl⟩
  have e : (fb_ua w c f).1 c = f := by funext b; simp [fb_ua]
  have he : (Sum.inl ((if z = true then E.2.2.1 else E.2.1), n, .inl f) : va_E) = fb_ent E (fb_ua w c f) c (.inl (z, n)) := by simp only [fb_ent, e]
  exact fb_set h ho he
theorem fb_ua_up (w : fb_Wd) (c k : Nat) (x : Int32) : fb_ua w c (upd (w.1 c) k x) = fb_up w c k x := by
  unfold fb_ua fb_up upd
  congr 1
  funext a b
  by_cases h : a = c <;> simp [h]
theorem fb_setI {E : fb_En} {w : fb_Wd} {c ci k : Nat} {ks : List Nat} (x : Int32) (h : fb_S[c]? = some (.inr (ci, ks))) (hk : ks[k]? = some 0) : (fb_cells E w).set c (E.2.2.2 c, .inr (ci, (ks.mapIdx (fun j k => fb_slt E.2.2.2 w c j k)).set k (.int x))) = fb_cells E (fb_up w c k x) := by
  have ho : ∀ a, a ≠ c → (fb_up w c k x).1 a = w.1 a ∧ (fb_up w c k x).2 a = w.2 a := fun a ha => ⟨by funext b; simp [fb_up, ha], rfl⟩
  suffices he : (ks.mapIdx (fun j k => fb_slt E.2.2.2 w c j k)).set k (.int x) = ks.mapIdx (fun j q => fb_slt E.2.2.2 (fb_up w c k x) c j q) by
    exact fb_set h ho (show (Sum.inr (ci, _) : va_E) = fb_ent E (fb_up w c k x) c (.inr (ci, ks)) by rw [he]; rfl)
  apply List.ext_getElem?
  intro j
  have hl : k < ks.length := (List.getElem?_eq_some_iff.mp hk).1
  by_cases hj : j = k
  · subst hj
    rw [List.getElem?_set_self (by rw [List.length_mapIdx]; exact hl), List.getElem?_mapIdx, hk]
    simp [fb_slt, fb_up]
  · rw [List.getElem?_set_ne (Ne.symm hj), List.getElem?_mapIdx, List.getElem?_mapIdx]
    cases ks[j]? with
    | none => rfl
    | some q =>
      match q with
      | 0 => simp [fb_slt, fb_up, hj]
      | 1 => simp [fb_slt, fb_up]
      | q + 2 => simp [fb_slt]
theorem fb_setL {E : fb_En} {w : fb_Wd} {c ci k : Nat} {ks : List Nat} (x : Int64) (h : fb_S[c]? = some (.inr (ci, ks))) (hk : ks[k]? = some 1) : (fb_cells E w).set c (E.2.2.2 c, .inr (ci, (ks.mapIdx (fun j k => fb_slt E.2.2.2 w c j k)).set k (.long x))) = fb_cells E (fb_ul w c k x) := by
  have ho : ∀ a, a ≠ c → (fb_ul w c k x).1 a = w.1 a ∧ (fb_ul w c k x).2 a = w.2 a := fun a ha => ⟨rfl, by funext b; simp [fb_ul, ha]⟩
  suffices he : (ks.mapIdx (fun j k => fb_slt E.2.2.2 w c j k)).set k (.long x) = ks.mapIdx (fun j q => fb_slt E.2.2.2 (fb_ul w c k x) c j q) by
    exact fb_set h ho (show (Sum.inr (ci, _) : va_E) = fb_ent E (fb_ul w c k x) c (.inr (ci, ks)) by rw [he]; rfl)
  apply List.ext_getElem?
  intro j
  have hl : k < ks.length := (List.getElem?_eq_some_iff.mp hk).1
  by_cases hj : j = k
  · subst hj
    rw [List.getElem?_set_self (by rw [List.length_mapIdx]; exact hl), List.getElem?_mapIdx, hk]
    simp [fb_slt, fb_ul]
  · rw [List.getElem?_set_ne (Ne.symm hj), List.getElem?_mapIdx, List.getElem?_mapIdx]
    cases ks[j]? with
    | none => rfl
    | some q =>
      match q with
      | 0 => simp [fb_slt, fb_ul]
      | 1 => simp [fb_slt, fb_ul, hj]
      | q + 2 => simp [fb_slt]
def fb_Adr (E : fb_En) : Nat → Prop := fun q => ∃ c, c < 75 ∧ q = E.2.2.2 c
def fb_tys (E : fb_En) : List (ClassId × FieldType) := [(E.2.1, .int), (E.2.2.1, .boolean)]
def fb_Env (E : fb_En) (U : State) : Prop := va_K E.1 fb_C (fb_tys E) U ∧ (∀ i j, i < 75 → j < 75 → E.2.2.2 i = E.2.2.2 j → i = j) ∧ ∀ w ∈ fb_nT, va_Nw w U
theorem fb_D {E : fb_En} {U : State} (h : fb_Env E U) (w : fb_Wd) : va_D (fb_Adr E) (fb_cells E w) := by
  refine ⟨fun i j p q hi hj hpq => ?_, fun k q hk => ?_⟩
  · obtain ⟨h1, sh1, -, rfl⟩ := fb_get' hi
    obtain ⟨h2, sh2, -, rfl⟩ := fb_get' hj
    exact h.2.1 i j h1 h2 hpq
  · obtain ⟨h1, sh1, -, rfl⟩ := fb_get' hk
    exact ⟨k, h1, rfl⟩
theorem fb_Env.warm {E : fb_En} {s U : State} (hW : s.WarmedH U.vm) (h : fb_Env E s) : fb_Env E U := by
  refine ⟨va_K.moved hW.alike h.1, h.2.1, fun w hw => ?_⟩
  have h1 := h.2.2 w hw
  have h2 := (List.mem_filter.mp hw).2
  cases w <;> first | exact va_Nw.warmF hW h1 | exact va_Nw.warmM hW h1 | cases h2
theorem fb_Env.calling {E : fb_En} {U : State} (g : JFrame) (mk : MethodId) (a : Array Value) (h : fb_Env E U) : fb_Env E (U.calling g mk a) := by
  refine ⟨va_K.moved (u := U) (U := U.calling g mk a) (Vm.Alike.refl U.vm) h.1, h.2.1, fun w hw => ?_⟩
  have h1 := h.2.2 w hw
  have h2 := (List.mem_filter.mp hw).2
  cases w <;> first | exact va_Nw.same rfl (show U.vm = (U.calling g mk a).vm from rfl) h1 | cases h2
def fb_asc (ad : Nat → Nat) : Nat → List (Option Value) → List (Nat × Value)
  | _, [] => []
  | i, none :: l => fb_asc ad (i + 1) l
  | i, some v :: l => (i, fb_rv ad v) :: fb_asc ad (i + 1) l
theorem fb_asc_iff (ad : Nat → Nat) : ∀ (l : List (Option Value)) (i : Nat) (q : Nat × Value), q ∈ fb_asc ad i l ↔ ∃ k v, l[k]? = some (some v) ∧ q = (i + k, fb_rv ad v)
  | [], i, q => by simp [fb_asc]
  | none :: l, i, q => by
    rw [fb_asc, fb_asc_iff ad l (i + 1) q]
    constructor
    · rintro ⟨k, v, h, rfl⟩
      exact ⟨k + 1, v, by simpa using h, by rw [Nat.add_assoc, Nat.add_comm 1 k]⟩
    · rintro ⟨k, v, h, rfl⟩
      cases k with
      | zero => simp at h
      | succ k => exact ⟨k, v, by simpa using h, by rw [Nat.add_assoc, Nat.add_comm 1 k]⟩
  | some u :: l, i, q => by
    rw [fb_asc, List.mem_cons, fb_asc_iff ad l (i + 1) q]
    constructor
    · rintro (rfl | ⟨k, v, h, rfl⟩)
      · exact ⟨0, u, rfl, rfl⟩
      · exact ⟨k + 1, v, by simpa using h, by rw [Nat.add_assoc, Nat.add_comm 1 k]⟩
    · rintro ⟨k, v, h, rfl⟩
      cases k with
      | zero => simp at h; subst h; exact Or.inl rfl
      | succ k => exact Or.inr ⟨k, v, by simpa using h, by rw [Nat.add_assoc, Nat.add_comm 1 k]⟩
theorem fb_at {ad : Nat → Nat} {ls : Array Slot} {nL k : Nat} {L : List (Option Value)} {v : Value} (h : lv_has ls nL (fb_asc ad 0 L)) (hk : L[k]? = some (some v)) : ls[k]? = some (.val (fb_rv ad v)) :=
  h.2.2 (k, fb_rv ad v) ((fb_asc_iff ad L 0 _).mpr ⟨k, v, hk, by rw [Nat.zero_add]⟩)
theorem fb_mono {ls : Array Slot} {nL : Nat} {l l' : List (Nat × Value)} (h : lv_has ls nL l) (hs : ∀ q ∈ l', q ∈ l) : lv_has ls nL l' := ⟨h.1, h.2.1, fun q hq => h.2.2 q (hs q hq)⟩
def fb_free (L : List (Option Value)) (i : Nat) : Bool := match i with
  | 0 => true
  | i + 1 => match L[i]? with
    | some (some v) => v.category != 2
    | _ => true
theorem fb_free_of {L : List (Option Value)} {i k : Nat} {v : Value} (h : fb_free L i = true) (hk : L[k]? = some (some v)) (e : k + 1 = i) : v.category ≠ 2 := by
  subst e
  simp only [fb_free, hk] at h
  simpa using h
abbrev fb_I : Type := Nat → Option (Instr × Nat × Nat × List Nat)
abbrev fb_T : Type := MethodName × fb_I × ByteArray × Nat × Option FieldType × Nat
def fb_offs : Instr → List Int
  | .goto o => [o]
  | .ifCond _ o => [o]
  | .if_icmp _ o => [o]
  | .tableswitch d _ _ os => d :: os.toList
  | _ => []
def fb_chk (T : fb_T) (pc : Nat) : Bool := match T.2.1 pc with
  | none => true
  | some (i, n, nx, tg) => decide (decode T.2.2.1 pc = .ok (i, n)) && (nx == pc + n) && ((fb_offs i).map (fun o => (pc : Int) + o) == tg.map (fun t : Nat => (t : Int)))
def fb_Tok (T : fb_T) : Prop := ∀ pc i n nx tg, T.2.1 pc = some (i, n, nx, tg) → decode T.2.2.1 pc = .ok (i, n) ∧ nx = pc + n ∧ (fb_offs i).map (fun o => (pc : Int) + o) = tg.map (fun t : Nat => (t : Int))
theorem fb_Tok.of {T : fb_T} (N : Nat) (h : (List.range N).all (fb_chk T) = true) (hN : ∀ pc x, T.2.1 pc = some x → pc < N) : fb_Tok T := by
  intro pc i n nx tg e
  have h1 := List.all_eq_true.mp h pc (List.mem_range.mpr (hN pc _ e))
  simp only [fb_chk, e, Bool.and_eq_true, decide_eq_true_eq, beq_iff_eq] at h1
  exact ⟨h1.1.1, h1.1.2, h1.2⟩
def fb_rm (d : Nat) : Room := { frames := d, cells := 0, slots := 0, locals := 40 * d }
abbrev fb_Cx : Type := (Program × Launch × Env × Room × State) × (MethodId × Array Value × List Frame × Method × Code) × (State → Prop) × fb_En
def fb_W (X : fb_Cx) (H : Heap) (locs : List Loc) (g : JFrame) : Prop := W X.1.1 X.1.2.1 X.1.2.2.1 X.1.2.2.2.1 X.1.2.2.2.2 X.2.1.1 X.2.1.2.1 X.2.1.2.2.1 X.2.1.2.2.2.1 X.2.1.2.2.2.2 H locs 0 0 X.2.2.1 g
abbrev fb_F (X : fb_Cx) (pc : Nat) (ls : Array Slot) (S : List Value) : JFrame := F0 X.2.1.1 pc ls (S.map (fb_rv X.2.2.2.2.2.2))
def fb_AW (T : fb_T) (X : fb_Cx) (pc : Nat) (L : List (Option Value)) (S : List Value) (w : fb_Wd) : Prop :=
  ∀ (ls : Array Slot) (H : Heap) (locs : List Loc), lv_has ls T.2.2.2.1 (fb_asc X.2.2.2.2.2.2 0 L) → va_P X.2.2.2.1 fb_C (fb_cells X.2.2.2 w) H → va_S (fb_Adr X.2.2.2) X.1.2.2.2.2.heap H locs → fb_W X H locs (fb_F X pc ls S)
def fb_Q (E : fb_En) (post : Option Value → fb_Wd → Prop) : Array Value → State → Outcome → State → Prop := fun _ st oc t => (∃ (r : Option Value) (w' : fb_Wd), oc = .returned (r.map (fb_rv E.2.2.2)) ∧ post r w' ∧ va_P E.1 fb_C (fb_cells E w') t.heap) ∧ va_F (fb_Adr E) st t
def fb_Ok (T : fb_T) (X : fb_Cx) (post : Option Value → fb_Wd → Prop) : Prop :=
  (X.1.1.tables.exec = Jvm.exec ∧ X.2.1.2.2.2.2.code = T.2.2.1 ∧ X.2.1.2.2.2.2.maxLocals = T.2.2.2.1 ∧ X.1.2.2.2.2.vm.findClass T.1.cls = some X.2.1.1.cls ∧ ∀ w ∈ fb_gT, w.before X.2.1.2.1 X.1.2.2.2.2 = true) ∧
  X.2.1.2.2.2.1.sig.returnType = T.2.2.2.2.1 ∧ X.2.1.2.2.2.1.locks = false ∧ X.1.2.2.2.1 = fb_rm T.2.2.2.2.2 ∧ fb_Env X.2.2.2 X.1.2.2.2.2 ∧ X.2.2.1 = MQ X.2.1.2.2.1 (fb_Q X.2.2.2 post) X.2.1.2.1 X.1.2.2.2.2 0 0 (fb_Adr X.2.2.2) ∧ fb_Tok T
def fb_Can (l : Launch) (T : fb_T) (av : List Value) (w : fb_Wd) (post : Option Value → fb_Wd → Prop) : Prop :=
  ∀ E : fb_En, Met l T.1 (.code T.1 T.2.2.1 T.2.2.2.1 T.2.2.2.2.1 :: fb_gT) (fb_rm T.2.2.2.2.2) (va_Pc (av.map (fb_rv E.2.2.2)) (fun U => va_P E.1 fb_C (fb_cells E w) U.heap ∧ fb_Env E U)) (fb_Q E post) 0 0 (fb_Adr E)
def fb_en : List Value → List (Option Value)
  | [] => []
  | v :: vs => if v.category = 2 then some v :: none :: fb_en vs else some v :: fb_en vs
theorem fb_en_args (ad : Nat → Nat) : ∀ (vs : List Value) (i : Nat) (q : Nat × Value), q ∈ fb_asc ad i (fb_en vs) → q ∈ lv_args i (vs.map (fb_rv ad))
  | [], i, q => by simp [fb_en, fb_asc]
  | v :: vs, i, q => by
    intro h
    rw [List.map_cons, lv_args, List.mem_cons, fb_rv_cat]
    rw [fb_en] at h
    by_cases hc : v.category = 2
    · rw [if_pos hc, fb_asc, List.mem_cons, fb_asc] at h
      rw [if_pos hc]
      exact h.imp id (fun h => fb_en_args ad vs (i + 2) q h)
    · rw [if_neg hc, fb_asc, List.mem_cons] at h
      rw [if_neg hc]
      exact h.imp id (fun h => fb_en_args ad vs (i + 1) q h)
def fb_pad (L0 L : List (Option Value)) : Prop := ∀ (k : Nat) (v : Value), L[k]? = some (some v) → L0[k]? = some (some v)
theorem fb_pad_rf (L : List (Option Value)) (n : Nat) : fb_pad L (L ++ List.replicate n none) := by
  intro k v h
  by_cases hk : k < L.length
  · rwa [List.getElem?_append_left hk] at h
  · rw [List.getElem?_append_right (by omega), List.getElem?_replicate] at h
    split at h <;> simp at h
def fb_room (T : fb_T) (av : List Value) : Bool := Nat.ble ((lg_sl av).length) T.2.2.2.1
theorem fb_sl_len (ad : Nat → Nat) : ∀ av : List Value, (lg_sl (av.map (fb_rv ad))).length = (lg_sl av).length
  | [] => rfl
  | v :: vs => by
    have ih := fb_sl_len ad vs
    simp only [lg_sl, List.map_cons, List.flatMap_cons, List.length_append] at ih ⊢
    rw [ih, fb_rv_cat]
    by_cases hc : v.category = 2 <;> simp [hc]
theorem fb_intro {l : Launch} {T : fb_T} {av : List Value} {w : fb_Wd} {post : Option Value → fb_Wd → Prop} (n : Nat) (hT : fb_Tok T) (hy : plainName T.1.cls = true) (hr : fb_room T av = true)
    (body : ∀ X : fb_Cx, X.1.2.1 = l → fb_Ok T X post → fb_AW T X 0 (fb_en av ++ List.replicate n none) [] w) : fb_Can l T av w post := by
  intro E
  refine Met.ofW (cc := T.2.2.1) (maxL := T.2.2.2.1) (ret := T.2.2.2.2.1) hy rfl ?_
  intro p e s m args below meth c s₁ B hml hv
  obtain ⟨rfl, hP, hE⟩ := hv
  have hts := atoms_spec (ws := .code T.1 T.2.2.1 T.2.2.2.1 T.2.2.2.2.1 :: fb_gT) B.pre
  have hown : s.vm.findClass T.1.cls = some m.cls := findClass_of_methodNamed B.named
  have hok : fb_Ok T ((p, l, e, fb_rm T.2.2.2.2.2, s), (m, (av.map (fb_rv E.2.2.2)).toArray, below, meth, c), MQ below (fb_Q E post) (av.map (fb_rv E.2.2.2)).toArray s 0 0 (fb_Adr E), E) post :=
    ⟨⟨B.exec, B.bytes, hml, hown, fun w hw => hts w (List.mem_cons_of_mem _ hw)⟩, B.returns, B.notSynchronized, rfl, hE, rfl, hT⟩
  have hl := lv_entry (av.map (fb_rv E.2.2.2)) (n := T.2.2.2.1) (by rw [fb_sl_len]; exact Nat.le_of_ble_eq_true hr)
  rw [lg_entry_eq]
  have hb := body _ rfl hok
  have hl2 := fb_mono (l' := fb_asc E.2.2.2 0 (fb_en av ++ List.replicate n none)) hl (fun q hq => by
    obtain ⟨k, v, hk, rfl⟩ := (fb_asc_iff _ _ 0 q).mp hq
    exact fb_en_args E.2.2.2 av 0 _ ((fb_asc_iff _ _ 0 _).mpr ⟨k, v, fb_pad_rf _ n k v hk, rfl⟩))
  exact hb _ s.heap [] hl2 hP va_S.rf
end
section
section FW
variable {T : fb_T} {X : fb_Cx} {post : Option Value → fb_Wd → Prop} {pc nx : Nat} {tg : List Nat} {L : List (Option Value)} {S : List Value} {w : fb_Wd}
theorem fw_iconst (h : fb_Ok T X post) {n : Int} (v : Int32) (hd : T.2.1 pc = some (.iconst n, 1, nx, tg)) (hv : Int32.ofInt n = v) (k : fb_AW T X nx L (.int v :: S) w) : fb_AW T X pc L (S) w := by
  intro ls H locs hl hP hS
  obtain ⟨hdg, rfl, -⟩ := h.2.2.2.2.2.2 _ _ _ _ _ hd
  exact lv_iconst h.1.1 h.1.2.1 hdg hv (k ls H locs hl hP hS)
theorem fw_bipush (h : fb_Ok T X post) {n : Int} (v : Int32) (hd : T.2.1 pc = some (.bipush n, 2, nx, tg)) (hv : (Int8.ofInt n).toInt32 = v) (k : fb_AW T X nx L (.int v :: S) w) : fb_AW T X pc L (S) w := by
  intro ls H locs hl hP hS
  obtain ⟨hdg, rfl, -⟩ := h.2.2.2.2.2.2 _ _ _ _ _ hd
  exact lv_bipush h.1.1 h.1.2.1 hdg hv (k ls H locs hl hP hS)
theorem fw_sipush (h : fb_Ok T X post) {n : Int} (v : Int32) (hd : T.2.1 pc = some (.sipush n, 3, nx, tg)) (hv : (Int16.ofInt n).toInt32 = v) (k : fb_AW T X nx L (.int v :: S) w) : fb_AW T X pc L (S) w := by
  intro ls H locs hl hP hS
  obtain ⟨hdg, rfl, -⟩ := h.2.2.2.2.2.2 _ _ _ _ _ hd
  exact lv_sipush h.1.1 h.1.2.1 hdg hv (k ls H locs hl hP hS)
theorem fw_lconst (h : fb_Ok T X post) {n : Fin 2} (v : Int64) (hd : T.2.1 pc = some (.lconst n, 1, nx, tg)) (hv : Int64.ofNat (n : Nat) = v) (k : fb_AW T X nx L (.long v :: S) w) : fb_AW T X pc L (S) w := by
  intro ls H locs hl hP hS
  obtain ⟨hdg, rfl, -⟩ := h.2.2.2.2.2.2 _ _ _ _ _ hd
  exact lv_lconst h.1.1 h.1.2.1 hdg hv (k ls H locs hl hP hS)
theorem fw_ldc (h : fb_Ok T X post) {n : Nat} (v : Int32) (hd : T.2.1 pc = some (.ldc n, 2, nx, tg)) (hv : Jvm.Cond.constant T.1.cls n v ∈ fb_gT) (k : fb_AW T X nx L (.int v :: S) w) : fb_AW T X pc L (S) w := by
  intro ls H locs hl hP hS
  obtain ⟨hdg, rfl, -⟩ := h.2.2.2.2.2.2 _ _ _ _ _ hd
  exact lv_ldc h.1.1 h.1.2.1 h.1.2.2.2.1 (h.1.2.2.2.2 _ hv) hdg (k ls H locs hl hP hS)
theorem fw_ldcw (h : fb_Ok T X post) {n : Nat} (v : Int32) (hd : T.2.1 pc = some (.ldc_w n, 3, nx, tg)) (hv : Jvm.Cond.constant T.1.cls n v ∈ fb_gT) (k : fb_AW T X nx L (.int v :: S) w) : fb_AW T X pc L (S) w := by
  intro ls H locs hl hP hS
  obtain ⟨hdg, rfl, -⟩ := h.2.2.2.2.2.2 _ _ _ _ _ hd
  exact lv_ldcw h.1.1 h.1.2.1 h.1.2.2.2.1 (h.1.2.2.2.2 _ hv) hdg (k ls H locs hl hP hS)
theorem fw_ldc2 (h : fb_Ok T X post) {n : Nat} (v : Int64) (hd : T.2.1 pc = some (.ldc2_w n, 3, nx, tg)) (hv : Jvm.Cond.constantLong T.1.cls n v ∈ fb_gT) (k : fb_AW T X nx L (.long v :: S) w) : fb_AW T X pc L (S) w := by
  intro ls H locs hl hP hS
  obtain ⟨hdg, rfl, -⟩ := h.2.2.2.2.2.2 _ _ _ _ _ hd
  exact lv_ldc2 h.1.1 h.1.2.1 h.1.2.2.2.1 (h.1.2.2.2.2 _ hv) hdg (k ls H locs hl hP hS)
theorem fw_iload_n (h : fb_Ok T X post) {i : Fin 4} {x : Int32} (hd : T.2.1 pc = some (.iload_n i, 1, nx, tg)) (hx : L[(i : Nat)]? = some (some (.int x))) (k : fb_AW T X nx L (.int x :: S) w) : fb_AW T X pc L (S) w := by
  intro ls H locs hl hP hS
  obtain ⟨hdg, rfl, -⟩ := h.2.2.2.2.2.2 _ _ _ _ _ hd
  exact lv_iload_n h.1.1 h.1.2.1 hdg rfl (fb_at hl hx) (k ls H locs hl hP hS)
theorem fw_iload (h : fb_Ok T X post) {i : Nat} {x : Int32} (hd : T.2.1 pc = some (.iload i, 2, nx, tg)) (hx : L[i]? = some (some (.int x))) (k : fb_AW T X nx L (.int x :: S) w) : fb_AW T X pc L (S) w := by
  intro ls H locs hl hP hS
  obtain ⟨hdg, rfl, -⟩ := h.2.2.2.2.2.2 _ _ _ _ _ hd
  exact lv_iload h.1.1 h.1.2.1 hdg (fb_at hl hx) (k ls H locs hl hP hS)
theorem fw_lload_n (h : fb_Ok T X post) {i : Fin 4} {x : Int64} (hd : T.2.1 pc = some (.lload_n i, 1, nx, tg)) (hx : L[(i : Nat)]? = some (some (.long x))) (k : fb_AW T X nx L (.long x :: S) w) : fb_AW T X pc L (S) w := by
  intro ls H locs hl hP hS
  obtain ⟨hdg, rfl, -⟩ := h.2.2.2.2.2.2 _ _ _ _ _ hd
  exact lv_lload_n h.1.1 h.1.2.1 hdg rfl (fb_at hl hx) (k ls H locs hl hP hS)
theorem fw_lload (h : fb_Ok T X post) {i : Nat} {x : Int64} (hd : T.2.1 pc = some (.lload i, 2, nx, tg)) (hx : L[i]? = some (some (.long x))) (k : fb_AW T X nx L (.long x :: S) w) : fb_AW T X pc L (S) w := by
  intro ls H locs hl hP hS
  obtain ⟨hdg, rfl, -⟩ := h.2.2.2.2.2.2 _ _ _ _ _ hd
  exact lv_lload h.1.1 h.1.2.1 hdg (fb_at hl hx) (k ls H locs hl hP hS)
theorem fw_aload_n (h : fb_Ok T X post) {i : Fin 4} {x : Nat} (hd : T.2.1 pc = some (.aload_n i, 1, nx, tg)) (hx : L[(i : Nat)]? = some (some (.ref x))) (k : fb_AW T X nx L (.ref x :: S) w) : fb_AW T X pc L (S) w := by
  intro ls H locs hl hP hS
  obtain ⟨hdg, rfl, -⟩ := h.2.2.2.2.2.2 _ _ _ _ _ hd
  exact lv_aload_n h.1.1 h.1.2.1 hdg rfl (fb_at hl hx) (k ls H locs hl hP hS)
theorem fw_aload (h : fb_Ok T X post) {i : Nat} {x : Nat} (hd : T.2.1 pc = some (.aload i, 2, nx, tg)) (hx : L[i]? = some (some (.ref x))) (k : fb_AW T X nx L (.ref x :: S) w) : fb_AW T X pc L (S) w := by
  intro ls H locs hl hP hS
  obtain ⟨hdg, rfl, -⟩ := h.2.2.2.2.2.2 _ _ _ _ _ hd
  exact lv_aload h.1.1 h.1.2.1 hdg (fb_at hl hx) (k ls H locs hl hP hS)
theorem fw_st1 {ad : Nat → Nat} {i : Nat} {v : Value} {L L' : List (Option Value)} (hL : L.set i (some v) = L') (hf : fb_free L i = true) : ∀ q ∈ fb_asc ad 0 L', q ∈ (i, fb_rv ad v) :: (fb_asc ad 0 L).filter (fun q => !(q.1 == i) && !(q.1 + 1 == i && q.2.category == 2)) := by
  intro q hq
  obtain ⟨k, u, hk, rfl⟩ := (fb_asc_iff _ _ 0 q).mp hq
  rw [Nat.zero_add]
  subst hL
  by_cases e : k = i
  · subst e
    rw [List.getElem?_set] at hk
    split at hk
    · split at hk
      · cases hk; exact List.mem_cons_self
      · cases hk
    · omega
  · rw [List.getElem?_set_ne (Ne.symm e)] at hk
    refine List.mem_cons_of_mem _ (List.mem_filter.mpr ⟨(fb_asc_iff _ _ 0 _).mpr ⟨k, u, hk, by rw [Nat.zero_add]⟩, ?_⟩)
    simp only [Bool.and_eq_true, Bool.not_eq_true', beq_eq_false_iff_ne, ne_eq, Bool.and_eq_false_iff, fb_rv_cat]
    refine ⟨e, ?_⟩
    by_cases e2 : k + 1 = i
    · exact Or.inr (fb_free_of hf hk e2)
    · exact Or.inl e2
theorem fw_st2 {ad : Nat → Nat} {i : Nat} {v : Value} {L L' : List (Option Value)} (hL : (L.set i (some v)).set (i + 1) none = L') (hf : fb_free L i = true) : ∀ q ∈ fb_asc ad 0 L', q ∈ (i, fb_rv ad v) :: (fb_asc ad 0 L).filter (fun q => !(q.1 == i) && (!(q.1 == i + 1) && !(q.1 + 1 == i && q.2.category == 2))) := by
  intro q hq
  obtain ⟨k, u, hk, rfl⟩ := (fb_asc_iff _ _ 0 q).mp hq
  rw [Nat.zero_add]
  subst hL
  by_cases e1 : k = i + 1
  · subst e1
    rw [List.getElem?_set] at hk
    split at hk
    · split at hk <;> simp at hk
    · omega
  · rw [List.getElem?_set_ne (Ne.symm e1)] at hk
    by_cases e : k = i
    · subst e
      rw [List.getElem?_set] at hk
      split at hk
      · split at hk
        · cases hk; exact List.mem_cons_self
        · cases hk
      · omega
    · rw [List.getElem?_set_ne (Ne.symm e)] at hk
      refine List.mem_cons_of_mem _ (List.mem_filter.mpr ⟨(fb_asc_iff _ _ 0 _).mpr ⟨k, u, hk, by rw [Nat.zero_add]⟩, ?_⟩)
      simp only [Bool.and_eq_true, Bool.not_eq_true', beq_eq_false_iff_ne, ne_eq, Bool.and_eq_false_iff, fb_rv_cat]
      refine ⟨e, e1, ?_⟩
      by_cases e2 : k + 1 = i
      · exact Or.inr (fb_free_of hf hk e2)
      · exact Or.inl e2
theorem fw_istore_n (h : fb_Ok T X post) {i : Fin 4} {x : Int32} (L' : List (Option Value)) (hd : T.2.1 pc = some (.istore_n i, 1, nx, tg)) (hn : Nat.ble ((i : Nat) + 1) T.2.2.2.1 = true) (hf : fb_free L (i : Nat) = true) (hL : L.set (i : Nat) (some (.int x)) = L') (k : fb_AW T X nx L' (S) w) : fb_AW T X pc L (.int x :: S) w := by
  intro ls H locs hl hP hS
  obtain ⟨hdg, rfl, -⟩ := h.2.2.2.2.2.2 _ _ _ _ _ hd
  refine lv_istore_n h.1.1 h.1.2.1 hdg rfl hl (Nat.le_of_ble_eq_true hn) rfl (fun ls' hl' => ?_)
  exact k ls' H locs (fb_mono hl' (fw_st1 (v := .int x) hL hf)) hP hS
theorem fw_istore (h : fb_Ok T X post) {i : Nat} {x : Int32} (L' : List (Option Value)) (hd : T.2.1 pc = some (.istore i, 2, nx, tg)) (hn : Nat.ble (i + 1) T.2.2.2.1 = true) (hf : fb_free L i = true) (hL : L.set i (some (.int x)) = L') (k : fb_AW T X nx L' (S) w) : fb_AW T X pc L (.int x :: S) w := by
  intro ls H locs hl hP hS
  obtain ⟨hdg, rfl, -⟩ := h.2.2.2.2.2.2 _ _ _ _ _ hd
  refine lv_istore h.1.1 h.1.2.1 hdg hl (Nat.le_of_ble_eq_true hn) rfl (fun ls' hl' => ?_)
  exact k ls' H locs (fb_mono hl' (fw_st1 (v := .int x) hL hf)) hP hS
theorem fw_astore_n (h : fb_Ok T X post) {i : Fin 4} {x : Nat} (L' : List (Option Value)) (hd : T.2.1 pc = some (.astore_n i, 1, nx, tg)) (hn : Nat.ble ((i : Nat) + 1) T.2.2.2.1 = true) (hf : fb_free L (i : Nat) = true) (hL : L.set (i : Nat) (some (.ref x)) = L') (k : fb_AW T X nx L' (S) w) : fb_AW T X pc L (.ref x :: S) w := by
  intro ls H locs hl hP hS
  obtain ⟨hdg, rfl, -⟩ := h.2.2.2.2.2.2 _ _ _ _ _ hd
  refine lv_astore_n h.1.1 h.1.2.1 hdg rfl hl (Nat.le_of_ble_eq_true hn) rfl (fun ls' hl' => ?_)
  exact k ls' H locs (fb_mono hl' (fw_st1 (v := .ref x) hL hf)) hP hS
theorem fw_astore (h : fb_Ok T X post) {i : Nat} {x : Nat} (L' : List (Option Value)) (hd : T.2.1 pc = some (.astore i, 2, nx, tg)) (hn : Nat.ble (i + 1) T.2.2.2.1 = true) (hf : fb_free L i = true) (hL : L.set i (some (.ref x)) = L') (k : fb_AW T X nx L' (S) w) : fb_AW T X pc L (.ref x :: S) w := by
  intro ls H locs hl hP hS
  obtain ⟨hdg, rfl, -⟩ := h.2.2.2.2.2.2 _ _ _ _ _ hd
  refine lv_astore h.1.1 h.1.2.1 hdg hl (Nat.le_of_ble_eq_true hn) rfl (fun ls' hl' => ?_)
  exact k ls' H locs (fb_mono hl' (fw_st1 (v := .ref x) hL hf)) hP hS
theorem fw_lstore_n (h : fb_Ok T X post) {i : Fin 4} {x : Int64} (L' : List (Option Value)) (hd : T.2.1 pc = some (.lstore_n i, 1, nx, tg)) (hn : Nat.ble ((i : Nat) + 1 + 1) T.2.2.2.1 = true) (hf : fb_free L (i : Nat) = true) (hL : (L.set (i : Nat) (some (.long x))).set ((i : Nat) + 1) none = L') (k : fb_AW T X nx L' (S) w) : fb_AW T X pc L (.long x :: S) w := by
  intro ls H locs hl hP hS
  obtain ⟨hdg, rfl, -⟩ := h.2.2.2.2.2.2 _ _ _ _ _ hd
  refine lv_lstore_n h.1.1 h.1.2.1 hdg rfl hl (Nat.le_of_ble_eq_true hn) rfl (fun ls' hl' => ?_)
  exact k ls' H locs (fb_mono hl' (fw_st2 (v := .long x) hL hf)) hP hS
theorem fw_lstore (h : fb_Ok T X post) {i : Nat} {x : Int64} (L' : List (Option Value)) (hd : T.2.1 pc = some (.lstore i, 2, nx, tg)) (hn : Nat.ble (i + 1 + 1) T.2.2.2.1 = true) (hf : fb_free L i = true) (hL : (L.set i (some (.long x))).set (i + 1) none = L') (k : fb_AW T X nx L' (S) w) : fb_AW T X pc L (.long x :: S) w := by
  intro ls H locs hl hP hS
  obtain ⟨hdg, rfl, -⟩ := h.2.2.2.2.2.2 _ _ _ _ _ hd
  refine lv_lstore h.1.1 h.1.2.1 hdg hl (Nat.le_of_ble_eq_true hn) rfl (fun ls' hl' => ?_)
  exact k ls' H locs (fb_mono hl' (fw_st2 (v := .long x) hL hf)) hP hS
theorem fw_iinc (h : fb_Ok T X post) {i : Nat} {n : Int} {x : Int32} (v : Int32) (L' : List (Option Value)) (hd : T.2.1 pc = some (.iinc i n, 3, nx, tg)) (hv : Int32.ofInt n = v) (hx : L[i]? = some (some (.int x))) (hn : Nat.ble (i + 1) T.2.2.2.1 = true) (hf : fb_free L i = true) (hL : L.set i (some (.int (x + v))) = L') (k : fb_AW T X nx L' (S) w) : fb_AW T X pc L (S) w := by
  intro ls H locs hl hP hS
  obtain ⟨hdg, rfl, -⟩ := h.2.2.2.2.2.2 _ _ _ _ _ hd
  have hx' : (i, Value.int x) ∈ fb_asc X.2.2.2.2.2.2 0 L := (fb_asc_iff _ _ 0 _).mpr ⟨i, .int x, hx, by rw [Nat.zero_add]; rfl⟩
  obtain ⟨j, hj⟩ := List.getElem?_of_mem hx'
  refine lv_iinc (x := x) (v := x + v) h.1.1 h.1.2.1 hdg hl (k := j) hj (by rw [hv]) (Nat.le_of_ble_eq_true hn) rfl (fun ls' hl' => ?_)
  exact k ls' H locs (fb_mono hl' (fw_st1 (v := .int (x + v)) hL hf)) hP hS
theorem fw_iadd (h : fb_Ok T X post) {x y : Int32} (hd : T.2.1 pc = some (.iadd, 1, nx, tg))  (k : fb_AW T X nx L (.int (x + y) :: S) w) : fb_AW T X pc L (.int y :: .int x :: S) w := by
  intro ls H locs hl hP hS
  obtain ⟨hdg, rfl, -⟩ := h.2.2.2.2.2.2 _ _ _ _ _ hd
  exact lv_iadd h.1.1 h.1.2.1 hdg (k ls H locs hl hP hS)
theorem fw_isub (h : fb_Ok T X post) {x y : Int32} (hd : T.2.1 pc = some (.isub, 1, nx, tg))  (k : fb_AW T X nx L (.int (x - y) :: S) w) : fb_AW T X pc L (.int y :: .int x :: S) w := by
  intro ls H locs hl hP hS
  obtain ⟨hdg, rfl, -⟩ := h.2.2.2.2.2.2 _ _ _ _ _ hd
  exact lv_isub h.1.1 h.1.2.1 hdg (k ls H locs hl hP hS)
theorem fw_imul (h : fb_Ok T X post) {x y : Int32} (hd : T.2.1 pc = some (.imul, 1, nx, tg))  (k : fb_AW T X nx L (.int (x * y) :: S) w) : fb_AW T X pc L (.int y :: .int x :: S) w := by
  intro ls H locs hl hP hS
  obtain ⟨hdg, rfl, -⟩ := h.2.2.2.2.2.2 _ _ _ _ _ hd
  exact lv_imul h.1.1 h.1.2.1 hdg (k ls H locs hl hP hS)
theorem fw_iand (h : fb_Ok T X post) {x y : Int32} (hd : T.2.1 pc = some (.iand, 1, nx, tg))  (k : fb_AW T X nx L (.int (x &&& y) :: S) w) : fb_AW T X pc L (.int y :: .int x :: S) w := by
  intro ls H locs hl hP hS
  obtain ⟨hdg, rfl, -⟩ := h.2.2.2.2.2.2 _ _ _ _ _ hd
  exact lv_iand h.1.1 h.1.2.1 hdg (k ls H locs hl hP hS)
theorem fw_ior (h : fb_Ok T X post) {x y : Int32} (hd : T.2.1 pc = some (.ior, 1, nx, tg))  (k : fb_AW T X nx L (.int (x ||| y) :: S) w) : fb_AW T X pc L (.int y :: .int x :: S) w := by
  intro ls H locs hl hP hS
  obtain ⟨hdg, rfl, -⟩ := h.2.2.2.2.2.2 _ _ _ _ _ hd
  exact lv_ior h.1.1 h.1.2.1 hdg (k ls H locs hl hP hS)
theorem fw_ixor (h : fb_Ok T X post) {x y : Int32} (hd : T.2.1 pc = some (.ixor, 1, nx, tg))  (k : fb_AW T X nx L (.int (x ^^^ y) :: S) w) : fb_AW T X pc L (.int y :: .int x :: S) w := by
  intro ls H locs hl hP hS
  obtain ⟨hdg, rfl, -⟩ := h.2.2.2.2.2.2 _ _ _ _ _ hd
  exact lv_ixor h.1.1 h.1.2.1 hdg (k ls H locs hl hP hS)
theorem fw_ishl (h : fb_Ok T X post) {x y : Int32} (hd : T.2.1 pc = some (.ishl, 1, nx, tg))  (k : fb_AW T X nx L (.int (x <<< (y &&& 31)) :: S) w) : fb_AW T X pc L (.int y :: .int x :: S) w := by
  intro ls H locs hl hP hS
  obtain ⟨hdg, rfl, -⟩ := h.2.2.2.2.2.2 _ _ _ _ _ hd
  exact lv_ishl h.1.1 h.1.2.1 hdg (k ls H locs hl hP hS)
theorem fw_ishr (h : fb_Ok T X post) {x y : Int32} (hd : T.2.1 pc = some (.ishr, 1, nx, tg))  (k : fb_AW T X nx L (.int (x >>> (y &&& 31)) :: S) w) : fb_AW T X pc L (.int y :: .int x :: S) w := by
  intro ls H locs hl hP hS
  obtain ⟨hdg, rfl, -⟩ := h.2.2.2.2.2.2 _ _ _ _ _ hd
  exact lv_ishr h.1.1 h.1.2.1 hdg (k ls H locs hl hP hS)
theorem fw_iushr (h : fb_Ok T X post) {x y : Int32} (hd : T.2.1 pc = some (.iushr, 1, nx, tg))  (k : fb_AW T X nx L (.int ((x.toUInt32 >>> (y.toUInt32 &&& Int32.toUInt32 31)).toInt32) :: S) w) : fb_AW T X pc L (.int y :: .int x :: S) w := by
  intro ls H locs hl hP hS
  obtain ⟨hdg, rfl, -⟩ := h.2.2.2.2.2.2 _ _ _ _ _ hd
  exact lv_iushr h.1.1 h.1.2.1 hdg rfl (k ls H locs hl hP hS)
theorem fw_idiv (h : fb_Ok T X post) {x y : Int32} (hd : T.2.1 pc = some (.idiv, 1, nx, tg)) (hne : ¬ y = 0) (k : fb_AW T X nx L (.int (x / y) :: S) w) : fb_AW T X pc L (.int y :: .int x :: S) w := by
  intro ls H locs hl hP hS
  obtain ⟨hdg, rfl, -⟩ := h.2.2.2.2.2.2 _ _ _ _ _ hd
  exact lv_idiv h.1.1 h.1.2.1 hdg hne (k ls H locs hl hP hS)
theorem fw_irem (h : fb_Ok T X post) {x y : Int32} (hd : T.2.1 pc = some (.irem, 1, nx, tg)) (hne : ¬ y = 0) (k : fb_AW T X nx L (.int (x - x / y * y) :: S) w) : fb_AW T X pc L (.int y :: .int x :: S) w := by
  intro ls H locs hl hP hS
  obtain ⟨hdg, rfl, -⟩ := h.2.2.2.2.2.2 _ _ _ _ _ hd
  exact lv_irem h.1.1 h.1.2.1 hdg hne (k ls H locs hl hP hS)
theorem fw_ladd (h : fb_Ok T X post) {x y : Int64} (hd : T.2.1 pc = some (.ladd, 1, nx, tg))  (k : fb_AW T X nx L (.long (x + y) :: S) w) : fb_AW T X pc L (.long y :: .long x :: S) w := by
  intro ls H locs hl hP hS
  obtain ⟨hdg, rfl, -⟩ := h.2.2.2.2.2.2 _ _ _ _ _ hd
  exact lv_ladd h.1.1 h.1.2.1 hdg (k ls H locs hl hP hS)
theorem fw_lmul (h : fb_Ok T X post) {x y : Int64} (hd : T.2.1 pc = some (.lmul, 1, nx, tg))  (k : fb_AW T X nx L (.long (x * y) :: S) w) : fb_AW T X pc L (.long y :: .long x :: S) w := by
  intro ls H locs hl hP hS
  obtain ⟨hdg, rfl, -⟩ := h.2.2.2.2.2.2 _ _ _ _ _ hd
  exact lv_lmul h.1.1 h.1.2.1 hdg (k ls H locs hl hP hS)
theorem fw_ldiv (h : fb_Ok T X post) {x y : Int64} (hd : T.2.1 pc = some (.ldiv, 1, nx, tg)) (hne : ¬ y = 0) (k : fb_AW T X nx L (.long (x / y) :: S) w) : fb_AW T X pc L (.long y :: .long x :: S) w := by
  intro ls H locs hl hP hS
  obtain ⟨hdg, rfl, -⟩ := h.2.2.2.2.2.2 _ _ _ _ _ hd
  exact lv_ldiv h.1.1 h.1.2.1 hdg hne (k ls H locs hl hP hS)
theorem fw_lrem (h : fb_Ok T X post) {x y : Int64} (hd : T.2.1 pc = some (.lrem, 1, nx, tg)) (hne : ¬ y = 0) (k : fb_AW T X nx L (.long (x - x / y * y) :: S) w) : fb_AW T X pc L (.long y :: .long x :: S) w := by
  intro ls H locs hl hP hS
  obtain ⟨hdg, rfl, -⟩ := h.2.2.2.2.2.2 _ _ _ _ _ hd
  exact lv_lrem h.1.1 h.1.2.1 hdg hne (k ls H locs hl hP hS)
theorem fw_lshl (h : fb_Ok T X post) {x : Int64} {y : Int32} (hd : T.2.1 pc = some (.lshl, 1, nx, tg))  (k : fb_AW T X nx L (.long (x <<< (y.toInt64 &&& 63)) :: S) w) : fb_AW T X pc L (.int y :: .long x :: S) w := by
  intro ls H locs hl hP hS
  obtain ⟨hdg, rfl, -⟩ := h.2.2.2.2.2.2 _ _ _ _ _ hd
  exact lv_lshl h.1.1 h.1.2.1 hdg rfl (k ls H locs hl hP hS)
theorem fw_i2l (h : fb_Ok T X post) {x : Int32} (hd : T.2.1 pc = some (.i2l, 1, nx, tg))  (k : fb_AW T X nx L (.long x.toInt64 :: S) w) : fb_AW T X pc L (.int x :: S) w := by
  intro ls H locs hl hP hS
  obtain ⟨hdg, rfl, -⟩ := h.2.2.2.2.2.2 _ _ _ _ _ hd
  exact lv_i2l h.1.1 h.1.2.1 hdg rfl (k ls H locs hl hP hS)
theorem fw_lcmp (h : fb_Ok T X post) {x y : Int64} (hd : T.2.1 pc = some (.lcmp, 1, nx, tg))  (k : fb_AW T X nx L (.int (lg_cmp x y) :: S) w) : fb_AW T X pc L (.long y :: .long x :: S) w := by
  intro ls H locs hl hP hS
  obtain ⟨hdg, rfl, -⟩ := h.2.2.2.2.2.2 _ _ _ _ _ hd
  exact W.lcmp h.1.1 h.1.2.1 hdg (k ls H locs hl hP hS)
theorem fw_dup (h : fb_Ok T X post) {a : Value} (hd : T.2.1 pc = some (.dup, 1, nx, tg)) (ha : a.category = 1) (k : fb_AW T X nx L (a :: a :: S) w) : fb_AW T X pc L (a :: S) w := by
  intro ls H locs hl hP hS
  obtain ⟨hdg, rfl, -⟩ := h.2.2.2.2.2.2 _ _ _ _ _ hd
  exact lv_dup h.1.1 h.1.2.1 hdg ((fb_rv_cat _ a).trans ha) (k ls H locs hl hP hS)
theorem fw_dup2 (h : fb_Ok T X post) {a b : Value} (hd : T.2.1 pc = some (.dup2, 1, nx, tg)) (ha : a.category = 1) (hb : b.category = 1) (k : fb_AW T X nx L (a :: b :: a :: b :: S) w) : fb_AW T X pc L (a :: b :: S) w := by
  intro ls H locs hl hP hS
  obtain ⟨hdg, rfl, -⟩ := h.2.2.2.2.2.2 _ _ _ _ _ hd
  exact lv_dup2_11 h.1.1 h.1.2.1 hdg ((fb_rv_cat _ a).trans ha) ((fb_rv_cat _ b).trans hb) (k ls H locs hl hP hS)
theorem fw_if_eq (h : fb_Ok T X post) {x : Int32} {off : Int} {tgt : Nat} (hd : T.2.1 pc = some (.ifCond .eq off, 3, nx, [tgt])) (kt : x = 0 → fb_AW T X tgt L S w) (kf : ¬ x = 0 → fb_AW T X nx L S w) : fb_AW T X pc L (.int x :: S) w := by
  intro ls H locs hl hP hS
  obtain ⟨hdg, rfl, ht⟩ := h.2.2.2.2.2.2 _ _ _ _ _ hd
  exact lv_if_eq h.1.1 h.1.2.1 hdg (List.cons.inj ht).1 (fun q => kt q ls H locs hl hP hS) (fun q => kf q ls H locs hl hP hS)
theorem fw_if_ne (h : fb_Ok T X post) {x : Int32} {off : Int} {tgt : Nat} (hd : T.2.1 pc = some (.ifCond .ne off, 3, nx, [tgt])) (kt : ¬ x = 0 → fb_AW T X tgt L S w) (kf : x = 0 → fb_AW T X nx L S w) : fb_AW T X pc L (.int x :: S) w := by
  intro ls H locs hl hP hS
  obtain ⟨hdg, rfl, ht⟩ := h.2.2.2.2.2.2 _ _ _ _ _ hd
  exact lv_if_ne h.1.1 h.1.2.1 hdg (List.cons.inj ht).1 (fun q => kt q ls H locs hl hP hS) (fun q => kf q ls H locs hl hP hS)
theorem fw_if_lt (h : fb_Ok T X post) {x : Int32} {off : Int} {tgt : Nat} (hd : T.2.1 pc = some (.ifCond .lt off, 3, nx, [tgt])) (kt : x < 0 → fb_AW T X tgt L S w) (kf : ¬ x < 0 → fb_AW T X nx L S w) : fb_AW T X pc L (.int x :: S) w := by
  intro ls H locs hl hP hS
  obtain ⟨hdg, rfl, ht⟩ := h.2.2.2.2.2.2 _ _ _ _ _ hd
  exact lv_if_lt h.1.1 h.1.2.1 hdg (List.cons.inj ht).1 (fun q => kt q ls H locs hl hP hS) (fun q => kf q ls H locs hl hP hS)
theorem fw_if_ge (h : fb_Ok T X post) {x : Int32} {off : Int} {tgt : Nat} (hd : T.2.1 pc = some (.ifCond .ge off, 3, nx, [tgt])) (kt : 0 ≤ x → fb_AW T X tgt L S w) (kf : ¬ 0 ≤ x → fb_AW T X nx L S w) : fb_AW T X pc L (.int x :: S) w := by
  intro ls H locs hl hP hS
  obtain ⟨hdg, rfl, ht⟩ := h.2.2.2.2.2.2 _ _ _ _ _ hd
  exact lv_if_ge h.1.1 h.1.2.1 hdg (List.cons.inj ht).1 (fun q => kt q ls H locs hl hP hS) (fun q => kf q ls H locs hl hP hS)
theorem fw_if_gt (h : fb_Ok T X post) {x : Int32} {off : Int} {tgt : Nat} (hd : T.2.1 pc = some (.ifCond .gt off, 3, nx, [tgt])) (kt : 0 < x → fb_AW T X tgt L S w) (kf : ¬ 0 < x → fb_AW T X nx L S w) : fb_AW T X pc L (.int x :: S) w := by
  intro ls H locs hl hP hS
  obtain ⟨hdg, rfl, ht⟩ := h.2.2.2.2.2.2 _ _ _ _ _ hd
  exact lv_if_gt h.1.1 h.1.2.1 hdg (List.cons.inj ht).1 (fun q => kt q ls H locs hl hP hS) (fun q => kf q ls H locs hl hP hS)
theorem fw_if_le (h : fb_Ok T X post) {x : Int32} {off : Int} {tgt : Nat} (hd : T.2.1 pc = some (.ifCond .le off, 3, nx, [tgt])) (kt : x ≤ 0 → fb_AW T X tgt L S w) (kf : ¬ x ≤ 0 → fb_AW T X nx L S w) : fb_AW T X pc L (.int x :: S) w := by
  intro ls H locs hl hP hS
  obtain ⟨hdg, rfl, ht⟩ := h.2.2.2.2.2.2 _ _ _ _ _ hd
  exact lv_if_le h.1.1 h.1.2.1 hdg (List.cons.inj ht).1 (fun q => kt q ls H locs hl hP hS) (fun q => kf q ls H locs hl hP hS)
theorem fw_icmp_eq (h : fb_Ok T X post) {x y : Int32} {off : Int} {tgt : Nat} (hd : T.2.1 pc = some (.if_icmp .eq off, 3, nx, [tgt])) (kt : x = y → fb_AW T X tgt L S w) (kf : ¬ x = y → fb_AW T X nx L S w) : fb_AW T X pc L (.int y :: .int x :: S) w := by
  intro ls H locs hl hP hS
  obtain ⟨hdg, rfl, ht⟩ := h.2.2.2.2.2.2 _ _ _ _ _ hd
  exact lv_icmp_eq h.1.1 h.1.2.1 hdg (List.cons.inj ht).1 (fun q => kt q ls H locs hl hP hS) (fun q => kf q ls H locs hl hP hS)
theorem fw_icmp_ne (h : fb_Ok T X post) {x y : Int32} {off : Int} {tgt : Nat} (hd : T.2.1 pc = some (.if_icmp .ne off, 3, nx, [tgt])) (kt : ¬ x = y → fb_AW T X tgt L S w) (kf : x = y → fb_AW T X nx L S w) : fb_AW T X pc L (.int y :: .int x :: S) w := by
  intro ls H locs hl hP hS
  obtain ⟨hdg, rfl, ht⟩ := h.2.2.2.2.2.2 _ _ _ _ _ hd
  exact lv_icmp_ne h.1.1 h.1.2.1 hdg (List.cons.inj ht).1 (fun q => kt q ls H locs hl hP hS) (fun q => kf q ls H locs hl hP hS)
theorem fw_icmp_lt (h : fb_Ok T X post) {x y : Int32} {off : Int} {tgt : Nat} (hd : T.2.1 pc = some (.if_icmp .lt off, 3, nx, [tgt])) (kt : x < y → fb_AW T X tgt L S w) (kf : ¬ x < y → fb_AW T X nx L S w) : fb_AW T X pc L (.int y :: .int x :: S) w := by
  intro ls H locs hl hP hS
  obtain ⟨hdg, rfl, ht⟩ := h.2.2.2.2.2.2 _ _ _ _ _ hd
  exact lv_icmp_lt h.1.1 h.1.2.1 hdg (List.cons.inj ht).1 (fun q => kt q ls H locs hl hP hS) (fun q => kf q ls H locs hl hP hS)
theorem fw_icmp_ge (h : fb_Ok T X post) {x y : Int32} {off : Int} {tgt : Nat} (hd : T.2.1 pc = some (.if_icmp .ge off, 3, nx, [tgt])) (kt : y ≤ x → fb_AW T X tgt L S w) (kf : ¬ y ≤ x → fb_AW T X nx L S w) : fb_AW T X pc L (.int y :: .int x :: S) w := by
  intro ls H locs hl hP hS
  obtain ⟨hdg, rfl, ht⟩ := h.2.2.2.2.2.2 _ _ _ _ _ hd
  exact lv_icmp_ge h.1.1 h.1.2.1 hdg (List.cons.inj ht).1 (fun q => kt q ls H locs hl hP hS) (fun q => kf q ls H locs hl hP hS)
theorem fw_icmp_gt (h : fb_Ok T X post) {x y : Int32} {off : Int} {tgt : Nat} (hd : T.2.1 pc = some (.if_icmp .gt off, 3, nx, [tgt])) (kt : y < x → fb_AW T X tgt L S w) (kf : ¬ y < x → fb_AW T X nx L S w) : fb_AW T X pc L (.int y :: .int x :: S) w := by
  intro ls H locs hl hP hS
  obtain ⟨hdg, rfl, ht⟩ := h.2.2.2.2.2.2 _ _ _ _ _ hd
  exact lv_icmp_gt h.1.1 h.1.2.1 hdg (List.cons.inj ht).1 (fun q => kt q ls H locs hl hP hS) (fun q => kf q ls H locs hl hP hS)
theorem fw_icmp_le (h : fb_Ok T X post) {x y : Int32} {off : Int} {tgt : Nat} (hd : T.2.1 pc = some (.if_icmp .le off, 3, nx, [tgt])) (kt : x ≤ y → fb_AW T X tgt L S w) (kf : ¬ x ≤ y → fb_AW T X nx L S w) : fb_AW T X pc L (.int y :: .int x :: S) w := by
  intro ls H locs hl hP hS
  obtain ⟨hdg, rfl, ht⟩ := h.2.2.2.2.2.2 _ _ _ _ _ hd
  exact lv_icmp_le h.1.1 h.1.2.1 hdg (List.cons.inj ht).1 (fun q => kt q ls H locs hl hP hS) (fun q => kf q ls H locs hl hP hS)
theorem fw_goto (h : fb_Ok T X post) {off : Int} {tgt : Nat} (hd : T.2.1 pc = some (.goto off, 3, nx, [tgt])) (k : fb_AW T X tgt L S w) : fb_AW T X pc L S w := by
  intro ls H locs hl hP hS
  obtain ⟨hdg, rfl, ht⟩ := h.2.2.2.2.2.2 _ _ _ _ _ hd
  exact lv_goto h.1.1 h.1.2.1 hdg (List.cons.inj ht).1 (k ls H locs hl hP hS)
theorem fw_switch (h : fb_Ok T X post) {x : Int32} {dflt lo hi : Int} {offs : Array Int} {n d : Nat} {ts : List Nat} (hd : T.2.1 pc = some (.tableswitch dflt lo hi offs, n, nx, d :: ts)) (hlen : offs.toList.length = (hi - lo + 1).toNat)
    (ki : ∀ (j t : Nat), x.toInt = lo + j → ts[j]? = some t → fb_AW T X t L S w) (ko : x.toInt < lo ∨ hi < x.toInt → fb_AW T X d L S w) : fb_AW T X pc L (.int x :: S) w := by
  intro ls H locs hl hP hS
  obtain ⟨hdg, rfl, ht⟩ := h.2.2.2.2.2.2 _ _ _ _ _ hd
  have ht0 := (List.cons.inj ht).1
  have ht1 : offs.toList.map (fun o => (pc : Int) + o) = ts.map (fun t : Nat => (t : Int)) := (List.cons.inj ht).2
  by_cases hc : x.toInt < lo ∨ hi < x.toInt
  · exact lv_tableOut h.1.1 h.1.2.1 hdg hc ht0 (ko hc ls H locs hl hP hS)
  · have h1 : ¬ x.toInt < lo := fun q => hc (Or.inl q)
    have h2 : ¬ hi < x.toInt := fun q => hc (Or.inr q)
    have hj : (x.toInt - lo).toNat < offs.toList.length := by rw [hlen]; omega
    have e1 : offs.toList[(x.toInt - lo).toNat]? = some offs.toList[(x.toInt - lo).toNat] := List.getElem?_eq_getElem hj
    have e2 := congrArg (fun l => l[(x.toInt - lo).toNat]?) ht1
    simp only [List.getElem?_map, e1, Option.map_some] at e2
    cases e3 : ts[(x.toInt - lo).toNat]? with
    | none => rw [e3] at e2; simp at e2
    | some t =>
      rw [e3] at e2
      refine lv_tableIn h.1.1 h.1.2.1 hdg h1 h2 (by rw [← Array.getElem?_toList]; exact e1) (Option.some.inj e2) (ki (x.toInt - lo).toNat t (by omega) e3 ls H locs hl hP hS)
theorem fw_ends (h : fb_Ok T X post) {r : Option Value} (hp : post r w) {H : Heap} {locs : List Loc} (hP : va_P X.2.2.2.1 fb_C (fb_cells X.2.2.2 w) H) (hS : va_S (fb_Adr X.2.2.2) X.1.2.2.2.2.heap H locs) (t : State) (ht : t.heap = H) : fb_Q X.2.2.2 post X.2.1.2.1 X.1.2.2.2.2 (.returned (r.map (fb_rv X.2.2.2.2.2.2))) t :=
  ⟨⟨r, w, rfl, hp, by rw [ht]; exact hP⟩, hS.F ht⟩
theorem fw_iret (h : fb_Ok T X post) {x : Int32} (hd : T.2.1 pc = some (.ireturn, 1, nx, tg)) (hr : T.2.2.2.2.1 = some .int) (hp : post (some (.int x)) w) : fb_AW T X pc L [.int x] w := by
  intro ls H locs hl hP hS
  obtain ⟨hdg, rfl, -⟩ := h.2.2.2.2.2.2 _ _ _ _ _ hd
  unfold fb_W
  rw [h.2.2.2.2.2.1]
  exact W.iret h.1.1 h.1.2.1 (h.2.1.trans hr) (fun t ht _ => fw_ends h hp hP hS t ht) hS.2.2 hdg h.2.2.1
theorem fw_zret (h : fb_Ok T X post) {x : Int32} (hd : T.2.1 pc = some (.ireturn, 1, nx, tg)) (hr : T.2.2.2.2.1 = some .boolean) (hx : x = 0 ∨ x = 1) (hp : post (some (.int x)) w) : fb_AW T X pc L [.int x] w := by
  intro ls H locs hl hP hS
  obtain ⟨hdg, rfl, -⟩ := h.2.2.2.2.2.2 _ _ _ _ _ hd
  unfold fb_W
  rw [h.2.2.2.2.2.1]
  exact W.zret h.1.1 h.1.2.1 (h.2.1.trans hr) (by rcases hx with rfl | rfl <;> decide) (fun t ht _ => fw_ends h hp hP hS t ht) hS.2.2 hdg h.2.2.1
theorem fw_lret (h : fb_Ok T X post) {x : Int64} (hd : T.2.1 pc = some (.lreturn, 1, nx, tg)) (hr : T.2.2.2.2.1 = some .long) (hp : post (some (.long x)) w) : fb_AW T X pc L [.long x] w := by
  intro ls H locs hl hP hS
  obtain ⟨hdg, rfl, -⟩ := h.2.2.2.2.2.2 _ _ _ _ _ hd
  unfold fb_W
  rw [h.2.2.2.2.2.1]
  exact W.lret h.1.1 h.1.2.1 (h.2.1.trans hr) (fun t ht _ => fw_ends h hp hP hS t ht) hS.2.2 hdg h.2.2.1
theorem fw_vret (h : fb_Ok T X post) (hd : T.2.1 pc = some (.return_, 1, nx, tg)) (hr : T.2.2.2.2.1 = none) (hp : post none w) : fb_AW T X pc L [] w := by
  intro ls H locs hl hP hS
  obtain ⟨hdg, rfl, -⟩ := h.2.2.2.2.2.2 _ _ _ _ _ hd
  unfold fb_W
  rw [h.2.2.2.2.2.1]
  exact W.vret h.1.1 h.1.2.1 (h.2.1.trans hr) (fun t ht _ => fw_ends h hp hP hS t ht) hS.2.2 hdg h.2.2.1
theorem fw_iald (h : fb_Ok T X post) {i : Int32} {c n : Nat} (hd : T.2.1 pc = some (.iaload, 1, nx, tg)) (hc : fb_S[c]? = some (.inl (false, n))) (hi : vp_in i n) (k : fb_AW T X nx L (.int (w.1 c i.toNatClampNeg) :: S) w) : fb_AW T X pc L (.int i :: .ref c :: S) w := by
  intro ls H locs hl hP hS
  obtain ⟨hdg, rfl, -⟩ := h.2.2.2.2.2.2 _ _ _ _ _ hd
  exact va_iald h.1.1 h.1.2.1 h.2.2.2.2.1.1 hP c 0 (fb_get hc) rfl hi hdg (k ls H locs hl hP hS)
theorem fw_zald (h : fb_Ok T X post) {i : Int32} {c n : Nat} (hd : T.2.1 pc = some (.baload, 1, nx, tg)) (hc : fb_S[c]? = some (.inl (true, n))) (hi : vp_in i n) (k : fb_AW T X nx L (.int (w.1 c i.toNatClampNeg) :: S) w) : fb_AW T X pc L (.int i :: .ref c :: S) w := by
  intro ls H locs hl hP hS
  obtain ⟨hdg, rfl, -⟩ := h.2.2.2.2.2.2 _ _ _ _ _ hd
  exact va_zald h.1.1 h.1.2.1 h.2.2.2.2.1.1 hP c 1 (fb_get hc) rfl hi hdg (k ls H locs hl hP hS)
theorem fw_iast (h : fb_Ok T X post) {i x : Int32} {c n : Nat} (hd : T.2.1 pc = some (.iastore, 1, nx, tg)) (hc : fb_S[c]? = some (.inl (false, n))) (hi : vp_in i n) (k : fb_AW T X nx L S (fb_up w c i.toNatClampNeg x)) : fb_AW T X pc L (.int x :: .int i :: .ref c :: S) w := by
  intro ls H locs hl hP hS
  obtain ⟨hdg, rfl, -⟩ := h.2.2.2.2.2.2 _ _ _ _ _ hd
  refine va_iast h.1.1 h.1.2.1 h.2.2.2.2.1.1 hP (fb_D h.2.2.2.2.1 w) hS c 0 (fb_get hc) rfl hi hdg (fun H1 locs1 hP1 _ hS1 => ?_)
  have e := fb_setA (E := X.2.2.2) (w := w) (upd (w.1 c) i.toNatClampNeg x) hc
  rw [fb_ua_up] at e
  exact k ls H1 locs1 hl (e ▸ hP1) hS1
theorem fw_zast (h : fb_Ok T X post) {i x : Int32} {c n : Nat} (hd : T.2.1 pc = some (.bastore, 1, nx, tg)) (hc : fb_S[c]? = some (.inl (true, n))) (hi : vp_in i n) (hx : x = 0 ∨ x = 1) (k : fb_AW T X nx L S (fb_up w c i.toNatClampNeg x)) : fb_AW T X pc L (.int x :: .int i :: .ref c :: S) w := by
  intro ls H locs hl hP hS
  obtain ⟨hdg, rfl, -⟩ := h.2.2.2.2.2.2 _ _ _ _ _ hd
  refine va_zast h.1.1 h.1.2.1 h.2.2.2.2.1.1 hP (fb_D h.2.2.2.2.1 w) hS c 1 (fb_get hc) rfl hi hdg (fun H1 locs1 hP1 _ hS1 => ?_)
  have e := fb_setA (E := X.2.2.2) (w := w) (upd (w.1 c) i.toNatClampNeg (vp_nar .boolean x)) hc
  have e3 : vp_nar .boolean x = x := by rcases hx with rfl | rfl <;> decide
  rw [e3, fb_ua_up] at e
  rw [e3] at hP1
  exact k ls H1 locs1 hl (e ▸ hP1) hS1
end FW
end
section
theorem fb_gT_good {w : Cond} (h : w ∈ fb_gT) : (w.onTables && w.keeps) = true ∨ ∃ ty, w = .arrayClass ty := good_of_word (List.mem_filter.mp h).2
theorem fb_goodIn {c : Cond} (hc : c ∈ fb_gT) : GoodIn fb_gT (c :: fb_gT) := by
  intro w hw
  rcases List.mem_cons.mp hw with rfl | h
  · exact ⟨hc, fb_gT_good hc⟩
  · exact ⟨h, fb_gT_good h⟩
def fb_LM (T2 : fb_T) (n : Nat) : Prop := Cond.code T2.1 T2.2.2.1 T2.2.2.2.1 T2.2.2.2.2.1 ∈ fb_gT ∧ Cond.initialized T2.1.cls ∈ fb_gT ∧ (T2.1.cls ≠ "java/lang/invoke/MethodHandle" ∧ T2.1.cls ≠ "java/lang/invoke/VarHandle" ∧ (parseMethodDescriptor T2.1.desc).map (fun d => d.parameters.length) = some n)
def fb_LL (own : String) (idx : Nat) (y : MethodName) : Prop := Cond.methodLink own idx y ∈ fb_gT ∨ ∃ host, Cond.methodLinkNest own idx y host ∈ fb_nT
def fb_LV (T2 : fb_T) (n : Nat) : Prop := fb_LM T2 n ∧ Cond.instanceMethod T2.1 ∈ fb_gT ∧ Cond.selects T2.1.cls T2.1 T2.1 ∈ fb_gT
def fb_LS (T2 : fb_T) (n : Nat) : Prop := fb_LM T2 n ∧ Cond.static T2.1 ∈ fb_gT
section FC
variable {p : Program} {l : Launch} {e : Env} {R : Room} {s : State} {m : MethodId} {args : Array Value} {below : List Frame} {meth : Method} {c : Code} {H : Heap} {locs : List Loc} {cells slots : Nat} {Q : State → Prop}
variable {pc nL idx n : Nat} {ls : Array Slot} {rest st0 : List Value} {a : Array Value} {A0 : Nat → Prop} {H0 : Heap} {E : fb_En} {post : Option Value → fb_Wd → Prop} {cc : ByteArray} {own : String} {T2 : fb_T} {w : fb_Wd}
theorem fb_goon (hr : va_Run p l e R s m args below meth c H locs cells slots 0 0 (F0 m pc ls st0) rest (fb_Q E post a) (fb_Adr E)) (hS : va_S A0 H0 H locs) (hA : ∀ q, fb_Adr E q → A0 q)
    (kk : ∀ (r : Option Value) (w' : fb_Wd) (H1 : Heap) (locs1 : List Loc), post r w' → va_P E.1 fb_C (fb_cells E w') H1 → va_S A0 H0 H1 locs1 → W p l e R s m args below meth c H1 locs1 cells slots Q (F0 m (pc + 3) ls ((r.map (fb_rv E.2.2.2)).toList ++ rest))) : W p l e R s m args below meth c H locs cells slots Q (F0 m pc ls st0) := by
  intro T hT X
  obtain ⟨v, st₀, t, T', L, h0, X', hL, e1, e2, ⟨⟨r, w', hv, hp, hb⟩, hz, hk⟩, st⟩ := hr T hT X
  have hv' : v = r.map (fb_rv E.2.2.2) := Outcome.returned.inj hv
  subst hv'
  rw [h0] at hz hk
  obtain ⟨t2, a1, b1⟩ := kk r w' T'.heap (locs ++ L) hp (by rw [e1]; exact hb)
    ⟨Nat.le_trans hS.1 (by rw [e1]; exact hz), fun q h1 h2 => by rw [e1, hk q (Nat.lt_of_lt_of_le h1 hS.1) (fun z => h2 (hA q z))]; exact hS.2.1 q h1 h2, fun q hq => by
      rcases List.mem_append.mp hq with h | h
      · exact hS.2.2 q h
      · exact hA _ (hL q h)⟩ T' rfl X'
  exact ⟨t2, st t2 a1, b1⟩
theorem fb_blind (E : fb_En) (av : List Value) (w : fb_Wd) : FrameBlind (va_Pc av (fun U => va_P E.1 fb_C (fb_cells E w) U.heap ∧ fb_Env E U)) := by
  intro a U g mk h
  exact ⟨h.1, h.2.1, h.2.2.calling g mk a⟩
theorem fb_callV {q ci N : Nat} {ks : List Nat} {Tb : u_T} {As : List Value} (S : CallFix p m c cc nL s args fb_gT own) (hE : fb_Env E s) (hC : fb_Can l T2 (.ref q :: As) w post) (hM : fb_LV T2 n) (hL : fb_LL own idx T2.1) (hn : As.length = n) (hq : fb_S[q]? = some (.inr (ci, ks))) (hcl : fb_C[ci]? = some (T2.1.cls, Tb, N))
    (hR : (fb_rm T2.2.2.2.2.2).frames + 1 ≤ R.frames ∧ 8 + (T2.2.2.2.1 + 11) + (fb_rm T2.2.2.2.2.2).locals ≤ R.locals) (hP : va_P E.1 fb_C (fb_cells E w) H) (hS : va_S A0 H0 H locs) (hA : ∀ q, fb_Adr E q → A0 q) (hsz : ls.size = nL) (hW : (rest.map fun v => v.category).sum ≤ 8) (hdg : decode cc pc = .ok (.invokevirtual idx, 3)) (hf : cells ≤ R.cells ∧ slots ≤ R.slots) (hst : st0 = (As.map (fb_rv E.2.2.2)).reverse ++ .ref (E.2.2.2 q) :: rest)
    (kk : ∀ (r : Option Value) (w' : fb_Wd) (H1 : Heap) (locs1 : List Loc), post r w' → va_P E.1 fb_C (fb_cells E w') H1 → va_S A0 H0 H1 locs1 → W p l e R s m args below meth c H1 locs1 cells slots Q (F0 m (pc + 3) ls ((r.map (fb_rv E.2.2.2)).toList ++ rest))) : W p l e R s m args below meth c H locs cells slots Q (F0 m pc ls st0) := by
  obtain ⟨⟨hcode, hini, hd⟩, hin, hsel⟩ := hM
  have hts := S.2.2.2.2
  have hp : PreV s H T2.1.cls (E.2.2.2 q) (va_Pc ((Value.ref q :: As).map (fb_rv E.2.2.2)) (fun U => va_P E.1 fb_C (fb_cells E w) U.heap ∧ fb_Env E U)) (As.map (fb_rv E.2.2.2)) :=
    ⟨fb_blind E _ w, va_recv hE.1 hP hcl (fb_get hq), fun U hU hW => ⟨rfl, by rw [hU]; exact hP, hE.warm hW⟩⟩
  refine fb_goon (rest := rest) (a := (Value.ref (E.2.2.2 q) :: As.map (fb_rv E.2.2.2)).toArray) ?_ hS hA kk
  rcases hL with hl | ⟨host, hl⟩
  · exact va_runV S (hC E) ⟨callB_of n hts (fb_goodIn hcode) rfl rfl rfl (hts _ hini) (hts _ hl) hd hR, hts _ hin, hts _ hsel⟩ hp rfl (by rw [List.length_map]; exact hn) hsz hst (lv_room hW) hdg hf
  · exact va_runVN S (hC E) ⟨va_cnB n hts (fb_goodIn hcode) rfl rfl rfl (hE.2.2 _ hl) (hts _ hini) hd hR, hts _ hin, hts _ hsel⟩ hp rfl (by rw [List.length_map]; exact hn) hsz hst (lv_room hW) hdg hf
theorem fb_callS {As : List Value} (S : CallFix p m c cc nL s args fb_gT own) (hE : fb_Env E s) (hC : fb_Can l T2 As w post) (hM : fb_LS T2 n) (hL : fb_LL own idx T2.1) (hn : As.length = n)
    (hR : (fb_rm T2.2.2.2.2.2).frames + 1 ≤ R.frames ∧ 8 + (T2.2.2.2.1 + 11) + (fb_rm T2.2.2.2.2.2).locals ≤ R.locals) (hP : va_P E.1 fb_C (fb_cells E w) H) (hS : va_S A0 H0 H locs) (hA : ∀ q, fb_Adr E q → A0 q) (hsz : ls.size = nL) (hW : (rest.map fun v => v.category).sum ≤ 8) (hdg : decode cc pc = .ok (.invokestatic idx, 3)) (hf : cells ≤ R.cells ∧ slots ≤ R.slots) (hst : st0 = (As.map (fb_rv E.2.2.2)).reverse ++ rest)
    (kk : ∀ (r : Option Value) (w' : fb_Wd) (H1 : Heap) (locs1 : List Loc), post r w' → va_P E.1 fb_C (fb_cells E w') H1 → va_S A0 H0 H1 locs1 → W p l e R s m args below meth c H1 locs1 cells slots Q (F0 m (pc + 3) ls ((r.map (fb_rv E.2.2.2)).toList ++ rest))) : W p l e R s m args below meth c H locs cells slots Q (F0 m pc ls st0) := by
  obtain ⟨⟨hcode, hini, hd⟩, hstt⟩ := hM
  have hts := S.2.2.2.2
  have hp : PreS s H (va_Pc (As.map (fb_rv E.2.2.2)) (fun U => va_P E.1 fb_C (fb_cells E w) U.heap ∧ fb_Env E U)) (As.map (fb_rv E.2.2.2)) :=
    ⟨fb_blind E _ w, fun U hU hW => ⟨rfl, by rw [hU]; exact hP, hE.warm hW⟩⟩
  refine fb_goon (rest := rest) (a := (As.map (fb_rv E.2.2.2)).toArray) ?_ hS hA kk
  rcases hL with hl | ⟨host, hl⟩
  · exact va_runS S (hC E) ⟨callB_of n hts (fb_goodIn hcode) rfl rfl rfl (hts _ hini) (hts _ hl) hd hR, hts _ hstt⟩ hp rfl (by rw [List.length_map]; exact hn) hsz hst (lv_room hW) hdg hf
  · exact va_runSN S (hC E) ⟨va_cnB n hts (fb_goodIn hcode) rfl rfl rfl (hE.2.2 _ hl) (hts _ hini) hd hR, hts _ hstt, trivial⟩ hp rfl (by rw [List.length_map]; exact hn) hsz hst (lv_room hW) hdg hf
end FC
section FD
variable {T T2 : fb_T} {X : fb_Cx} {post : Option Value → fb_Wd → Prop} {pc nx idx : Nat} {tg : List Nat} {L : List (Option Value)} {S S0 : List Value} {w : fb_Wd}
def fb_rk (T2 T : fb_T) : Bool := Nat.ble (T2.2.2.2.2.2 + 1) T.2.2.2.2.2 && Nat.ble T2.2.2.2.1 21
theorem fb_rk_of (h : fb_rk T2 T = true) : (fb_rm T2.2.2.2.2.2).frames + 1 ≤ (fb_rm T.2.2.2.2.2).frames ∧ 8 + (T2.2.2.2.1 + 11) + (fb_rm T2.2.2.2.2.2).locals ≤ (fb_rm T.2.2.2.2.2).locals := by
  simp only [fb_rk, Bool.and_eq_true] at h
  have h1 := Nat.le_of_ble_eq_true h.1
  have h2 := Nat.le_of_ble_eq_true h.2
  simp only [fb_rm]
  omega
def fb_ct (S : List Value) : Nat := (S.map fun v => v.category).sum
theorem fb_ct_rv (ad : Nat → Nat) (S : List Value) : ((S.map (fb_rv ad)).map fun v => v.category).sum = fb_ct S := by
  unfold fb_ct
  rw [List.map_map]
  congr 1
  apply List.map_congr_left
  intro v _
  exact fb_rv_cat ad v
theorem fw_callV {q ci N n : Nat} {ks : List Nat} {Tb : u_T} {As : List Value} (h : fb_Ok T X post) (hd : T.2.1 pc = some (.invokevirtual idx, 3, nx, tg)) (hM : fb_LV T2 n) (hL : fb_LL T.1.cls idx T2.1) (hn : As.length = n) (hq : fb_S[q]? = some (.inr (ci, ks))) (hcl : fb_C[ci]? = some (T2.1.cls, Tb, N)) (hk : fb_rk T2 T = true) (hc : Nat.ble (fb_ct S) 8 = true) (hst : S0 = As.reverse ++ .ref q :: S)
    (hC : fb_Can X.1.2.1 T2 (.ref q :: As) w (fun r w' => fb_AW T X nx L (r.toList ++ S) w')) : fb_AW T X pc L S0 w := by
  intro ls H locs hl hP hS
  obtain ⟨hdg, rfl, -⟩ := h.2.2.2.2.2.2 _ _ _ _ _ hd
  refine fb_callV h.1 h.2.2.2.2.1 hC hM hL hn hq hcl (by rw [h.2.2.2.1]; exact fb_rk_of hk) hP hS (fun _ z => z) hl.1 (rest := S.map (fb_rv X.2.2.2.2.2.2)) (by rw [fb_ct_rv]; exact Nat.le_of_ble_eq_true hc) hdg ⟨Nat.zero_le _, Nat.zero_le _⟩ (by rw [hst, List.map_append, List.map_reverse]; rfl) ?_
  intro r w' H1 locs1 hp hP1 hS1
  have e : (r.map (fb_rv X.2.2.2.2.2.2)).toList ++ S.map (fb_rv X.2.2.2.2.2.2) = (r.toList ++ S).map (fb_rv X.2.2.2.2.2.2) := by cases r <;> rfl
  rw [e]
  exact hp ls H1 locs1 hl hP1 hS1
theorem fw_callS {n : Nat} {As : List Value} (h : fb_Ok T X post) (hd : T.2.1 pc = some (.invokestatic idx, 3, nx, tg)) (hM : fb_LS T2 n) (hL : fb_LL T.1.cls idx T2.1) (hn : As.length = n) (hk : fb_rk T2 T = true) (hc : Nat.ble (fb_ct S) 8 = true) (hst : S0 = As.reverse ++ S)
    (hC : fb_Can X.1.2.1 T2 As w (fun r w' => fb_AW T X nx L (r.toList ++ S) w')) : fb_AW T X pc L S0 w := by
  intro ls H locs hl hP hS
  obtain ⟨hdg, rfl, -⟩ := h.2.2.2.2.2.2 _ _ _ _ _ hd
  refine fb_callS h.1 h.2.2.2.2.1 hC hM hL hn (by rw [h.2.2.2.1]; exact fb_rk_of hk) hP hS (fun _ z => z) hl.1 (rest := S.map (fb_rv X.2.2.2.2.2.2)) (by rw [fb_ct_rv]; exact Nat.le_of_ble_eq_true hc) hdg ⟨Nat.zero_le _, Nat.zero_le _⟩ (by rw [hst, List.map_append, List.map_reverse]) ?_
  intro r w' H1 locs1 hp hP1 hS1
  have e : (r.map (fb_rv X.2.2.2.2.2.2)).toList ++ S.map (fb_rv X.2.2.2.2.2.2) = (r.toList ++ S).map (fb_rv X.2.2.2.2.2.2) := by cases r <;> rfl
  rw [e]
  exact hp ls H1 locs1 hl hP1 hS1
theorem fw_v0 {q ci N : Nat} {ks : List Nat} {Tb : u_T} (h : fb_Ok T X post) (hd : T.2.1 pc = some (.invokevirtual idx, 3, nx, tg)) (hM : fb_LV T2 0) (hL : fb_LL T.1.cls idx T2.1) (hq : fb_S[q]? = some (.inr (ci, ks))) (hcl : fb_C[ci]? = some (T2.1.cls, Tb, N)) (hk : fb_rk T2 T = true) (hc : Nat.ble (fb_ct S) 8 = true) (hC : fb_Can X.1.2.1 T2 [.ref q] w (fun r w' => fb_AW T X nx L (r.toList ++ S) w')) : fb_AW T X pc L (.ref q :: S) w := fw_callV (As := []) h hd hM hL rfl hq hcl hk hc rfl hC
theorem fw_v1 {q ci N : Nat} {ks : List Nat} {Tb : u_T} {a1 : Value} (h : fb_Ok T X post) (hd : T.2.1 pc = some (.invokevirtual idx, 3, nx, tg)) (hM : fb_LV T2 1) (hL : fb_LL T.1.cls idx T2.1) (hq : fb_S[q]? = some (.inr (ci, ks))) (hcl : fb_C[ci]? = some (T2.1.cls, Tb, N)) (hk : fb_rk T2 T = true) (hc : Nat.ble (fb_ct S) 8 = true) (hC : fb_Can X.1.2.1 T2 [.ref q, a1] w (fun r w' => fb_AW T X nx L (r.toList ++ S) w')) : fb_AW T X pc L (a1 :: .ref q :: S) w := fw_callV (As := [a1]) h hd hM hL rfl hq hcl hk hc rfl hC
theorem fw_v2 {q ci N : Nat} {ks : List Nat} {Tb : u_T} {a1 a2 : Value} (h : fb_Ok T X post) (hd : T.2.1 pc = some (.invokevirtual idx, 3, nx, tg)) (hM : fb_LV T2 2) (hL : fb_LL T.1.cls idx T2.1) (hq : fb_S[q]? = some (.inr (ci, ks))) (hcl : fb_C[ci]? = some (T2.1.cls, Tb, N)) (hk : fb_rk T2 T = true) (hc : Nat.ble (fb_ct S) 8 = true) (hC : fb_Can X.1.2.1 T2 [.ref q, a1, a2] w (fun r w' => fb_AW T X nx L (r.toList ++ S) w')) : fb_AW T X pc L (a2 :: a1 :: .ref q :: S) w := fw_callV (As := [a1, a2]) h hd hM hL rfl hq hcl hk hc rfl hC
theorem fw_v3 {q ci N : Nat} {ks : List Nat} {Tb : u_T} {a1 a2 a3 : Value} (h : fb_Ok T X post) (hd : T.2.1 pc = some (.invokevirtual idx, 3, nx, tg)) (hM : fb_LV T2 3) (hL : fb_LL T.1.cls idx T2.1) (hq : fb_S[q]? = some (.inr (ci, ks))) (hcl : fb_C[ci]? = some (T2.1.cls, Tb, N)) (hk : fb_rk T2 T = true) (hc : Nat.ble (fb_ct S) 8 = true) (hC : fb_Can X.1.2.1 T2 [.ref q, a1, a2, a3] w (fun r w' => fb_AW T X nx L (r.toList ++ S) w')) : fb_AW T X pc L (a3 :: a2 :: a1 :: .ref q :: S) w := fw_callV (As := [a1, a2, a3]) h hd hM hL rfl hq hcl hk hc rfl hC
theorem fw_v4 {q ci N : Nat} {ks : List Nat} {Tb : u_T} {a1 a2 a3 a4 : Value} (h : fb_Ok T X post) (hd : T.2.1 pc = some (.invokevirtual idx, 3, nx, tg)) (hM : fb_LV T2 4) (hL : fb_LL T.1.cls idx T2.1) (hq : fb_S[q]? = some (.inr (ci, ks))) (hcl : fb_C[ci]? = some (T2.1.cls, Tb, N)) (hk : fb_rk T2 T = true) (hc : Nat.ble (fb_ct S) 8 = true) (hC : fb_Can X.1.2.1 T2 [.ref q, a1, a2, a3, a4] w (fun r w' => fb_AW T X nx L (r.toList ++ S) w')) : fb_AW T X pc L (a4 :: a3 :: a2 :: a1 :: .ref q :: S) w := fw_callV (As := [a1, a2, a3, a4]) h hd hM hL rfl hq hcl hk hc rfl hC
theorem fw_v5 {q ci N : Nat} {ks : List Nat} {Tb : u_T} {a1 a2 a3 a4 a5 : Value} (h : fb_Ok T X post) (hd : T.2.1 pc = some (.invokevirtual idx, 3, nx, tg)) (hM : fb_LV T2 5) (hL : fb_LL T.1.cls idx T2.1) (hq : fb_S[q]? = some (.inr (ci, ks))) (hcl : fb_C[ci]? = some (T2.1.cls, Tb, N)) (hk : fb_rk T2 T = true) (hc : Nat.ble (fb_ct S) 8 = true) (hC : fb_Can X.1.2.1 T2 [.ref q, a1, a2, a3, a4, a5] w (fun r w' => fb_AW T X nx L (r.toList ++ S) w')) : fb_AW T X pc L (a5 :: a4 :: a3 :: a2 :: a1 :: .ref q :: S) w := fw_callV (As := [a1, a2, a3, a4, a5]) h hd hM hL rfl hq hcl hk hc rfl hC
theorem fw_v6 {q ci N : Nat} {ks : List Nat} {Tb : u_T} {a1 a2 a3 a4 a5 a6 : Value} (h : fb_Ok T X post) (hd : T.2.1 pc = some (.invokevirtual idx, 3, nx, tg)) (hM : fb_LV T2 6) (hL : fb_LL T.1.cls idx T2.1) (hq : fb_S[q]? = some (.inr (ci, ks))) (hcl : fb_C[ci]? = some (T2.1.cls, Tb, N)) (hk : fb_rk T2 T = true) (hc : Nat.ble (fb_ct S) 8 = true) (hC : fb_Can X.1.2.1 T2 [.ref q, a1, a2, a3, a4, a5, a6] w (fun r w' => fb_AW T X nx L (r.toList ++ S) w')) : fb_AW T X pc L (a6 :: a5 :: a4 :: a3 :: a2 :: a1 :: .ref q :: S) w := fw_callV (As := [a1, a2, a3, a4, a5, a6]) h hd hM hL rfl hq hcl hk hc rfl hC
theorem fw_s0 (h : fb_Ok T X post) (hd : T.2.1 pc = some (.invokestatic idx, 3, nx, tg)) (hM : fb_LS T2 0) (hL : fb_LL T.1.cls idx T2.1) (hk : fb_rk T2 T = true) (hc : Nat.ble (fb_ct S) 8 = true) (hC : fb_Can X.1.2.1 T2 [] w (fun r w' => fb_AW T X nx L (r.toList ++ S) w')) : fb_AW T X pc L (S) w := fw_callS (As := []) h hd hM hL rfl hk hc rfl hC
theorem fw_s1 {a1 : Value} (h : fb_Ok T X post) (hd : T.2.1 pc = some (.invokestatic idx, 3, nx, tg)) (hM : fb_LS T2 1) (hL : fb_LL T.1.cls idx T2.1) (hk : fb_rk T2 T = true) (hc : Nat.ble (fb_ct S) 8 = true) (hC : fb_Can X.1.2.1 T2 [a1] w (fun r w' => fb_AW T X nx L (r.toList ++ S) w')) : fb_AW T X pc L (a1 :: S) w := fw_callS (As := [a1]) h hd hM hL rfl hk hc rfl hC
theorem fw_s2 {a1 a2 : Value} (h : fb_Ok T X post) (hd : T.2.1 pc = some (.invokestatic idx, 3, nx, tg)) (hM : fb_LS T2 2) (hL : fb_LL T.1.cls idx T2.1) (hk : fb_rk T2 T = true) (hc : Nat.ble (fb_ct S) 8 = true) (hC : fb_Can X.1.2.1 T2 [a1, a2] w (fun r w' => fb_AW T X nx L (r.toList ++ S) w')) : fb_AW T X pc L (a2 :: a1 :: S) w := fw_callS (As := [a1, a2]) h hd hM hL rfl hk hc rfl hC
theorem fw_s3 {a1 a2 a3 : Value} (h : fb_Ok T X post) (hd : T.2.1 pc = some (.invokestatic idx, 3, nx, tg)) (hM : fb_LS T2 3) (hL : fb_LL T.1.cls idx T2.1) (hk : fb_rk T2 T = true) (hc : Nat.ble (fb_ct S) 8 = true) (hC : fb_Can X.1.2.1 T2 [a1, a2, a3] w (fun r w' => fb_AW T X nx L (r.toList ++ S) w')) : fb_AW T X pc L (a3 :: a2 :: a1 :: S) w := fw_callS (As := [a1, a2, a3]) h hd hM hL rfl hk hc rfl hC
theorem fw_s4 {a1 a2 a3 a4 : Value} (h : fb_Ok T X post) (hd : T.2.1 pc = some (.invokestatic idx, 3, nx, tg)) (hM : fb_LS T2 4) (hL : fb_LL T.1.cls idx T2.1) (hk : fb_rk T2 T = true) (hc : Nat.ble (fb_ct S) 8 = true) (hC : fb_Can X.1.2.1 T2 [a1, a2, a3, a4] w (fun r w' => fb_AW T X nx L (r.toList ++ S) w')) : fb_AW T X pc L (a4 :: a3 :: a2 :: a1 :: S) w := fw_callS (As := [a1, a2, a3, a4]) h hd hM hL rfl hk hc rfl hC
theorem fw_s5 {a1 a2 a3 a4 a5 : Value} (h : fb_Ok T X post) (hd : T.2.1 pc = some (.invokestatic idx, 3, nx, tg)) (hM : fb_LS T2 5) (hL : fb_LL T.1.cls idx T2.1) (hk : fb_rk T2 T = true) (hc : Nat.ble (fb_ct S) 8 = true) (hC : fb_Can X.1.2.1 T2 [a1, a2, a3, a4, a5] w (fun r w' => fb_AW T X nx L (r.toList ++ S) w')) : fb_AW T X pc L (a5 :: a4 :: a3 :: a2 :: a1 :: S) w := fw_callS (As := [a1, a2, a3, a4, a5]) h hd hM hL rfl hk hc rfl hC
def fb_FL (own : String) (idx ci k : Nat) : Prop := ∃ (C : String) (Tb : u_T) (N : Nat), fb_C[ci]? = some (C, Tb, N) ∧ k < N ∧ (∀ w ∈ u_ws C Tb N, w ∈ fb_gT) ∧ (Tb k).1 = C ∧ (Cond.fieldLink own idx C (Tb k).2.1 (Tb k).2.2.1 ∈ fb_gT ∨ ∃ host, Cond.fieldLinkNest own idx C (Tb k).2.1 (Tb k).2.2.1 host ∈ fb_nT)
def fb_FP (own : String) (idx ci k : Nat) (ty : FieldType) : Prop := ∃ (C : String) (Tb : u_T) (N : Nat), fb_C[ci]? = some (C, Tb, N) ∧ k < N ∧ (∀ w ∈ u_ws C Tb N, w ∈ fb_gT) ∧ (Tb k).1 = C ∧ (Cond.fieldLink own idx C (Tb k).2.1 (Tb k).2.2.1 ∈ fb_gT ∨ ∃ host, Cond.fieldLinkNest own idx C (Tb k).2.1 (Tb k).2.2.1 host ∈ fb_nT) ∧ (∃ ty0 : Nat → FieldType, ∀ k, k < N → parseFieldDescriptor (Tb k).2.2.1 = some (ty0 k)) ∧ (∀ a, a < N → ∀ b, b < N → a ≠ b → (Tb a).2.1 ≠ (Tb b).2.1) ∧ (Tb k).2.2.2 = false ∧ parseFieldDescriptor (Tb k).2.2.1 = some ty
theorem fb_getf {c ci k q : Nat} {ks : List Nat} (h : fb_Ok T X post) (hd : T.2.1 pc = some (.getfield idx, 3, nx, tg)) (hF : fb_FL T.1.cls idx ci k) (hc : fb_S[c]? = some (.inr (ci, ks))) (hk : ks[k]? = some q) {v : Value} (hv : fb_slt X.2.2.2.2.2.2 w c k q = fb_rv X.2.2.2.2.2.2 v) (kk : fb_AW T X nx L (v :: S) w) : fb_AW T X pc L (.ref c :: S) w := by
  intro ls H locs hl hP hS
  obtain ⟨hdg, rfl, -⟩ := h.2.2.2.2.2.2 _ _ _ _ _ hd
  obtain ⟨C, Tb, N, h1, h2, h3, h4, h5⟩ := hF
  have hv' : (ks.mapIdx (fun j k => fb_slt X.2.2.2.2.2.2 w c j k))[k]? = some (fb_rv X.2.2.2.2.2.2 v) := by rw [List.getElem?_mapIdx, hk]; exact congrArg some hv
  rcases h5 with hlk | ⟨host, hlk⟩
  · exact va_get h.1.1 h.1.2.1 h.1.2.2.2.2 h3 h.1.2.2.2.1 h.2.2.2.2.1.1 hP c (fb_get hc) h1 k h2 (h.1.2.2.2.2 _ hlk) (fun x hx => by rw [h4] at hx; exact hx) hv' hdg (kk ls H locs hl hP hS)
  · exact va_getN h.1.1 h.1.2.1 h.1.2.2.2.2 h3 h.1.2.2.2.1 h.2.2.2.2.1.1 hP c (fb_get hc) h1 k h2 (va_Nw.use rfl (h.2.2.2.2.1.2.2 _ hlk)) (fun x hx => by rw [h4] at hx; exact hx) hv' hdg (kk ls H locs hl hP hS)
theorem fw_getI {c ci k : Nat} {ks : List Nat} (h : fb_Ok T X post) (hd : T.2.1 pc = some (.getfield idx, 3, nx, tg)) (hF : fb_FL T.1.cls idx ci k) (hc : fb_S[c]? = some (.inr (ci, ks))) (hk : ks[k]? = some 0) (kk : fb_AW T X nx L (.int (w.1 c k) :: S) w) : fb_AW T X pc L (.ref c :: S) w := fb_getf h hd hF hc hk rfl kk
theorem fw_getL {c ci k : Nat} {ks : List Nat} (h : fb_Ok T X post) (hd : T.2.1 pc = some (.getfield idx, 3, nx, tg)) (hF : fb_FL T.1.cls idx ci k) (hc : fb_S[c]? = some (.inr (ci, ks))) (hk : ks[k]? = some 1) (kk : fb_AW T X nx L (.long (w.2 c k) :: S) w) : fb_AW T X pc L (.ref c :: S) w := fb_getf h hd hF hc hk rfl kk
theorem fw_getR {c ci k : Nat} (c2 : Nat) {ks : List Nat} (h : fb_Ok T X post) (hd : T.2.1 pc = some (.getfield idx, 3, nx, tg)) (hF : fb_FL T.1.cls idx ci k) (hc : fb_S[c]? = some (.inr (ci, ks))) (hk : ks[k]? = some (c2 + 2)) (kk : fb_AW T X nx L (.ref c2 :: S) w) : fb_AW T X pc L (.ref c :: S) w := fb_getf h hd hF hc hk rfl kk
theorem fb_FP.toFL {own : String} {ci k : Nat} {ty : FieldType} (h : fb_FP own idx ci k ty) : fb_FL own idx ci k := by
  obtain ⟨C, Tb, N, h1, h2, h3, h4, h5, -⟩ := h
  exact ⟨C, Tb, N, h1, h2, h3, h4, h5⟩
theorem fw_putI {c ci k : Nat} {ks : List Nat} {x : Int32} (h : fb_Ok T X post) (hd : T.2.1 pc = some (.putfield idx, 3, nx, tg)) (hF : fb_FP T.1.cls idx ci k .int) (hc : fb_S[c]? = some (.inr (ci, ks))) (hk : ks[k]? = some 0) (kk : fb_AW T X nx L S (fb_up w c k x)) : fb_AW T X pc L (.int x :: .ref c :: S) w := by
  intro ls H locs hl hP hS
  obtain ⟨hdg, rfl, -⟩ := h.2.2.2.2.2.2 _ _ _ _ _ hd
  obtain ⟨C, Tb, N, h1, h2, h3, h4, h5, ⟨ty0, h6⟩, h7, h8, h9⟩ := hF
  have hl2 : k < (ks.mapIdx (fun j k => fb_slt X.2.2.2.2.2.2 w c j k)).length := by rw [List.length_mapIdx]; exact (List.getElem?_eq_some_iff.mp hk).1
  have e := fb_setI (E := X.2.2.2) (w := w) x hc hk
  rcases h5 with hlk | ⟨host, hlk⟩
  · exact va_put (v := .int x) h.1.1 h.1.2.1 h.1.2.2.2.2 h3 ty0 h6 h7 h.1.2.2.2.1 h.2.2.2.2.1.1 hP (fb_D h.2.2.2.2.1 w) hS c (fb_get hc) h1 k h2 (h.1.2.2.2.2 _ hlk) (fun x hx => by rw [h4] at hx; exact hx) h8 h9 rfl rfl hl2 hdg (fun H1 locs1 hP1 _ hS1 => kk ls H1 locs1 hl (e ▸ hP1) hS1)
  · exact va_putN (v := .int x) h.1.1 h.1.2.1 h.1.2.2.2.2 h3 ty0 h6 h7 h.1.2.2.2.1 h.2.2.2.2.1.1 hP (fb_D h.2.2.2.2.1 w) hS c (fb_get hc) h1 k h2 (va_Nw.use rfl (h.2.2.2.2.1.2.2 _ hlk)) (fun x hx => by rw [h4] at hx; exact hx) h8 h9 rfl rfl hl2 hdg (fun H1 locs1 hP1 _ hS1 => kk ls H1 locs1 hl (e ▸ hP1) hS1)
theorem fw_putL {c ci k : Nat} {ks : List Nat} {x : Int64} (h : fb_Ok T X post) (hd : T.2.1 pc = some (.putfield idx, 3, nx, tg)) (hF : fb_FP T.1.cls idx ci k .long) (hc : fb_S[c]? = some (.inr (ci, ks))) (hk : ks[k]? = some 1) (kk : fb_AW T X nx L S (fb_ul w c k x)) : fb_AW T X pc L (.long x :: .ref c :: S) w := by
  intro ls H locs hl hP hS
  obtain ⟨hdg, rfl, -⟩ := h.2.2.2.2.2.2 _ _ _ _ _ hd
  obtain ⟨C, Tb, N, h1, h2, h3, h4, h5, ⟨ty0, h6⟩, h7, h8, h9⟩ := hF
  have hl2 : k < (ks.mapIdx (fun j k => fb_slt X.2.2.2.2.2.2 w c j k)).length := by rw [List.length_mapIdx]; exact (List.getElem?_eq_some_iff.mp hk).1
  have e := fb_setL (E := X.2.2.2) (w := w) x hc hk
  rcases h5 with hlk | ⟨host, hlk⟩
  · exact va_put (v := .long x) h.1.1 h.1.2.1 h.1.2.2.2.2 h3 ty0 h6 h7 h.1.2.2.2.1 h.2.2.2.2.1.1 hP (fb_D h.2.2.2.2.1 w) hS c (fb_get hc) h1 k h2 (h.1.2.2.2.2 _ hlk) (fun x hx => by rw [h4] at hx; exact hx) h8 h9 rfl rfl hl2 hdg (fun H1 locs1 hP1 _ hS1 => kk ls H1 locs1 hl (e ▸ hP1) hS1)
  · exact va_putN (v := .long x) h.1.1 h.1.2.1 h.1.2.2.2.2 h3 ty0 h6 h7 h.1.2.2.2.1 h.2.2.2.2.1.1 hP (fb_D h.2.2.2.2.1 w) hS c (fb_get hc) h1 k h2 (va_Nw.use rfl (h.2.2.2.2.1.2.2 _ hlk)) (fun x hx => by rw [h4] at hx; exact hx) h8 h9 rfl rfl hl2 hdg (fun H1 locs1 hP1 _ hS1 => kk ls H1 locs1 hl (e ▸ hP1) hS1)
theorem fw_sub {L' : List (Option Value)} (hs : fb_pad L L') (k : fb_AW T X pc L' S w) : fb_AW T X pc L S w := by
  intro ls H locs hl hP hS
  refine k ls H locs (fb_mono hl (fun q hq => ?_)) hP hS
  obtain ⟨j, v, hj, rfl⟩ := (fb_asc_iff _ _ 0 q).mp hq
  exact (fb_asc_iff _ _ 0 _).mpr ⟨j, v, hs j v hj, rfl⟩
end FD
theorem fb_mT {w : Cond} (i : Nat) (h : tables_1[i]? = some w) (hg : goodWord w = true) : w ∈ fb_gT := List.mem_filter.mpr ⟨List.mem_append_right _ (List.mem_of_getElem? h), hg⟩
theorem fb_mN {w : Cond} (i : Nat) (h : tables_1[i]? = some w) (hg : fb_nest w = true) : w ∈ fb_nT := List.mem_filter.mpr ⟨List.mem_append_right _ (List.mem_of_getElem? h), hg⟩
theorem fb_mS {w : Cond} (i : Nat) (h : (k2_sels lw_privs)[i]? = some w) (hg : goodWord w = true) : w ∈ fb_gT := List.mem_filter.mpr ⟨List.mem_append_left _ (List.mem_of_getElem? h), hg⟩
end
