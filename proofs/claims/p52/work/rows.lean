section
-- ===== PART A: goes FIRST, ahead of the names: the tables' words, and 'selects' of the private methods out of them =====
/-- a private method of a class that the tables say can be made, by its rows of tables_1 -/
def lw_okq (q : MethodName × Nat) : Prop := (q.1.cls ≠ "java/lang/invoke/MethodHandle" ∧ q.1.cls ≠ "java/lang/invoke/VarHandle") ∧ Cond.instantiable q.1.cls q.2 ∈ tables_1 ∧ Cond.privateMethod q.1 ∈ tables_1 ∧ Cond.instanceMethod q.1 ∈ tables_1
theorem lw_p0 : lw_okq (⟨"HalfBoats$Hull", "findGains", "()V"⟩, 12) := ⟨⟨by decide +kernel, by decide +kernel⟩, List.mem_of_getElem? (i := 30) (by decide +kernel), List.mem_of_getElem? (i := 570) (by decide +kernel), List.mem_of_getElem? (i := 571) (by decide +kernel)⟩
theorem lw_p1 : lw_okq (⟨"HalfBoats$Hull", "passWall", "(I)V"⟩, 12) := ⟨⟨by decide +kernel, by decide +kernel⟩, List.mem_of_getElem? (i := 30) (by decide +kernel), List.mem_of_getElem? (i := 588) (by decide +kernel), List.mem_of_getElem? (i := 589) (by decide +kernel)⟩
theorem lw_p2 : lw_okq (⟨"HalfBoats$Hull", "takeGains", "()Z"⟩, 12) := ⟨⟨by decide +kernel, by decide +kernel⟩, List.mem_of_getElem? (i := 30) (by decide +kernel), List.mem_of_getElem? (i := 592) (by decide +kernel), List.mem_of_getElem? (i := 593) (by decide +kernel)⟩
theorem lw_p3 : lw_okq (⟨"HalfBoats$Hull", "weigh", "()V"⟩, 12) := ⟨⟨by decide +kernel, by decide +kernel⟩, List.mem_of_getElem? (i := 30) (by decide +kernel), List.mem_of_getElem? (i := 596) (by decide +kernel), List.mem_of_getElem? (i := 597) (by decide +kernel)⟩
theorem lw_p4 : lw_okq (⟨"HalfBoats$Soundings", "holds", "(LHalfBoats$Hull;II)Z"⟩, 8) := ⟨⟨by decide +kernel, by decide +kernel⟩, List.mem_of_getElem? (i := 82) (by decide +kernel), List.mem_of_getElem? (i := 672) (by decide +kernel), List.mem_of_getElem? (i := 673) (by decide +kernel)⟩
theorem lw_p5 : lw_okq (⟨"HalfBoats$Crowd", "walk", "(III)Z"⟩, 16) := ⟨⟨by decide +kernel, by decide +kernel⟩, List.mem_of_getElem? (i := 116) (by decide +kernel), List.mem_of_getElem? (i := 713) (by decide +kernel), List.mem_of_getElem? (i := 714) (by decide +kernel)⟩
theorem lw_p6 : lw_okq (⟨"HalfBoats$Seating", "findBoats", "()V"⟩, 17) := ⟨⟨by decide +kernel, by decide +kernel⟩, List.mem_of_getElem? (i := 345) (by decide +kernel), List.mem_of_getElem? (i := 738) (by decide +kernel), List.mem_of_getElem? (i := 739) (by decide +kernel)⟩
theorem lw_p7 : lw_okq (⟨"HalfBoats$Seating", "mostOfPair", "(III)I"⟩, 17) := ⟨⟨by decide +kernel, by decide +kernel⟩, List.mem_of_getElem? (i := 345) (by decide +kernel), List.mem_of_getElem? (i := 760) (by decide +kernel), List.mem_of_getElem? (i := 761) (by decide +kernel)⟩
theorem lw_p8 : lw_okq (⟨"HalfBoats$Seating", "takePair", "(III)V"⟩, 17) := ⟨⟨by decide +kernel, by decide +kernel⟩, List.mem_of_getElem? (i := 345) (by decide +kernel), List.mem_of_getElem? (i := 764) (by decide +kernel), List.mem_of_getElem? (i := 765) (by decide +kernel)⟩
theorem lw_p9 : lw_okq (⟨"HalfBoats$Seating", "isRight", "(I)Z"⟩, 17) := ⟨⟨by decide +kernel, by decide +kernel⟩, List.mem_of_getElem? (i := 345) (by decide +kernel), List.mem_of_getElem? (i := 784) (by decide +kernel), List.mem_of_getElem? (i := 785) (by decide +kernel)⟩
theorem lw_p10 : lw_okq (⟨"HalfBoats$Seating", "pickNext", "(II)V"⟩, 17) := ⟨⟨by decide +kernel, by decide +kernel⟩, List.mem_of_getElem? (i := 345) (by decide +kernel), List.mem_of_getElem? (i := 799) (by decide +kernel), List.mem_of_getElem? (i := 800) (by decide +kernel)⟩
theorem lw_p11 : lw_okq (⟨"HalfBoats$Sea", "isHeard", "(II)Z"⟩, 13) := ⟨⟨by decide +kernel, by decide +kernel⟩, List.mem_of_getElem? (i := 186) (by decide +kernel), List.mem_of_getElem? (i := 838) (by decide +kernel), List.mem_of_getElem? (i := 839) (by decide +kernel)⟩
theorem lw_p12 : lw_okq (⟨"HalfBoats$Sea", "farAt", "(II)I"⟩, 13) := ⟨⟨by decide +kernel, by decide +kernel⟩, List.mem_of_getElem? (i := 186) (by decide +kernel), List.mem_of_getElem? (i := 871) (by decide +kernel), List.mem_of_getElem? (i := 872) (by decide +kernel)⟩
theorem lw_p13 : lw_okq (⟨"HalfBoats$Reader", "scan", "()V"⟩, 8) := ⟨⟨by decide +kernel, by decide +kernel⟩, List.mem_of_getElem? (i := 408) (by decide +kernel), List.mem_of_getElem? (i := 936) (by decide +kernel), List.mem_of_getElem? (i := 937) (by decide +kernel)⟩
theorem lw_p14 : lw_okq (⟨"HalfBoats$Reader", "wordAt", "(II)I"⟩, 8) := ⟨⟨by decide +kernel, by decide +kernel⟩, List.mem_of_getElem? (i := 408) (by decide +kernel), List.mem_of_getElem? (i := 943) (by decide +kernel), List.mem_of_getElem? (i := 944) (by decide +kernel)⟩
theorem lw_p15 : lw_okq (⟨"HalfBoats$Reader", "is", "(Ljava/lang/String;I)Z"⟩, 8) := ⟨⟨by decide +kernel, by decide +kernel⟩, List.mem_of_getElem? (i := 408) (by decide +kernel), List.mem_of_getElem? (i := 948) (by decide +kernel), List.mem_of_getElem? (i := 949) (by decide +kernel)⟩
def lw_privs_1 : List (MethodName × Nat) := [(⟨"HalfBoats$Hull", "findGains", "()V"⟩, 12), (⟨"HalfBoats$Hull", "passWall", "(I)V"⟩, 12), (⟨"HalfBoats$Hull", "takeGains", "()Z"⟩, 12), (⟨"HalfBoats$Hull", "weigh", "()V"⟩, 12), (⟨"HalfBoats$Soundings", "holds", "(LHalfBoats$Hull;II)Z"⟩, 8), (⟨"HalfBoats$Crowd", "walk", "(III)Z"⟩, 16), (⟨"HalfBoats$Seating", "findBoats", "()V"⟩, 17), (⟨"HalfBoats$Seating", "mostOfPair", "(III)I"⟩, 17), (⟨"HalfBoats$Seating", "takePair", "(III)V"⟩, 17), (⟨"HalfBoats$Seating", "isRight", "(I)Z"⟩, 17), (⟨"HalfBoats$Seating", "pickNext", "(II)V"⟩, 17), (⟨"HalfBoats$Sea", "isHeard", "(II)Z"⟩, 13), (⟨"HalfBoats$Sea", "farAt", "(II)I"⟩, 13), (⟨"HalfBoats$Reader", "scan", "()V"⟩, 8), (⟨"HalfBoats$Reader", "wordAt", "(II)I"⟩, 8), (⟨"HalfBoats$Reader", "is", "(Ljava/lang/String;I)Z"⟩, 8)]
theorem lw_r1 : ∀ q ∈ lw_privs_1, lw_okq q := List.forall_mem_cons.mpr ⟨lw_p0, List.forall_mem_cons.mpr ⟨lw_p1, List.forall_mem_cons.mpr ⟨lw_p2, List.forall_mem_cons.mpr ⟨lw_p3, List.forall_mem_cons.mpr ⟨lw_p4, List.forall_mem_cons.mpr ⟨lw_p5, List.forall_mem_cons.mpr ⟨lw_p6, List.forall_mem_cons.mpr ⟨lw_p7, List.forall_mem_cons.mpr ⟨lw_p8, List.forall_mem_cons.mpr ⟨lw_p9, List.forall_mem_cons.mpr ⟨lw_p10, List.forall_mem_cons.mpr ⟨lw_p11, List.forall_mem_cons.mpr ⟨lw_p12, List.forall_mem_cons.mpr ⟨lw_p13, List.forall_mem_cons.mpr ⟨lw_p14, List.forall_mem_cons.mpr ⟨lw_p15, fun _ h => absurd h List.not_mem_nil⟩⟩⟩⟩⟩⟩⟩⟩⟩⟩⟩⟩⟩⟩⟩⟩
theorem lw_p16 : lw_okq (⟨"HalfBoats$Reader", "addToken", "(III)V"⟩, 8) := ⟨⟨by decide +kernel, by decide +kernel⟩, List.mem_of_getElem? (i := 408) (by decide +kernel), List.mem_of_getElem? (i := 1015) (by decide +kernel), List.mem_of_getElem? (i := 1016) (by decide +kernel)⟩
theorem lw_p17 : lw_okq (⟨"HalfBoats$Reader", "numberAt", "(II)I"⟩, 8) := ⟨⟨by decide +kernel, by decide +kernel⟩, List.mem_of_getElem? (i := 408) (by decide +kernel), List.mem_of_getElem? (i := 1022) (by decide +kernel), List.mem_of_getElem? (i := 1023) (by decide +kernel)⟩
theorem lw_p18 : lw_okq (⟨"HalfBoats$Reader", "readSeats", "(LHalfBoats$Rules;)V"⟩, 8) := ⟨⟨by decide +kernel, by decide +kernel⟩, List.mem_of_getElem? (i := 408) (by decide +kernel), List.mem_of_getElem? (i := 1030) (by decide +kernel), List.mem_of_getElem? (i := 1031) (by decide +kernel)⟩
theorem lw_p19 : lw_okq (⟨"HalfBoats$Reader", "takeNumber", "(I)I"⟩, 8) := ⟨⟨by decide +kernel, by decide +kernel⟩, List.mem_of_getElem? (i := 408) (by decide +kernel), List.mem_of_getElem? (i := 1034) (by decide +kernel), List.mem_of_getElem? (i := 1035) (by decide +kernel)⟩
theorem lw_p20 : lw_okq (⟨"HalfBoats$Reader", "takeToken", "(I)Z"⟩, 8) := ⟨⟨by decide +kernel, by decide +kernel⟩, List.mem_of_getElem? (i := 408) (by decide +kernel), List.mem_of_getElem? (i := 1038) (by decide +kernel), List.mem_of_getElem? (i := 1039) (by decide +kernel)⟩
theorem lw_p21 : lw_okq (⟨"HalfBoats$Reader", "readFirst", "(LHalfBoats$Rules;)V"⟩, 8) := ⟨⟨by decide +kernel, by decide +kernel⟩, List.mem_of_getElem? (i := 408) (by decide +kernel), List.mem_of_getElem? (i := 1046) (by decide +kernel), List.mem_of_getElem? (i := 1047) (by decide +kernel)⟩
theorem lw_p22 : lw_okq (⟨"HalfBoats$Reader", "failHere", "()Z"⟩, 8) := ⟨⟨by decide +kernel, by decide +kernel⟩, List.mem_of_getElem? (i := 408) (by decide +kernel), List.mem_of_getElem? (i := 1051) (by decide +kernel), List.mem_of_getElem? (i := 1052) (by decide +kernel)⟩
theorem lw_p23 : lw_okq (⟨"HalfBoats$Reader", "readCome", "(LHalfBoats$Rules;)V"⟩, 8) := ⟨⟨by decide +kernel, by decide +kernel⟩, List.mem_of_getElem? (i := 408) (by decide +kernel), List.mem_of_getElem? (i := 1055) (by decide +kernel), List.mem_of_getElem? (i := 1056) (by decide +kernel)⟩
theorem lw_p24 : lw_okq (⟨"HalfBoats$Reader", "readCondition", "(LHalfBoats$Rules;I)Z"⟩, 8) := ⟨⟨by decide +kernel, by decide +kernel⟩, List.mem_of_getElem? (i := 408) (by decide +kernel), List.mem_of_getElem? (i := 1063) (by decide +kernel), List.mem_of_getElem? (i := 1064) (by decide +kernel)⟩
theorem lw_p25 : lw_okq (⟨"HalfBoats$Reader", "readAll", "(LHalfBoats$Rules;I)Z"⟩, 8) := ⟨⟨by decide +kernel, by decide +kernel⟩, List.mem_of_getElem? (i := 408) (by decide +kernel), List.mem_of_getElem? (i := 1067) (by decide +kernel), List.mem_of_getElem? (i := 1068) (by decide +kernel)⟩
theorem lw_p26 : lw_okq (⟨"HalfBoats$Reader", "readOne", "(LHalfBoats$Rules;I)Z"⟩, 8) := ⟨⟨by decide +kernel, by decide +kernel⟩, List.mem_of_getElem? (i := 408) (by decide +kernel), List.mem_of_getElem? (i := 1071) (by decide +kernel), List.mem_of_getElem? (i := 1072) (by decide +kernel)⟩
theorem lw_p27 : lw_okq (⟨"HalfBoats$Reader", "readInside", "(LHalfBoats$Rules;I)Z"⟩, 8) := ⟨⟨by decide +kernel, by decide +kernel⟩, List.mem_of_getElem? (i := 408) (by decide +kernel), List.mem_of_getElem? (i := 1075) (by decide +kernel), List.mem_of_getElem? (i := 1076) (by decide +kernel)⟩
theorem lw_p28 : lw_okq (⟨"HalfBoats$Reader", "readTest", "(LHalfBoats$Rules;)Z"⟩, 8) := ⟨⟨by decide +kernel, by decide +kernel⟩, List.mem_of_getElem? (i := 408) (by decide +kernel), List.mem_of_getElem? (i := 1079) (by decide +kernel), List.mem_of_getElem? (i := 1080) (by decide +kernel)⟩
theorem lw_p29 : lw_okq (⟨"HalfBoats$Rules", "latestLine", "(II)I"⟩, 8) := ⟨⟨by decide +kernel, by decide +kernel⟩, List.mem_of_getElem? (i := 266) (by decide +kernel), List.mem_of_getElem? (i := 1108) (by decide +kernel), List.mem_of_getElem? (i := 1109) (by decide +kernel)⟩
theorem lw_p30 : lw_okq (⟨"HalfBoats$Rules", "versionAt", "(I)I"⟩, 8) := ⟨⟨by decide +kernel, by decide +kernel⟩, List.mem_of_getElem? (i := 266) (by decide +kernel), List.mem_of_getElem? (i := 1112) (by decide +kernel), List.mem_of_getElem? (i := 1113) (by decide +kernel)⟩
theorem lw_p31 : lw_okq (⟨"HalfBoats$Rules", "holds", "(IILHalfBoats$Sea;II)Z"⟩, 8) := ⟨⟨by decide +kernel, by decide +kernel⟩, List.mem_of_getElem? (i := 266) (by decide +kernel), List.mem_of_getElem? (i := 1137) (by decide +kernel), List.mem_of_getElem? (i := 1138) (by decide +kernel)⟩
def lw_privs_2 : List (MethodName × Nat) := [(⟨"HalfBoats$Reader", "addToken", "(III)V"⟩, 8), (⟨"HalfBoats$Reader", "numberAt", "(II)I"⟩, 8), (⟨"HalfBoats$Reader", "readSeats", "(LHalfBoats$Rules;)V"⟩, 8), (⟨"HalfBoats$Reader", "takeNumber", "(I)I"⟩, 8), (⟨"HalfBoats$Reader", "takeToken", "(I)Z"⟩, 8), (⟨"HalfBoats$Reader", "readFirst", "(LHalfBoats$Rules;)V"⟩, 8), (⟨"HalfBoats$Reader", "failHere", "()Z"⟩, 8), (⟨"HalfBoats$Reader", "readCome", "(LHalfBoats$Rules;)V"⟩, 8), (⟨"HalfBoats$Reader", "readCondition", "(LHalfBoats$Rules;I)Z"⟩, 8), (⟨"HalfBoats$Reader", "readAll", "(LHalfBoats$Rules;I)Z"⟩, 8), (⟨"HalfBoats$Reader", "readOne", "(LHalfBoats$Rules;I)Z"⟩, 8), (⟨"HalfBoats$Reader", "readInside", "(LHalfBoats$Rules;I)Z"⟩, 8), (⟨"HalfBoats$Reader", "readTest", "(LHalfBoats$Rules;)Z"⟩, 8), (⟨"HalfBoats$Rules", "latestLine", "(II)I"⟩, 8), (⟨"HalfBoats$Rules", "versionAt", "(I)I"⟩, 8), (⟨"HalfBoats$Rules", "holds", "(IILHalfBoats$Sea;II)Z"⟩, 8)]
theorem lw_r2 : ∀ q ∈ lw_privs_2, lw_okq q := List.forall_mem_cons.mpr ⟨lw_p16, List.forall_mem_cons.mpr ⟨lw_p17, List.forall_mem_cons.mpr ⟨lw_p18, List.forall_mem_cons.mpr ⟨lw_p19, List.forall_mem_cons.mpr ⟨lw_p20, List.forall_mem_cons.mpr ⟨lw_p21, List.forall_mem_cons.mpr ⟨lw_p22, List.forall_mem_cons.mpr ⟨lw_p23, List.forall_mem_cons.mpr ⟨lw_p24, List.forall_mem_cons.mpr ⟨lw_p25, List.forall_mem_cons.mpr ⟨lw_p26, List.forall_mem_cons.mpr ⟨lw_p27, List.forall_mem_cons.mpr ⟨lw_p28, List.forall_mem_cons.mpr ⟨lw_p29, List.forall_mem_cons.mpr ⟨lw_p30, List.forall_mem_cons.mpr ⟨lw_p31, fun _ h => absurd h List.not_mem_nil⟩⟩⟩⟩⟩⟩⟩⟩⟩⟩⟩⟩⟩⟩⟩⟩
theorem lw_p32 : lw_okq (⟨"HalfBoats$Passage", "minutesOf", "(II)I"⟩, 11) := ⟨⟨by decide +kernel, by decide +kernel⟩, List.mem_of_getElem? (i := 301) (by decide +kernel), List.mem_of_getElem? (i := 1161) (by decide +kernel), List.mem_of_getElem? (i := 1162) (by decide +kernel)⟩
theorem lw_p33 : lw_okq (⟨"HalfBoats$Passage", "riskOf", "(II)I"⟩, 11) := ⟨⟨by decide +kernel, by decide +kernel⟩, List.mem_of_getElem? (i := 301) (by decide +kernel), List.mem_of_getElem? (i := 1165) (by decide +kernel), List.mem_of_getElem? (i := 1166) (by decide +kernel)⟩
theorem lw_p34 : lw_okq (⟨"HalfBoats$Passage", "sail", "(III)V"⟩, 11) := ⟨⟨by decide +kernel, by decide +kernel⟩, List.mem_of_getElem? (i := 301) (by decide +kernel), List.mem_of_getElem? (i := 1169) (by decide +kernel), List.mem_of_getElem? (i := 1170) (by decide +kernel)⟩
theorem lw_p35 : lw_okq (⟨"HalfBoats", "howManyOf", "(I)I"⟩, 20) := ⟨⟨by decide +kernel, by decide +kernel⟩, List.mem_of_getElem? (i := 22) (by decide +kernel), List.mem_of_getElem? (i := 1221) (by decide +kernel), List.mem_of_getElem? (i := 1222) (by decide +kernel)⟩
theorem lw_p36 : lw_okq (⟨"HalfBoats", "kindOn", "(I)I"⟩, 20) := ⟨⟨by decide +kernel, by decide +kernel⟩, List.mem_of_getElem? (i := 22) (by decide +kernel), List.mem_of_getElem? (i := 1233) (by decide +kernel), List.mem_of_getElem? (i := 1234) (by decide +kernel)⟩
theorem lw_p37 : lw_okq (⟨"HalfBoats", "amountOf", "(II)I"⟩, 20) := ⟨⟨by decide +kernel, by decide +kernel⟩, List.mem_of_getElem? (i := 22) (by decide +kernel), List.mem_of_getElem? (i := 1248) (by decide +kernel), List.mem_of_getElem? (i := 1249) (by decide +kernel)⟩
theorem lw_p38 : lw_okq (⟨"HalfBoats", "answerOf", "(II)I"⟩, 20) := ⟨⟨by decide +kernel, by decide +kernel⟩, List.mem_of_getElem? (i := 22) (by decide +kernel), List.mem_of_getElem? (i := 1256) (by decide +kernel), List.mem_of_getElem? (i := 1257) (by decide +kernel)⟩
theorem lw_p39 : lw_okq (⟨"HalfBoats$Acts", "begin", "(I)V"⟩, 6) := ⟨⟨by decide +kernel, by decide +kernel⟩, List.mem_of_getElem? (i := 470) (by decide +kernel), List.mem_of_getElem? (i := 1264) (by decide +kernel), List.mem_of_getElem? (i := 1265) (by decide +kernel)⟩
theorem lw_p40 : lw_okq (⟨"HalfBoats$Acts", "thingCarries", "(I)I"⟩, 6) := ⟨⟨by decide +kernel, by decide +kernel⟩, List.mem_of_getElem? (i := 470) (by decide +kernel), List.mem_of_getElem? (i := 1272) (by decide +kernel), List.mem_of_getElem? (i := 1273) (by decide +kernel)⟩
theorem lw_p41 : lw_okq (⟨"HalfBoats$Acts", "thingFits", "(I)I"⟩, 6) := ⟨⟨by decide +kernel, by decide +kernel⟩, List.mem_of_getElem? (i := 470) (by decide +kernel), List.mem_of_getElem? (i := 1281) (by decide +kernel), List.mem_of_getElem? (i := 1282) (by decide +kernel)⟩
theorem lw_p42 : lw_okq (⟨"HalfBoats$Acts", "thingTells", "(I)I"⟩, 6) := ⟨⟨by decide +kernel, by decide +kernel⟩, List.mem_of_getElem? (i := 470) (by decide +kernel), List.mem_of_getElem? (i := 1289) (by decide +kernel), List.mem_of_getElem? (i := 1290) (by decide +kernel)⟩
theorem lw_p43 : lw_okq (⟨"HalfBoatsModel", "layOut", "()V"⟩, 52) := ⟨⟨by decide +kernel, by decide +kernel⟩, List.mem_of_getElem? (i := 1343) (by decide +kernel), List.mem_of_getElem? (i := 1513) (by decide +kernel), List.mem_of_getElem? (i := 1514) (by decide +kernel)⟩
theorem lw_p44 : lw_okq (⟨"HalfBoatsModel", "passes", "()Z"⟩, 52) := ⟨⟨by decide +kernel, by decide +kernel⟩, List.mem_of_getElem? (i := 1343) (by decide +kernel), List.mem_of_getElem? (i := 1517) (by decide +kernel), List.mem_of_getElem? (i := 1518) (by decide +kernel)⟩
theorem lw_p45 : lw_okq (⟨"HalfBoatsModel", "findTrim", "()V"⟩, 52) := ⟨⟨by decide +kernel, by decide +kernel⟩, List.mem_of_getElem? (i := 1343) (by decide +kernel), List.mem_of_getElem? (i := 1521) (by decide +kernel), List.mem_of_getElem? (i := 1522) (by decide +kernel)⟩
theorem lw_p46 : lw_okq (⟨"HalfBoatsModel", "outside", "(I)I"⟩, 52) := ⟨⟨by decide +kernel, by decide +kernel⟩, List.mem_of_getElem? (i := 1343) (by decide +kernel), List.mem_of_getElem? (i := 1525) (by decide +kernel), List.mem_of_getElem? (i := 1526) (by decide +kernel)⟩
theorem lw_p47 : lw_okq (⟨"HalfBoatsModel", "level", "(I)I"⟩, 52) := ⟨⟨by decide +kernel, by decide +kernel⟩, List.mem_of_getElem? (i := 1343) (by decide +kernel), List.mem_of_getElem? (i := 1532) (by decide +kernel), List.mem_of_getElem? (i := 1533) (by decide +kernel)⟩
def lw_privs_3 : List (MethodName × Nat) := [(⟨"HalfBoats$Passage", "minutesOf", "(II)I"⟩, 11), (⟨"HalfBoats$Passage", "riskOf", "(II)I"⟩, 11), (⟨"HalfBoats$Passage", "sail", "(III)V"⟩, 11), (⟨"HalfBoats", "howManyOf", "(I)I"⟩, 20), (⟨"HalfBoats", "kindOn", "(I)I"⟩, 20), (⟨"HalfBoats", "amountOf", "(II)I"⟩, 20), (⟨"HalfBoats", "answerOf", "(II)I"⟩, 20), (⟨"HalfBoats$Acts", "begin", "(I)V"⟩, 6), (⟨"HalfBoats$Acts", "thingCarries", "(I)I"⟩, 6), (⟨"HalfBoats$Acts", "thingFits", "(I)I"⟩, 6), (⟨"HalfBoats$Acts", "thingTells", "(I)I"⟩, 6), (⟨"HalfBoatsModel", "layOut", "()V"⟩, 52), (⟨"HalfBoatsModel", "passes", "()Z"⟩, 52), (⟨"HalfBoatsModel", "findTrim", "()V"⟩, 52), (⟨"HalfBoatsModel", "outside", "(I)I"⟩, 52), (⟨"HalfBoatsModel", "level", "(I)I"⟩, 52)]
theorem lw_r3 : ∀ q ∈ lw_privs_3, lw_okq q := List.forall_mem_cons.mpr ⟨lw_p32, List.forall_mem_cons.mpr ⟨lw_p33, List.forall_mem_cons.mpr ⟨lw_p34, List.forall_mem_cons.mpr ⟨lw_p35, List.forall_mem_cons.mpr ⟨lw_p36, List.forall_mem_cons.mpr ⟨lw_p37, List.forall_mem_cons.mpr ⟨lw_p38, List.forall_mem_cons.mpr ⟨lw_p39, List.forall_mem_cons.mpr ⟨lw_p40, List.forall_mem_cons.mpr ⟨lw_p41, List.forall_mem_cons.mpr ⟨lw_p42, List.forall_mem_cons.mpr ⟨lw_p43, List.forall_mem_cons.mpr ⟨lw_p44, List.forall_mem_cons.mpr ⟨lw_p45, List.forall_mem_cons.mpr ⟨lw_p46, List.forall_mem_cons.mpr ⟨lw_p47, fun _ h => absurd h List.not_mem_nil⟩⟩⟩⟩⟩⟩⟩⟩⟩⟩⟩⟩⟩⟩⟩⟩
theorem lw_p48 : lw_okq (⟨"HalfBoatsModel", "findExplanation", "()Z"⟩, 52) := ⟨⟨by decide +kernel, by decide +kernel⟩, List.mem_of_getElem? (i := 1343) (by decide +kernel), List.mem_of_getElem? (i := 1574) (by decide +kernel), List.mem_of_getElem? (i := 1575) (by decide +kernel)⟩
theorem lw_p49 : lw_okq (⟨"HalfBoatsModel", "explains", "(II)Z"⟩, 52) := ⟨⟨by decide +kernel, by decide +kernel⟩, List.mem_of_getElem? (i := 1343) (by decide +kernel), List.mem_of_getElem? (i := 1581) (by decide +kernel), List.mem_of_getElem? (i := 1582) (by decide +kernel)⟩
theorem lw_p50 : lw_okq (⟨"HalfBoatsModel", "holdsAt", "(I)Z"⟩, 52) := ⟨⟨by decide +kernel, by decide +kernel⟩, List.mem_of_getElem? (i := 1343) (by decide +kernel), List.mem_of_getElem? (i := 1585) (by decide +kernel), List.mem_of_getElem? (i := 1586) (by decide +kernel)⟩
theorem lw_p51 : lw_okq (⟨"HalfBoatsModel", "isGroup", "(I)Z"⟩, 52) := ⟨⟨by decide +kernel, by decide +kernel⟩, List.mem_of_getElem? (i := 1343) (by decide +kernel), List.mem_of_getElem? (i := 1607) (by decide +kernel), List.mem_of_getElem? (i := 1608) (by decide +kernel)⟩
theorem lw_p52 : lw_okq (⟨"HalfBoatsModel", "findReach", "(I)V"⟩, 52) := ⟨⟨by decide +kernel, by decide +kernel⟩, List.mem_of_getElem? (i := 1343) (by decide +kernel), List.mem_of_getElem? (i := 1611) (by decide +kernel), List.mem_of_getElem? (i := 1612) (by decide +kernel)⟩
theorem lw_p53 : lw_okq (⟨"HalfBoatsModel", "comes", "(IIII)V"⟩, 52) := ⟨⟨by decide +kernel, by decide +kernel⟩, List.mem_of_getElem? (i := 1343) (by decide +kernel), List.mem_of_getElem? (i := 1616) (by decide +kernel), List.mem_of_getElem? (i := 1617) (by decide +kernel)⟩
theorem lw_p54 : lw_okq (⟨"HalfBoatsModel", "layBoats", "()V"⟩, 52) := ⟨⟨by decide +kernel, by decide +kernel⟩, List.mem_of_getElem? (i := 1343) (by decide +kernel), List.mem_of_getElem? (i := 1628) (by decide +kernel), List.mem_of_getElem? (i := 1629) (by decide +kernel)⟩
theorem lw_p55 : lw_okq (⟨"HalfBoatsModel", "findCan", "()V"⟩, 52) := ⟨⟨by decide +kernel, by decide +kernel⟩, List.mem_of_getElem? (i := 1343) (by decide +kernel), List.mem_of_getElem? (i := 1632) (by decide +kernel), List.mem_of_getElem? (i := 1633) (by decide +kernel)⟩
theorem lw_p56 : lw_okq (⟨"HalfBoatsModel", "mostOf", "()I"⟩, 52) := ⟨⟨by decide +kernel, by decide +kernel⟩, List.mem_of_getElem? (i := 1343) (by decide +kernel), List.mem_of_getElem? (i := 1640) (by decide +kernel), List.mem_of_getElem? (i := 1641) (by decide +kernel)⟩
theorem lw_p57 : lw_okq (⟨"HalfBoatsModel", "mostIn", "(III)I"⟩, 52) := ⟨⟨by decide +kernel, by decide +kernel⟩, List.mem_of_getElem? (i := 1343) (by decide +kernel), List.mem_of_getElem? (i := 1648) (by decide +kernel), List.mem_of_getElem? (i := 1649) (by decide +kernel)⟩
theorem lw_p58 : lw_okq (⟨"HalfBoatsModel", "isRow", "(II)Z"⟩, 52) := ⟨⟨by decide +kernel, by decide +kernel⟩, List.mem_of_getElem? (i := 1343) (by decide +kernel), List.mem_of_getElem? (i := 1656) (by decide +kernel), List.mem_of_getElem? (i := 1657) (by decide +kernel)⟩
theorem lw_p59 : lw_okq (⟨"HalfBoatsModel", "isBoat", "(I)Z"⟩, 52) := ⟨⟨by decide +kernel, by decide +kernel⟩, List.mem_of_getElem? (i := 1343) (by decide +kernel), List.mem_of_getElem? (i := 1668) (by decide +kernel), List.mem_of_getElem? (i := 1669) (by decide +kernel)⟩
theorem lw_p60 : lw_okq (⟨"HalfBoatsModel", "findOrder", "(II)V"⟩, 52) := ⟨⟨by decide +kernel, by decide +kernel⟩, List.mem_of_getElem? (i := 1343) (by decide +kernel), List.mem_of_getElem? (i := 1676) (by decide +kernel), List.mem_of_getElem? (i := 1677) (by decide +kernel)⟩
theorem lw_p61 : lw_okq (⟨"HalfBoatsModel", "doesHear", "(II)Z"⟩, 52) := ⟨⟨by decide +kernel, by decide +kernel⟩, List.mem_of_getElem? (i := 1343) (by decide +kernel), List.mem_of_getElem? (i := 1697) (by decide +kernel), List.mem_of_getElem? (i := 1698) (by decide +kernel)⟩
theorem lw_p62 : lw_okq (⟨"HalfBoatsModel", "farOf", "(I)I"⟩, 52) := ⟨⟨by decide +kernel, by decide +kernel⟩, List.mem_of_getElem? (i := 1343) (by decide +kernel), List.mem_of_getElem? (i := 1701) (by decide +kernel), List.mem_of_getElem? (i := 1702) (by decide +kernel)⟩
theorem lw_p63 : lw_okq (⟨"HalfBoatsModel", "isShip", "(I)Z"⟩, 52) := ⟨⟨by decide +kernel, by decide +kernel⟩, List.mem_of_getElem? (i := 1343) (by decide +kernel), List.mem_of_getElem? (i := 1709) (by decide +kernel), List.mem_of_getElem? (i := 1710) (by decide +kernel)⟩
def lw_privs_4 : List (MethodName × Nat) := [(⟨"HalfBoatsModel", "findExplanation", "()Z"⟩, 52), (⟨"HalfBoatsModel", "explains", "(II)Z"⟩, 52), (⟨"HalfBoatsModel", "holdsAt", "(I)Z"⟩, 52), (⟨"HalfBoatsModel", "isGroup", "(I)Z"⟩, 52), (⟨"HalfBoatsModel", "findReach", "(I)V"⟩, 52), (⟨"HalfBoatsModel", "comes", "(IIII)V"⟩, 52), (⟨"HalfBoatsModel", "layBoats", "()V"⟩, 52), (⟨"HalfBoatsModel", "findCan", "()V"⟩, 52), (⟨"HalfBoatsModel", "mostOf", "()I"⟩, 52), (⟨"HalfBoatsModel", "mostIn", "(III)I"⟩, 52), (⟨"HalfBoatsModel", "isRow", "(II)Z"⟩, 52), (⟨"HalfBoatsModel", "isBoat", "(I)Z"⟩, 52), (⟨"HalfBoatsModel", "findOrder", "(II)V"⟩, 52), (⟨"HalfBoatsModel", "doesHear", "(II)Z"⟩, 52), (⟨"HalfBoatsModel", "farOf", "(I)I"⟩, 52), (⟨"HalfBoatsModel", "isShip", "(I)Z"⟩, 52)]
theorem lw_r4 : ∀ q ∈ lw_privs_4, lw_okq q := List.forall_mem_cons.mpr ⟨lw_p48, List.forall_mem_cons.mpr ⟨lw_p49, List.forall_mem_cons.mpr ⟨lw_p50, List.forall_mem_cons.mpr ⟨lw_p51, List.forall_mem_cons.mpr ⟨lw_p52, List.forall_mem_cons.mpr ⟨lw_p53, List.forall_mem_cons.mpr ⟨lw_p54, List.forall_mem_cons.mpr ⟨lw_p55, List.forall_mem_cons.mpr ⟨lw_p56, List.forall_mem_cons.mpr ⟨lw_p57, List.forall_mem_cons.mpr ⟨lw_p58, List.forall_mem_cons.mpr ⟨lw_p59, List.forall_mem_cons.mpr ⟨lw_p60, List.forall_mem_cons.mpr ⟨lw_p61, List.forall_mem_cons.mpr ⟨lw_p62, List.forall_mem_cons.mpr ⟨lw_p63, fun _ h => absurd h List.not_mem_nil⟩⟩⟩⟩⟩⟩⟩⟩⟩⟩⟩⟩⟩⟩⟩⟩
theorem lw_p64 : lw_okq (⟨"HalfBoatsModel", "earliest", "(I)I"⟩, 52) := ⟨⟨by decide +kernel, by decide +kernel⟩, List.mem_of_getElem? (i := 1343) (by decide +kernel), List.mem_of_getElem? (i := 1713) (by decide +kernel), List.mem_of_getElem? (i := 1714) (by decide +kernel)⟩
theorem lw_p65 : lw_okq (⟨"HalfBoatsModel", "isLight", "(I)Z"⟩, 52) := ⟨⟨by decide +kernel, by decide +kernel⟩, List.mem_of_getElem? (i := 1343) (by decide +kernel), List.mem_of_getElem? (i := 1725) (by decide +kernel), List.mem_of_getElem? (i := 1726) (by decide +kernel)⟩
theorem lw_p66 : lw_okq (⟨"HalfBoatsModel", "shipsOf", "(I)I"⟩, 52) := ⟨⟨by decide +kernel, by decide +kernel⟩, List.mem_of_getElem? (i := 1343) (by decide +kernel), List.mem_of_getElem? (i := 1729) (by decide +kernel), List.mem_of_getElem? (i := 1730) (by decide +kernel)⟩
theorem lw_p67 : lw_okq (⟨"HalfBoatsModel", "standingAt", "(I)I"⟩, 52) := ⟨⟨by decide +kernel, by decide +kernel⟩, List.mem_of_getElem? (i := 1343) (by decide +kernel), List.mem_of_getElem? (i := 1753) (by decide +kernel), List.mem_of_getElem? (i := 1754) (by decide +kernel)⟩
theorem lw_p68 : lw_okq (⟨"HalfBoatsModel", "reads", "(II)V"⟩, 52) := ⟨⟨by decide +kernel, by decide +kernel⟩, List.mem_of_getElem? (i := 1343) (by decide +kernel), List.mem_of_getElem? (i := 1770) (by decide +kernel), List.mem_of_getElem? (i := 1771) (by decide +kernel)⟩
theorem lw_p69 : lw_okq (⟨"HalfBoatsModel", "next", "()V"⟩, 52) := ⟨⟨by decide +kernel, by decide +kernel⟩, List.mem_of_getElem? (i := 1343) (by decide +kernel), List.mem_of_getElem? (i := 1774) (by decide +kernel), List.mem_of_getElem? (i := 1775) (by decide +kernel)⟩
theorem lw_p70 : lw_okq (⟨"HalfBoatsModel", "byteAt", "(I)I"⟩, 52) := ⟨⟨by decide +kernel, by decide +kernel⟩, List.mem_of_getElem? (i := 1343) (by decide +kernel), List.mem_of_getElem? (i := 1778) (by decide +kernel), List.mem_of_getElem? (i := 1779) (by decide +kernel)⟩
theorem lw_p71 : lw_okq (⟨"HalfBoatsModel", "word", "()V"⟩, 52) := ⟨⟨by decide +kernel, by decide +kernel⟩, List.mem_of_getElem? (i := 1343) (by decide +kernel), List.mem_of_getElem? (i := 1782) (by decide +kernel), List.mem_of_getElem? (i := 1783) (by decide +kernel)⟩
theorem lw_p72 : lw_okq (⟨"HalfBoatsModel", "isWord", "(II)Z"⟩, 52) := ⟨⟨by decide +kernel, by decide +kernel⟩, List.mem_of_getElem? (i := 1343) (by decide +kernel), List.mem_of_getElem? (i := 1786) (by decide +kernel), List.mem_of_getElem? (i := 1787) (by decide +kernel)⟩
theorem lw_p73 : lw_okq (⟨"HalfBoatsModel", "line", "()V"⟩, 52) := ⟨⟨by decide +kernel, by decide +kernel⟩, List.mem_of_getElem? (i := 1343) (by decide +kernel), List.mem_of_getElem? (i := 1790) (by decide +kernel), List.mem_of_getElem? (i := 1791) (by decide +kernel)⟩
theorem lw_p74 : lw_okq (⟨"HalfBoatsModel", "number", "(I)I"⟩, 52) := ⟨⟨by decide +kernel, by decide +kernel⟩, List.mem_of_getElem? (i := 1343) (by decide +kernel), List.mem_of_getElem? (i := 1794) (by decide +kernel), List.mem_of_getElem? (i := 1795) (by decide +kernel)⟩
theorem lw_p75 : lw_okq (⟨"HalfBoatsModel", "wrong", "()V"⟩, 52) := ⟨⟨by decide +kernel, by decide +kernel⟩, List.mem_of_getElem? (i := 1343) (by decide +kernel), List.mem_of_getElem? (i := 1798) (by decide +kernel), List.mem_of_getElem? (i := 1799) (by decide +kernel)⟩
theorem lw_p76 : lw_okq (⟨"HalfBoatsModel", "takes", "(I)V"⟩, 52) := ⟨⟨by decide +kernel, by decide +kernel⟩, List.mem_of_getElem? (i := 1343) (by decide +kernel), List.mem_of_getElem? (i := 1802) (by decide +kernel), List.mem_of_getElem? (i := 1803) (by decide +kernel)⟩
theorem lw_p77 : lw_okq (⟨"HalfBoatsModel", "first", "()V"⟩, 52) := ⟨⟨by decide +kernel, by decide +kernel⟩, List.mem_of_getElem? (i := 1343) (by decide +kernel), List.mem_of_getElem? (i := 1806) (by decide +kernel), List.mem_of_getElem? (i := 1807) (by decide +kernel)⟩
theorem lw_p78 : lw_okq (⟨"HalfBoatsModel", "cond", "()Z"⟩, 52) := ⟨⟨by decide +kernel, by decide +kernel⟩, List.mem_of_getElem? (i := 1343) (by decide +kernel), List.mem_of_getElem? (i := 1810) (by decide +kernel), List.mem_of_getElem? (i := 1811) (by decide +kernel)⟩
theorem lw_p79 : lw_okq (⟨"HalfBoatsModel", "every", "()Z"⟩, 52) := ⟨⟨by decide +kernel, by decide +kernel⟩, List.mem_of_getElem? (i := 1343) (by decide +kernel), List.mem_of_getElem? (i := 1814) (by decide +kernel), List.mem_of_getElem? (i := 1815) (by decide +kernel)⟩
def lw_privs_5 : List (MethodName × Nat) := [(⟨"HalfBoatsModel", "earliest", "(I)I"⟩, 52), (⟨"HalfBoatsModel", "isLight", "(I)Z"⟩, 52), (⟨"HalfBoatsModel", "shipsOf", "(I)I"⟩, 52), (⟨"HalfBoatsModel", "standingAt", "(I)I"⟩, 52), (⟨"HalfBoatsModel", "reads", "(II)V"⟩, 52), (⟨"HalfBoatsModel", "next", "()V"⟩, 52), (⟨"HalfBoatsModel", "byteAt", "(I)I"⟩, 52), (⟨"HalfBoatsModel", "word", "()V"⟩, 52), (⟨"HalfBoatsModel", "isWord", "(II)Z"⟩, 52), (⟨"HalfBoatsModel", "line", "()V"⟩, 52), (⟨"HalfBoatsModel", "number", "(I)I"⟩, 52), (⟨"HalfBoatsModel", "wrong", "()V"⟩, 52), (⟨"HalfBoatsModel", "takes", "(I)V"⟩, 52), (⟨"HalfBoatsModel", "first", "()V"⟩, 52), (⟨"HalfBoatsModel", "cond", "()Z"⟩, 52), (⟨"HalfBoatsModel", "every", "()Z"⟩, 52)]
theorem lw_r5 : ∀ q ∈ lw_privs_5, lw_okq q := List.forall_mem_cons.mpr ⟨lw_p64, List.forall_mem_cons.mpr ⟨lw_p65, List.forall_mem_cons.mpr ⟨lw_p66, List.forall_mem_cons.mpr ⟨lw_p67, List.forall_mem_cons.mpr ⟨lw_p68, List.forall_mem_cons.mpr ⟨lw_p69, List.forall_mem_cons.mpr ⟨lw_p70, List.forall_mem_cons.mpr ⟨lw_p71, List.forall_mem_cons.mpr ⟨lw_p72, List.forall_mem_cons.mpr ⟨lw_p73, List.forall_mem_cons.mpr ⟨lw_p74, List.forall_mem_cons.mpr ⟨lw_p75, List.forall_mem_cons.mpr ⟨lw_p76, List.forall_mem_cons.mpr ⟨lw_p77, List.forall_mem_cons.mpr ⟨lw_p78, List.forall_mem_cons.mpr ⟨lw_p79, fun _ h => absurd h List.not_mem_nil⟩⟩⟩⟩⟩⟩⟩⟩⟩⟩⟩⟩⟩⟩⟩⟩
theorem lw_p80 : lw_okq (⟨"HalfBoatsModel", "single", "()Z"⟩, 52) := ⟨⟨by decide +kernel, by decide +kernel⟩, List.mem_of_getElem? (i := 1343) (by decide +kernel), List.mem_of_getElem? (i := 1818) (by decide +kernel), List.mem_of_getElem? (i := 1819) (by decide +kernel)⟩
theorem lw_p81 : lw_okq (⟨"HalfBoatsModel", "readsFor", "(I)V"⟩, 52) := ⟨⟨by decide +kernel, by decide +kernel⟩, List.mem_of_getElem? (i := 1343) (by decide +kernel), List.mem_of_getElem? (i := 1830) (by decide +kernel), List.mem_of_getElem? (i := 1831) (by decide +kernel)⟩
theorem lw_p82 : lw_okq (⟨"HalfBoatsModel", "sumOf", "(III)I"⟩, 52) := ⟨⟨by decide +kernel, by decide +kernel⟩, List.mem_of_getElem? (i := 1343) (by decide +kernel), List.mem_of_getElem? (i := 1834) (by decide +kernel), List.mem_of_getElem? (i := 1835) (by decide +kernel)⟩
theorem lw_p83 : lw_okq (⟨"HalfBoatsModel", "freeRow", "()I"⟩, 52) := ⟨⟨by decide +kernel, by decide +kernel⟩, List.mem_of_getElem? (i := 1343) (by decide +kernel), List.mem_of_getElem? (i := 1864) (by decide +kernel), List.mem_of_getElem? (i := 1865) (by decide +kernel)⟩
theorem lw_p84 : lw_okq (⟨"HalfBoatsModel", "kindOn", "(I)I"⟩, 52) := ⟨⟨by decide +kernel, by decide +kernel⟩, List.mem_of_getElem? (i := 1343) (by decide +kernel), List.mem_of_getElem? (i := 1889) (by decide +kernel), List.mem_of_getElem? (i := 1890) (by decide +kernel)⟩
theorem lw_p85 : lw_okq (⟨"HalfBoatsModel", "fills", "(I)I"⟩, 52) := ⟨⟨by decide +kernel, by decide +kernel⟩, List.mem_of_getElem? (i := 1343) (by decide +kernel), List.mem_of_getElem? (i := 1897) (by decide +kernel), List.mem_of_getElem? (i := 1898) (by decide +kernel)⟩
theorem lw_p86 : lw_okq (⟨"HalfBoatsModel", "begins", "(I)V"⟩, 52) := ⟨⟨by decide +kernel, by decide +kernel⟩, List.mem_of_getElem? (i := 1343) (by decide +kernel), List.mem_of_getElem? (i := 1901) (by decide +kernel), List.mem_of_getElem? (i := 1902) (by decide +kernel)⟩
theorem lw_p87 : lw_okq (⟨"HalfBoatsModel", "thingFills", "(I)I"⟩, 52) := ⟨⟨by decide +kernel, by decide +kernel⟩, List.mem_of_getElem? (i := 1343) (by decide +kernel), List.mem_of_getElem? (i := 1905) (by decide +kernel), List.mem_of_getElem? (i := 1906) (by decide +kernel)⟩
theorem lw_p88 : lw_okq (⟨"HalfBoatsModel", "carries", "(I)I"⟩, 52) := ⟨⟨by decide +kernel, by decide +kernel⟩, List.mem_of_getElem? (i := 1343) (by decide +kernel), List.mem_of_getElem? (i := 1909) (by decide +kernel), List.mem_of_getElem? (i := 1910) (by decide +kernel)⟩
theorem lw_p89 : lw_okq (⟨"HalfBoatsModel", "thingCarries", "(I)I"⟩, 52) := ⟨⟨by decide +kernel, by decide +kernel⟩, List.mem_of_getElem? (i := 1343) (by decide +kernel), List.mem_of_getElem? (i := 1913) (by decide +kernel), List.mem_of_getElem? (i := 1914) (by decide +kernel)⟩
theorem lw_p90 : lw_okq (⟨"HalfBoatsModel", "fits", "(I)I"⟩, 52) := ⟨⟨by decide +kernel, by decide +kernel⟩, List.mem_of_getElem? (i := 1343) (by decide +kernel), List.mem_of_getElem? (i := 1917) (by decide +kernel), List.mem_of_getElem? (i := 1918) (by decide +kernel)⟩
theorem lw_p91 : lw_okq (⟨"HalfBoatsModel", "thingFits", "(I)I"⟩, 52) := ⟨⟨by decide +kernel, by decide +kernel⟩, List.mem_of_getElem? (i := 1343) (by decide +kernel), List.mem_of_getElem? (i := 1921) (by decide +kernel), List.mem_of_getElem? (i := 1922) (by decide +kernel)⟩
theorem lw_p92 : lw_okq (⟨"HalfBoatsModel", "tells", "(I)I"⟩, 52) := ⟨⟨by decide +kernel, by decide +kernel⟩, List.mem_of_getElem? (i := 1343) (by decide +kernel), List.mem_of_getElem? (i := 1925) (by decide +kernel), List.mem_of_getElem? (i := 1926) (by decide +kernel)⟩
theorem lw_p93 : lw_okq (⟨"HalfBoatsModel", "thingTells", "(I)I"⟩, 52) := ⟨⟨by decide +kernel, by decide +kernel⟩, List.mem_of_getElem? (i := 1343) (by decide +kernel), List.mem_of_getElem? (i := 1929) (by decide +kernel), List.mem_of_getElem? (i := 1930) (by decide +kernel)⟩
def lw_privs_6 : List (MethodName × Nat) := [(⟨"HalfBoatsModel", "single", "()Z"⟩, 52), (⟨"HalfBoatsModel", "readsFor", "(I)V"⟩, 52), (⟨"HalfBoatsModel", "sumOf", "(III)I"⟩, 52), (⟨"HalfBoatsModel", "freeRow", "()I"⟩, 52), (⟨"HalfBoatsModel", "kindOn", "(I)I"⟩, 52), (⟨"HalfBoatsModel", "fills", "(I)I"⟩, 52), (⟨"HalfBoatsModel", "begins", "(I)V"⟩, 52), (⟨"HalfBoatsModel", "thingFills", "(I)I"⟩, 52), (⟨"HalfBoatsModel", "carries", "(I)I"⟩, 52), (⟨"HalfBoatsModel", "thingCarries", "(I)I"⟩, 52), (⟨"HalfBoatsModel", "fits", "(I)I"⟩, 52), (⟨"HalfBoatsModel", "thingFits", "(I)I"⟩, 52), (⟨"HalfBoatsModel", "tells", "(I)I"⟩, 52), (⟨"HalfBoatsModel", "thingTells", "(I)I"⟩, 52)]
theorem lw_r6 : ∀ q ∈ lw_privs_6, lw_okq q := List.forall_mem_cons.mpr ⟨lw_p80, List.forall_mem_cons.mpr ⟨lw_p81, List.forall_mem_cons.mpr ⟨lw_p82, List.forall_mem_cons.mpr ⟨lw_p83, List.forall_mem_cons.mpr ⟨lw_p84, List.forall_mem_cons.mpr ⟨lw_p85, List.forall_mem_cons.mpr ⟨lw_p86, List.forall_mem_cons.mpr ⟨lw_p87, List.forall_mem_cons.mpr ⟨lw_p88, List.forall_mem_cons.mpr ⟨lw_p89, List.forall_mem_cons.mpr ⟨lw_p90, List.forall_mem_cons.mpr ⟨lw_p91, List.forall_mem_cons.mpr ⟨lw_p92, List.forall_mem_cons.mpr ⟨lw_p93, fun _ h => absurd h List.not_mem_nil⟩⟩⟩⟩⟩⟩⟩⟩⟩⟩⟩⟩⟩⟩
def lw_privs : List (MethodName × Nat) := lw_privs_1 ++ (lw_privs_2 ++ (lw_privs_3 ++ (lw_privs_4 ++ (lw_privs_5 ++ (lw_privs_6)))))
def lw_tbl : List Cond := k2_sels lw_privs ++ tables_1
theorem lw_privs_ok : ∀ q ∈ lw_privs, lw_okq q := by
  show ∀ q ∈ lw_privs_1 ++ (lw_privs_2 ++ (lw_privs_3 ++ (lw_privs_4 ++ (lw_privs_5 ++ (lw_privs_6))))), lw_okq q
  exact List.forall_mem_append.mpr ⟨lw_r1, List.forall_mem_append.mpr ⟨lw_r2, List.forall_mem_append.mpr ⟨lw_r3, List.forall_mem_append.mpr ⟨lw_r4, List.forall_mem_append.mpr ⟨lw_r5, lw_r6⟩⟩⟩⟩⟩
end
section
/-! A PURE MACHINE: cells, methods, one step, runs. A reference in it is a number: 0 the script, 1 + j and 17 + j the j-th text and its bytes, 33 a static, 64 + k the k-th cell that was made since the law's entry. -/
abbrev px_E : Type := List Int32 ⊕ (List Int64 ⊕ (Nat × List Value))
abbrev px_W : Type := List px_E
/-- a pool: fields (index, kind of object, field), calls (index, sort, method), made kinds (index, kind), ints, longs, texts, statics (0, 1), fields of texts (0 bytes, 1 coder) -/
abbrev px_L : Type := List (Nat × Nat × Nat) × List (Nat × Nat × Nat) × List (Nat × Nat) × List (Nat × Int32) × List (Nat × Int64) × List (Nat × Nat) × List (Nat × Nat) × List (Nat × Nat)
/-- a method's head: name, bytes, locals, what it returns, how many arguments beside the receiver -/
abbrev px_Hd : Type := MethodName × ByteArray × Nat × Option FieldType × Nat
abbrev px_M : Type := px_Hd × List (Nat × Instr × Nat) × px_L
abbrev px_N : Type := Nat × List (Nat × Value) × List Value × px_W × Nat × Nat
abbrev px_R : Type := px_N ⊕ (Option Value ⊕ (Nat × List Value × List Value))
def px_look {α : Type} : List (Nat × α) → Nat → Option α
  | [], _ => none
  | q :: r, k => if q.1 = k then some q.2 else px_look r k
theorem px_look_mem {α : Type} : ∀ {l : List (Nat × α)} {k : Nat} {a : α}, px_look l k = some a → (k, a) ∈ l
  | [], _, _, h => by cases h
  | q :: r, k, a, h => by
    unfold px_look at h
    split at h
    · rename_i e
      cases h
      subst e
      exact List.mem_cons_self
    · exact List.mem_cons_of_mem _ (px_look_mem h)
def px_or {α : Type} (a b : Option α) : Option α := match a with
  | some x => some x
  | none => b
theorem px_or_some {α : Type} {a b : Option α} {x : α} (h : px_or a b = some x) : a = some x ∨ b = some x := by
  cases a with
  | none => exact Or.inr h
  | some y => exact Or.inl h
def px_sto (lv : List (Nat × Value)) (i : Nat) (v : Value) : List (Nat × Value) := (i, v) :: lv.filter (fun q => !(q.1 == i) && !(q.1 + 1 == i && q.2.category == 2))
def px_ix (i : Int32) (n : Nat) : Bool := !(decide (i < 0)) && decide (i.toNatClampNeg < n)
theorem px_ix_in {i : Int32} {n : Nat} (h : px_ix i n = true) : vp_in i n ∧ i.toNatClampNeg < n := by
  unfold px_ix at h
  simp only [Bool.and_eq_true, Bool.not_eq_true', decide_eq_false_iff_not, decide_eq_true_eq] at h
  exact ⟨fun q => q.elim h.1 (fun z => by omega), h.2⟩
/-- int and int give an int -/
def px_bin (i : Instr) (x y : Int32) : Option Int32 := match i with
  | .iadd => some (x + y)
  | .isub => some (x - y)
  | .imul => some (x * y)
  | .iand => some (x &&& y)
  | .ior => some (x ||| y)
  | .ixor => some (x ^^^ y)
  | .ishl => some (x <<< (y &&& 31))
  | .ishr => some (x >>> (y &&& 31))
  | .iushr => some ((x.toUInt32 >>> (y.toUInt32 &&& Int32.toUInt32 31)).toInt32)
  | .idiv => if y = 0 then none else some (x / y)
  | .irem => if y = 0 then none else some (x - x / y * y)
  | _ => none
/-- a value gives a value -/
def px_un (i : Instr) (v : Value) : Option Value := match i, v with
  | .ineg, .int x => some (.int (-x))
  | .i2l, .int x => some (.long x.toInt64)
  | .i2b, .int x => some (.int x.toInt8.toInt32)
  | .i2s, .int x => some (.int x.toInt16.toInt32)
  | .i2c, .int x => some (.int (x.toUInt32 % 65536).toInt32)
  | .l2i, .long x => some (.int x.toInt32)
  | _, _ => none
def px_lb (i : Instr) (x : Int64) (v : Value) : Option Int64 := match i, v with
  | .land, .long y => some (x &&& y)
  | .lor, .long y => some (x ||| y)
  | .lshl, .int y => some (x <<< (y.toInt64 &&& 63))
  | .lshr, .int y => some (x >>> (y.toInt64 &&& 63))
  | _, _ => none
def px_cst (i : Instr) : Option (Value × Nat) := match i with
  | .iconst n => some (.int (Int32.ofInt n), 1)
  | .bipush n => some (.int (Int8.ofInt n).toInt32, 2)
  | .sipush n => some (.int (Int16.ofInt n).toInt32, 3)
  | .lconst n => some (.long (Int64.ofNat (n : Nat)), 1)
  | _ => none
/-- loads: place, length, sort (0 int, 1 long, 2 reference) -/
def px_ld (i : Instr) : Option (Nat × Nat × Nat) := match i with
  | .iload_n k => some ((k : Nat), 1, 0)
  | .iload k => some (k, 2, 0)
  | .lload_n k => some ((k : Nat), 1, 1)
  | .lload k => some (k, 2, 1)
  | .aload_n k => some ((k : Nat), 1, 2)
  | .aload k => some (k, 2, 2)
  | _ => none
def px_so (v : Value) : Nat := match v with
  | .int _ => 0
  | .long _ => 1
  | .ref _ => 2
  | _ => 3
def px_st (i : Instr) : Option (Nat × Nat × Nat) := match i with
  | .istore_n k => some ((k : Nat), 1, 0)
  | .istore k => some (k, 2, 0)
  | .astore_n k => some ((k : Nat), 1, 2)
  | .astore k => some (k, 2, 2)
  | _ => none
def px_stk (i : Instr) (st : List Value) : Option (List Value) := match i, st with
  | .dup, a :: r => if a.category = 1 then some (a :: a :: r) else none
  | .pop, a :: r => if a.category = 1 then some r else none
  | .dup_x1, a :: b :: r => if a.category = 1 ∧ b.category = 1 then some (a :: b :: a :: r) else none
  | .dup2, a :: b :: r => if a.category = 1 ∧ b.category = 1 then some (a :: b :: a :: b :: r) else none
  | _, _ => none
def px_cnd (k : Jvm.ClassFile.Cond) (x y : Int32) : Bool := match k with
  | .eq => decide (x = y)
  | .ne => decide (¬ x = y)
  | .lt => decide (x < y)
  | .ge => decide (y ≤ x)
  | .gt => decide (y < x)
  | .le => decide (x ≤ y)
def px_tgt (pc : Nat) (off : Int) : Option Nat := if 0 ≤ (pc : Int) + off then some ((pc : Int) + off).toNat else none
def px_br (i : Instr) (pc len : Nat) (st : List Value) : Option (Nat × List Value) := match i, st with
  | .goto off, r => if len = 3 then (px_tgt pc off).map (fun t => (t, r)) else none
  | .ifCond k off, .int x :: r => if len = 3 then (px_tgt pc off).map (fun t => (if px_cnd k x 0 = true then t else pc + 3, r)) else none
  | .if_icmp k off, .int y :: .int x :: r => if len = 3 then (px_tgt pc off).map (fun t => (if px_cnd k x y = true then t else pc + 3, r)) else none
  | .tableswitch dflt lo hi offs, .int x :: r => if x.toInt < lo ∨ hi < x.toInt then (px_tgt pc dflt).map (fun t => (t, r)) else (offs[(x.toInt - lo).toNat]?.bind (fun o => px_tgt pc o)).map (fun t => (t, r))
  | _, _ => none
/-- what needs neither cells nor the pool -/
def px_s1 (i : Instr) (len pc : Nat) (mx : Nat) (lv : List (Nat × Value)) (st : List Value) : Option (Nat × List (Nat × Value) × List Value) :=
  px_or (match st with
    | .int y :: .int x :: r => if len = 1 then (px_bin i x y).map (fun z => (pc + 1, lv, .int z :: r)) else none
    | _ => none)
  (px_or ((px_ld i).bind (fun q => (px_look lv q.1).bind (fun v => if len = q.2.1 ∧ px_so v = q.2.2 then some (pc + len, lv, v :: st) else none)))
  (px_or ((px_cst i).bind (fun q => if len = q.2 then some (pc + len, lv, q.1 :: st) else none))
  (px_or ((px_br i pc len st).map (fun q => (q.1, lv, q.2)))
  (px_or (match st with
    | v :: r => (px_st i).bind (fun q => if len = q.2.1 ∧ px_so v = q.2.2 ∧ q.1 < mx then some (pc + len, px_sto lv q.1 v, r) else none)
    | _ => none)
  (px_or (match i with
    | .iinc k n => (px_look lv k).bind (fun v => match v with
      | .int x => if len = 3 ∧ k < mx then some (pc + 3, px_sto lv k (.int (x + Int32.ofInt n)), st) else none
      | _ => none)
    | _ => none)
  (px_or (if len = 1 then (px_stk i st).map (fun r => (pc + 1, lv, r)) else none)
  (px_or (match st with
    | v :: r => if len = 1 then (px_un i v).map (fun z => (pc + 1, lv, z :: r)) else none
    | _ => none)
  (match st with
    | v :: .long x :: r => if len = 1 then (px_lb i x v).map (fun z => (pc + 1, lv, .long z :: r)) else none
    | _ => none))))))))
def px_ty (T : u_T) (k : Nat) : FieldType := (parseFieldDescriptor (T k).2.2.1).getD .int
def px_rt (t : FieldType) : Bool := match t with
  | .object _ => true
  | .array _ => true
  | _ => false
/-- may a value stand in a field of this type -/
def px_fit (t : FieldType) (v : Value) : Bool := match v with
  | .int x => decide (narrow t (.int x) = .int x) && fits t (.int x)
  | .ref _ => px_rt t
  | _ => false
def px_cpy (a b : List Int32) (sp dp n : Nat) : List Int32 := b.take dp ++ ((a.drop sp).take n ++ b.drop (dp + n))
/-- what reads and writes cells, or the pool: stack, cells, how many cells and slots are new -/
def px_s2 (cl : List vw_C) (lt : List (List Int32)) (i : Instr) (len : Nat) (scr : Option (List Int32)) (nm : String) (own : String) (L : px_L) (st : List Value) (w : px_W) : Option (List Value × px_W × Nat × Nat) := match i, st with
  | .getfield x, .ref a :: r => if len = 3 ∧ 64 ≤ a then (match px_look L.1 x, w[a - 64]? with
    | some q, some (.inr (.inr o)) => if q.1 = o.1 then (o.2[q.2]?).map (fun v => (v :: r, w, 0, 0)) else none
    | _, _ => none) else if len = 3 ∧ 1 ≤ a ∧ a ≤ 16 then (px_look L.2.2.2.2.2.2.2 x).bind (fun k => if k = 0 then some (.ref (a + 16) :: r, w, 0, 0) else if k = 1 then some (.int 0 :: r, w, 0, 0) else none) else none
  | .iaload, .int j :: .ref a :: r => if len = 1 then (if a = 0 then (match scr with
      | some xs => if px_ix j xs.length = true then some (.int (xs.getD j.toNatClampNeg 0) :: r, w, 0, 0) else none
      | none => none) else if 64 ≤ a then (match w[a - 64]? with
      | some (.inl l) => if px_ix j l.length = true then some (.int (l.getD j.toNatClampNeg 0) :: r, w, 0, 0) else none
      | _ => none) else none) else none
  | .iastore, .int z :: .int j :: .ref a :: r => if len = 1 ∧ 64 ≤ a then (match w[a - 64]? with
      | some (.inl l) => if px_ix j l.length = true then some (r, w.set (a - 64) (.inl (l.set j.toNatClampNeg z)), 0, 0) else none
      | _ => none) else none
  | .putfield x, v :: .ref a :: r => if len = 3 ∧ 64 ≤ a then (match px_look L.1 x, w[a - 64]? with
    | some q, some (.inr (.inr o)) => (match cl[q.1]? with
      | some k => if q.1 = o.1 ∧ q.2 < o.2.length ∧ px_fit (px_ty k.2.1 q.2) v = true ∧ ((k.2.1 q.2).2.2.2 = true → nm = "<init>" ∧ (k.2.1 q.2).1 = own) then some (r, w.set (a - 64) (.inr (.inr (o.1, o.2.set q.2 v))), 0, 0) else none
      | none => none)
    | _, _ => none) else none
  | .ldc x, r => if len = 2 then px_or ((px_look L.2.2.2.1 x).map (fun v => (.int v :: r, w, 0, 0))) ((px_look L.2.2.2.2.2.1 x).map (fun j => (.ref (1 + j) :: r, w, 0, 0))) else none
  | .getstatic x, r => if len = 3 then (px_look L.2.2.2.2.2.2.1 x).bind (fun k => if k = 0 then some (.int 1 :: r, w, 0, 0) else if k = 1 then some (.ref 33 :: r, w, 0, 0) else none) else none
  | .baload, .int j :: .ref a :: r => if len = 1 ∧ 17 ≤ a ∧ a ≤ 32 ∧ px_ix j ((lt.map List.length).getD (a - 17) 0) = true then some (.int ((lt.getD (a - 17) []).getD j.toNatClampNeg 0) :: r, w, 0, 0) else none
  | .ldc_w x, r => if len = 3 then (px_look L.2.2.2.1 x).map (fun v => (.int v :: r, w, 0, 0)) else none
  | .ldc2_w x, r => if len = 3 then (px_look L.2.2.2.2.1 x).map (fun v => (.long v :: r, w, 0, 0)) else none
  | .arraylength, .ref a :: r => if len = 1 then (if a = 0 then (match scr with
      | some xs => some (.int (Int32.ofNat xs.length) :: r, w, 0, 0)
      | none => none) else if 64 ≤ a then (match w[a - 64]? with
      | some (.inl l) => some (.int (Int32.ofNat l.length) :: r, w, 0, 0)
      | _ => none) else if 17 ≤ a ∧ a ≤ 32 then some (.int (Int32.ofNat ((lt.map List.length).getD (a - 17) 0)) :: r, w, 0, 0) else none) else none
  | .laload, .int j :: .ref a :: r => if len = 1 ∧ 64 ≤ a then (match w[a - 64]? with
      | some (.inr (.inl l)) => if px_ix j l.length = true then some (.long (l.getD j.toNatClampNeg 0) :: r, w, 0, 0) else none
      | _ => none) else none
  | .lastore, .long z :: .int j :: .ref a :: r => if len = 1 ∧ 64 ≤ a then (match w[a - 64]? with
      | some (.inr (.inl l)) => if px_ix j l.length = true then some (r, w.set (a - 64) (.inr (.inl (l.set j.toNatClampNeg z))), 0, 0) else none
      | _ => none) else none
  | .new x, r => if len = 3 then (px_look L.2.2.1 x).bind (fun ci => (cl[ci]?).map (fun k => (.ref (64 + w.length) :: r, w ++ [.inr (.inr (ci, (List.range k.2.2).map (fun j => defaultValue (px_ty k.2.1 j))))], 1, k.2.2))) else none
  | .newarray .int, .int n :: r => if len = 2 ∧ ¬ n < 0 ∧ n.toNatClampNeg ≤ 100000 then some (.ref (64 + w.length) :: r, w ++ [.inl (List.replicate n.toNatClampNeg 0)], 1, n.toNatClampNeg) else none
  | .newarray .long, .int n :: r => if len = 2 ∧ ¬ n < 0 ∧ n.toNatClampNeg ≤ 100000 then some (.ref (64 + w.length) :: r, w ++ [.inr (.inl (List.replicate n.toNatClampNeg 0))], 1, n.toNatClampNeg) else none
  | _, _ => none
/-- native and empty callees -/
def px_s3 (i : Instr) (len : Nat) (d : Nat) (L : px_L) (st : List Value) (w : px_W) : Option (List Value × px_W) := match i, st with
  | .invokestatic x, .int n :: .int dp :: .ref b :: .int sp :: .ref a :: r => if len = 3 ∧ 1 ≤ d ∧ 64 ≤ a ∧ 64 ≤ b ∧ ¬ sp < 0 ∧ ¬ dp < 0 ∧ ¬ n < 0 ∧ (r.map (fun v => v.category)).sum ≤ 8 then (match px_look L.2.1 x, w[a - 64]?, w[b - 64]? with
    | some q, some (.inl la), some (.inl lb) => if q.1 = 6 ∧ sp.toNatClampNeg + n.toNatClampNeg ≤ la.length ∧ dp.toNatClampNeg + n.toNatClampNeg ≤ lb.length then some (r, w.set (b - 64) (.inl (px_cpy la lb sp.toNatClampNeg dp.toNatClampNeg n.toNatClampNeg))) else none
    | _, _, _ => none) else none
  | .invokespecial x, .ref a :: r => if len = 3 ∧ 1 ≤ d ∧ 64 ≤ a ∧ (r.map (fun v => v.category)).sum ≤ 8 then (match px_look L.2.1 x with
    | some q => if q.1 = 7 then some (r, w) else none
    | none => none) else none
  | _, _ => none
/-- greatest, least, amount -/
def px_s6 (i : Instr) (len : Nat) (d : Nat) (L : px_L) (st : List Value) : Option (List Value) := match i with
  | .invokestatic x => if len = 3 ∧ 1 ≤ d then (px_look L.2.1 x).bind (fun q => match st with
    | .int y :: r => if q.1 = 10 then (if (r.map (fun v => v.category)).sum ≤ 8 then some (.int (if 0 ≤ y then y else 0 - y) :: r) else none) else (match r with
      | .int x :: r2 => if (r2.map (fun v => v.category)).sum ≤ 8 then (if q.1 = 8 then some (.int (if x < y then y else x) :: r2) else if q.1 = 9 then some (.int (if y < x then y else x) :: r2) else none) else none
      | _ => none)
    | _ => none) else none
  | _ => none
/-- an own callee: its number, its arguments, what stays on the stack -/
def px_s4 (cl : List vw_C) (P : List px_M) (i : Instr) (len : Nat) (L : px_L) (st : List Value) (w : px_W) : Option (Nat × List Value × List Value) := match i with
  | .invokevirtual x => if len = 3 then (px_look L.2.1 x).bind (fun q => (P[q.2]?).bind (fun M => match st.drop M.1.2.2.2.2 with
    | .ref b :: r => if q.1 = 0 ∧ M.1.2.2.2.2 ≤ st.length ∧ 64 ≤ b ∧ (r.map (fun v => v.category)).sum ≤ 8 then (match w[b - 64]? with
      | some (.inr (.inr o)) => (match cl[o.1]? with
        | some k => if k.1 = M.1.1.cls then some (q.2, .ref b :: (st.take M.1.2.2.2.2).reverse, r) else none
        | none => none)
      | _ => none) else if q.1 = 0 ∧ M.1.2.2.2.2 ≤ st.length ∧ 1 ≤ b ∧ b ≤ 16 ∧ M.1.1.cls = "java/lang/String" ∧ (r.map (fun v => v.category)).sum ≤ 8 then some (q.2, .ref b :: (st.take M.1.2.2.2.2).reverse, r) else none
    | _ => none)) else none
  | .invokestatic x => if len = 3 then (px_look L.2.1 x).bind (fun q => (P[q.2]?).bind (fun M => if (q.1 = 1 ∨ q.1 = 4) ∧ M.1.2.2.2.2 ≤ st.length ∧ ((st.drop M.1.2.2.2.2).map (fun v => v.category)).sum ≤ 8 then some (q.2, (st.take M.1.2.2.2.2).reverse, st.drop M.1.2.2.2.2) else none)) else none
  | .invokespecial x => if len = 3 then (px_look L.2.1 x).bind (fun q => (P[q.2]?).bind (fun M => match st.drop M.1.2.2.2.2 with
    | .ref b :: r => if (q.1 = 2 ∨ q.1 = 5) ∧ M.1.2.2.2.2 ≤ st.length ∧ 64 ≤ b ∧ (r.map (fun v => v.category)).sum ≤ 8 then some (q.2, .ref b :: (st.take M.1.2.2.2.2).reverse, r) else none
    | _ => none)) else none
  | _ => none
def px_s5 (i : Instr) (len : Nat) (ret : Option FieldType) (st : List Value) : Option (Option Value) := match i, st with
  | .ireturn, [.int x] => (match ret with
    | some t => if len = 1 ∧ narrow t (.int x) = .int x then some (some (.int x)) else none
    | none => none)
  | .lreturn, [.long x] => if len = 1 ∧ ret = some .long then some (some (.long x)) else none
  | .return_, [] => if len = 1 ∧ ret = none then some none else none
  | _, _ => none
def px_step (cl : List vw_C) (lt : List (List Int32)) (P : List px_M) (d : Nat) (scr : Option (List Int32)) (M : px_M) (pc : Nat) (lv : List (Nat × Value)) (st : List Value) (w : px_W) : Option px_R :=
  (px_look M.2.1 pc).bind (fun q =>
    px_or ((px_s1 q.1 q.2 pc M.1.2.2.1 lv st).map (fun z => .inl (z.1, z.2.1, z.2.2, w, 0, 0)))
    (px_or ((px_s2 cl lt q.1 q.2 scr M.1.1.name M.1.1.cls M.2.2 st w).map (fun z => .inl (pc + q.2, lv, z.1, z.2.1, z.2.2)))
    (px_or ((px_s5 q.1 q.2 M.1.2.2.2.1 st).map (fun z => .inr (.inl z)))
    (px_or ((px_s3 q.1 q.2 d M.2.2 st w).map (fun z => .inl (pc + 3, lv, z.1, z.2, 0, 0)))
    (px_or ((px_s6 q.1 q.2 d M.2.2 st).map (fun z => .inl (pc + 3, lv, z, w, 0, 0)))
    ((px_s4 cl P q.1 q.2 M.2.2 st w).map (fun z => .inr (.inr z))))))))
def px_exec (cl : List vw_C) (lt : List (List Int32)) (P : List px_M) : Nat → Nat → Option (List Int32) → px_M → Nat → List (Nat × Value) → List Value → px_W → Nat × Nat → Option (Option Value × px_W × (Nat × Nat))
  | 0, _, _, _, _, _, _, _, _ => none
  | n + 1, d, scr, M, pc, lv, st, w, b => match px_step cl lt P d scr M pc lv st w with
    | none => none
    | some (.inl z) => if z.2.2.2.2.1 ≤ b.1 ∧ z.2.2.2.2.2 ≤ b.2 then px_exec cl lt P n d scr M z.1 z.2.1 z.2.2.1 z.2.2.2.1 (b.1 - z.2.2.2.2.1, b.2 - z.2.2.2.2.2) else none
    | some (.inr (.inl v)) => some (v, w, b)
    | some (.inr (.inr q)) => match d, P[q.1]? with
      | d' + 1, some M' => if (lg_sl q.2.1).length ≤ M'.1.2.2.1 then (match px_exec cl lt P n d' none M' 0 (lv_args 0 q.2.1) [] w b with
        | none => none
        | some r => px_exec cl lt P n d scr M (pc + 3) lv (r.1.toList ++ q.2.2) r.2.1 r.2.2) else none
      | _, _ => none
theorem px_mono {cl : List vw_C} {lt : List (List Int32)} {P : List px_M} : ∀ (n d : Nat) (scr : Option (List Int32)) (M : px_M) (pc : Nat) (lv : List (Nat × Value)) (st : List Value) (w : px_W) (b : Nat × Nat) (r : Option Value × px_W × (Nat × Nat)), px_exec cl lt P n d scr M pc lv st w b = some r → r.2.2.1 ≤ b.1 ∧ r.2.2.2 ≤ b.2
  | 0, _, _, _, _, _, _, _, _, _, h => by simp [px_exec] at h
  | n + 1, d, scr, M, pc, lv, st, w, b, r, h => by
    unfold px_exec at h
    split at h
    · cases h
    · split at h
      · have := px_mono n d scr M _ _ _ _ _ r h
        simp only at this
        omega
      · cases h
    · cases h
      exact ⟨Nat.le_refl _, Nat.le_refl _⟩
    · split at h
      · split at h
        · split at h
          · cases h
          · rename_i r2 h2
            have h3 := px_mono n _ none _ _ _ _ _ _ r2 h2
            have h4 := px_mono n _ scr M _ _ _ _ _ r h
            omega
        · cases h
      · cases h
end
section
/-! THE MACHINE'S HEAP AND THE PURE CELLS -/
def px_tr (ad : Nat → Option Nat) (v : Value) : Value := match v with
  | .ref k => va_rf (ad k)
  | v => v
theorem px_tr_cat (ad : Nat → Option Nat) (v : Value) : (px_tr ad v).category = v.category := by
  cases v with
  | ref k =>
    show (va_rf (ad k)).category = 1
    cases ad k <;> rfl
  | _ => rfl
theorem px_tr_sum (ad : Nat → Option Nat) (l : List Value) : ((l.map (px_tr ad)).map fun v => v.category).sum = (l.map fun v => v.category).sum := by
  rw [List.map_map]
  congr 1
  exact List.map_congr_left (fun v _ => px_tr_cat ad v)
theorem px_tr_def (ad : Nat → Option Nat) (t : FieldType) : px_tr ad (defaultValue t) = defaultValue t := by cases t <;> rfl
def px_lv (ad : Nat → Option Nat) (lv : List (Nat × Value)) : List (Nat × Value) := lv.map (fun q => (q.1, px_tr ad q.2))
theorem px_sto_tr (ad : Nat → Option Nat) (lv : List (Nat × Value)) (i : Nat) (v : Value) : (i, px_tr ad v) :: (px_lv ad lv).filter (fun q => !(q.1 == i) && !(q.1 + 1 == i && q.2.category == 2)) = px_lv ad (px_sto lv i v) := by
  unfold px_lv px_sto
  rw [List.map_cons, List.filter_map]
  congr 2
  apply List.filter_congr
  intro q _
  show (!(q.1 == i) && !(q.1 + 1 == i && (px_tr ad q.2).category == 2)) = _
  rw [px_tr_cat]
theorem px_args_tr (ad : Nat → Option Nat) : ∀ (as : List Value) (i : Nat), lv_args i (as.map (px_tr ad)) = px_lv ad (lv_args i as)
  | [], _ => rfl
  | v :: vs, i => by
    show (i, px_tr ad v) :: lv_args (if (px_tr ad v).category = 2 then i + 2 else i + 1) (vs.map (px_tr ad)) = _
    rw [px_tr_cat, px_args_tr ad vs]
    rfl
theorem px_sl_tr (ad : Nat → Option Nat) : ∀ (as : List Value), (lg_sl (as.map (px_tr ad))).length = (lg_sl as).length
  | [] => rfl
  | v :: vs => by
    have ih := px_sl_tr ad vs
    unfold lg_sl at ih ⊢
    rw [List.map_cons, List.flatMap_cons, List.flatMap_cons, List.length_append, List.length_append, ih, px_tr_cat]
    congr 1
    split <;> rfl
def px_at (cl : List vw_C) (ad : Nat → Option Nat) (D : va_G) (cI cJ : ClassId) (a : Nat) (e : px_E) (H : Heap) : Prop := match e with
  | .inl l => H[a]? = some (vp_cell cI (l.length, .inl (fun j => l.getD j 0)))
  | .inr (.inl l) => H[a]? = some (vp_cell cJ (l.length, .inr (.inl (fun j => l.getD j 0))))
  | .inr (.inr o) => ∃ r : vw_C, cl[o.1]? = some r ∧ t_OB a (D.1 o.1) r.2.2 (D.2 o.1) H (vp_V (o.2.map (px_tr ad)))
def px_H (cl : List vw_C) (ad : Nat → Option Nat) (D : va_G) (cI cJ : ClassId) (B : Nat) (w : px_W) (H : Heap) : Prop := H.size = B + w.length ∧ ∀ (k : Nat) (e : px_E), w[k]? = some e → px_at cl ad D cI cJ (B + k) e H
theorem px_at.kept {cl : List vw_C} {ad : Nat → Option Nat} {D : va_G} {cI cJ : ClassId} {a : Nat} {e : px_E} {H H1 : Heap} (h : px_at cl ad D cI cJ a e H) (hq : H1[a]? = H[a]?) : px_at cl ad D cI cJ a e H1 := by
  match e, h with
  | .inl l, h => exact hq.trans h
  | .inr (.inl l), h => exact hq.trans h
  | .inr (.inr o), ⟨r, h1, h2⟩ => exact ⟨r, h1, h2.kept hq⟩
theorem px_H.set {cl : List vw_C} {ad : Nat → Option Nat} {D : va_G} {cI cJ : ClassId} {B k : Nat} {w : px_W} {e0 e : px_E} {H H1 : Heap} (h : px_H cl ad D cI cJ B w H) (hk : w[k]? = some e0) (hz : H1.size = H.size) (ho : ∀ q, q ≠ B + k → H1[q]? = H[q]?) (he : px_at cl ad D cI cJ (B + k) e H1) : px_H cl ad D cI cJ B (w.set k e) H1 := by
  have hl := (List.getElem?_eq_some_iff.mp hk).1
  refine ⟨by rw [hz, h.1, List.length_set], fun j x hj => ?_⟩
  by_cases hjk : j = k
  · subst hjk
    rw [List.getElem?_set_self hl] at hj
    cases hj
    exact he
  · rw [List.getElem?_set_ne (Ne.symm hjk)] at hj
    exact (h.2 j x hj).kept (ho _ (by omega))
theorem px_H.push {cl : List vw_C} {ad : Nat → Option Nat} {D : va_G} {cI cJ : ClassId} {B : Nat} {w : px_W} {e : px_E} {H H1 : Heap} (h : px_H cl ad D cI cJ B w H) (hz : H1.size = H.size + 1) (ho : ∀ q, q < H.size → H1[q]? = H[q]?) (he : px_at cl ad D cI cJ H.size e H1) : px_H cl ad D cI cJ B (w ++ [e]) H1 := by
  refine ⟨by rw [hz, h.1, List.length_append]; simp; omega, fun j x hj => ?_⟩
  by_cases hl : j < w.length
  · rw [List.getElem?_append_left hl] at hj
    exact (h.2 j x hj).kept (ho _ (by rw [h.1]; omega))
  · rw [List.getElem?_append_right (by omega)] at hj
    have hz0 : j - w.length < 1 := (List.getElem?_eq_some_iff.mp hj).1
    have hj0 : j = w.length := by omega
    subst hj0
    rw [Nat.sub_self] at hj
    cases hj
    rw [← h.1]
    exact he
theorem px_getD_set {α : Type} {l : List α} {k : Nat} {z d : α} (hk : k < l.length) (j : Nat) : (l.set k z).getD j d = if j = k then z else l.getD j d := by
  rw [List.getD_eq_getElem?_getD, List.getD_eq_getElem?_getD]
  by_cases h : j = k
  · subst h
    rw [if_pos rfl, List.getElem?_set_self hk]
    rfl
  · rw [if_neg h, List.getElem?_set_ne (Ne.symm h)]
theorem px_cell_set {cA : ClassId} {l : List Int32} {k : Nat} {z : Int32} (hk : k < l.length) : (vp_cell cA (l.length, .inl (fun j => l.getD j 0))).setSlot k (.int z) = vp_cell cA ((l.set k z).length, .inl (fun j => (l.set k z).getD j 0)) := by
  rw [vp_cell_i, vp_cell_i, arrV_store, List.length_set]
  congr 1
  funext j
  rw [px_getD_set hk]
  unfold updV
  split <;> rfl
theorem px_cell_setL {cA : ClassId} {l : List Int64} {k : Nat} {z : Int64} (hk : k < l.length) : (vp_cell cA (l.length, .inr (.inl (fun j => l.getD j 0)))).setSlot k (.long z) = vp_cell cA ((l.set k z).length, .inr (.inl (fun j => (l.set k z).getD j 0))) := by
  rw [vp_cell_l, vp_cell_l, arrV_store, List.length_set]
  congr 1
  funext j
  rw [px_getD_set hk]
  unfold updV
  split <;> rfl
theorem px_cpy_len {a b : List Int32} {sp dp n : Nat} (h1 : sp + n ≤ a.length) (h2 : dp + n ≤ b.length) : (px_cpy a b sp dp n).length = b.length := by
  unfold px_cpy
  simp only [List.length_append, List.length_take, List.length_drop]
  omega
theorem px_cpy_at {a b : List Int32} {sp dp n : Nat} (h1 : sp + n ≤ a.length) (h2 : dp + n ≤ b.length) (j : Nat) : (px_cpy a b sp dp n).getD j 0 = va_cpy (fun j => a.getD j 0) (fun j => b.getD j 0) sp dp n j := by
  unfold px_cpy va_cpy
  simp only [List.getD_eq_getElem?_getD]
  have l1 : (b.take dp).length = dp := by rw [List.length_take]; omega
  have l2 : ((a.drop sp).take n).length = n := by rw [List.length_take, List.length_drop]; omega
  by_cases c1 : j < dp
  · rw [List.getElem?_append_left (by omega), if_neg (by omega), List.getElem?_take_of_lt c1]
  · by_cases c2 : j < dp + n
    · rw [List.getElem?_append_right (by omega), l1, List.getElem?_append_left (by omega), if_pos (by omega), List.getElem?_take_of_lt (by omega), List.getElem?_drop]
    · rw [List.getElem?_append_right (by omega), l1, List.getElem?_append_right (by omega), l2, if_neg (by omega), List.getElem?_drop]
      congr 2
      omega
theorem px_fit_ok {t : FieldType} {v : Value} (ad : Nat → Option Nat) (h : px_fit t v = true) : narrow t (px_tr ad v) = px_tr ad v ∧ fits t (px_tr ad v) = true := by
  cases v with
  | int x =>
    unfold px_fit at h
    simp only [Bool.and_eq_true, decide_eq_true_eq] at h
    exact h
  | ref a =>
    unfold px_fit px_rt at h
    show narrow t (va_rf (ad a)) = va_rf (ad a) ∧ fits t (va_rf (ad a)) = true
    cases t <;> first | (cases ad a <;> exact ⟨rfl, rfl⟩) | simp at h
  | _ => simp [px_fit] at h
/-! what the tables must say of a program -/
def px_okK (Ts : List Cond) (r : vw_C) : Prop := (∀ w ∈ u_ws r.1 r.2.1 r.2.2, w ∈ Ts) ∧ (∀ k, k < r.2.2 → parseFieldDescriptor (r.2.1 k).2.2.1 = some (px_ty r.2.1 k)) ∧ (∀ a, a < r.2.2 → ∀ b, b < r.2.2 → a ≠ b → (r.2.1 a).2.1 ≠ (r.2.1 b).2.1) ∧ Cond.instantiable r.1 r.2.2 ∈ Ts ∧ Cond.initialized r.1 ∈ Ts
def px_okF (Ts : List Cond) (cl : List vw_C) (own : String) (q : Nat × Nat × Nat) : Prop := ∃ r : vw_C, cl[q.2.1]? = some r ∧ q.2.2 < r.2.2 ∧ Cond.fieldLink own q.1 (r.2.1 q.2.2).1 (r.2.1 q.2.2).2.1 (r.2.1 q.2.2).2.2.1 ∈ Ts
def px_okC (Ts Ns : List Cond) (P : List px_M) (own : String) (q : Nat × Nat × Nat) : Prop :=
  (q.2.1 = 6 → Cond.methodLink own q.1 arraycopyName ∈ Ts ∧ Cond.native arraycopyName ∈ Ts ∧ Cond.static arraycopyName ∈ Ts ∧ Cond.initialized "java/lang/System" ∈ Ts) ∧
  (q.2.1 = 7 → Cond.methodLink own q.1 objectInit ∈ Ts ∧ Cond.instanceMethod objectInit ∈ Ts ∧ Cond.code objectInit ⟨#[0xb1]⟩ 1 none ∈ Ts) ∧
  (∀ M : px_M, P[q.2.2]? = some M → (q.2.1 = 0 → Cond.methodLink own q.1 M.1.1 ∈ Ts ∧ Cond.instanceMethod M.1.1 ∈ Ts ∧ Cond.selects M.1.1.cls M.1.1 M.1.1 ∈ Ts) ∧
    (q.2.1 = 1 → Cond.methodLink own q.1 M.1.1 ∈ Ts ∧ Cond.static M.1.1 ∈ Ts) ∧
    (q.2.1 = 2 → Cond.methodLink own q.1 M.1.1 ∈ Ts ∧ M.1.1.name = "<init>" ∧ Cond.instanceMethod M.1.1 ∈ Ts ∧ M.1.2.2.2.1 = none) ∧
    (q.2.1 = 4 → Cond.methodLinkNest own q.1 M.1.1 "HalfBoats" ∈ Ns ∧ Cond.static M.1.1 ∈ Ts) ∧
    (q.2.1 = 5 → Cond.methodLinkNest own q.1 M.1.1 "HalfBoats" ∈ Ns ∧ M.1.1.name = "<init>" ∧ Cond.instanceMethod M.1.1 ∈ Ts ∧ M.1.2.2.2.1 = none)) ∧
  (q.2.1 = 8 → Cond.methodLink own q.1 Lib.Math.max.name ∈ Ts ∧ Cond.static Lib.Math.max.name ∈ Ts ∧ Cond.initialized "java/lang/Math" ∈ Ts ∧ Cond.code Lib.Math.max.name Lib.Math.max.code 2 (some .int) ∈ Ts) ∧
  (q.2.1 = 9 → Cond.methodLink own q.1 Lib.Math.min.name ∈ Ts ∧ Cond.static Lib.Math.min.name ∈ Ts ∧ Cond.initialized "java/lang/Math" ∈ Ts ∧ Cond.code Lib.Math.min.name Lib.Math.min.code 2 (some .int) ∈ Ts) ∧
  (q.2.1 = 10 → Cond.methodLink own q.1 Lib.Math.abs.name ∈ Ts ∧ Cond.static Lib.Math.abs.name ∈ Ts ∧ Cond.initialized "java/lang/Math" ∈ Ts ∧ Cond.code Lib.Math.abs.name Lib.Math.abs.code 1 (some .int) ∈ Ts)
def px_okL (Ts Ns : List Cond) (cl : List vw_C) (SL : List (String × Nat × Nat)) (P : List px_M) (own : String) (L : px_L) : Prop :=
  (∀ q ∈ L.1, px_okF Ts cl own q) ∧ (∀ q ∈ L.2.1, px_okC Ts Ns P own q) ∧ (∀ q ∈ L.2.2.1, ∃ r : vw_C, cl[q.2]? = some r ∧ Cond.classLink own q.1 r.1 ∈ Ts) ∧ (∀ q ∈ L.2.2.2.1, Cond.constant own q.1 q.2 ∈ Ts) ∧ (∀ q ∈ L.2.2.2.2.1, Cond.constantLong own q.1 q.2 ∈ Ts) ∧ (∀ q ∈ L.2.2.2.2.2.1, (own, q.1, q.2) ∈ SL) ∧
  (∀ q ∈ L.2.2.2.2.2.2.1, (q.2 = 0 → Cond.fieldLink own q.1 "java/lang/String" "COMPACT_STRINGS" "Z" ∈ Ts) ∧ (q.2 = 1 → Cond.fieldLink own q.1 "jdk/internal/util/Preconditions" "SIOOBE_FORMATTER" "Ljava/util/function/BiFunction;" ∈ Ts)) ∧
  ∀ q ∈ L.2.2.2.2.2.2.2, (q.2 = 0 → Cond.fieldLink own q.1 "java/lang/String" "value" "[B" ∈ Ts) ∧ (q.2 = 1 → Cond.fieldLink own q.1 "java/lang/String" "coder" "B" ∈ Ts)
def px_okM (Ts Ns : List Cond) (cl : List vw_C) (SL : List (String × Nat × Nat)) (P : List px_M) (M : px_M) : Prop :=
  (Cond.code M.1.1 M.1.2.1 M.1.2.2.1 M.1.2.2.2.1 ∈ Ts ∧ plainName M.1.1.cls = true ∧ Cond.initialized M.1.1.cls ∈ Ts ∧ (M.1.1.cls ≠ "java/lang/invoke/MethodHandle" ∧ M.1.1.cls ≠ "java/lang/invoke/VarHandle" ∧ (parseMethodDescriptor M.1.1.desc).map (fun d => d.parameters.length) = some M.1.2.2.2.2) ∧ M.1.2.2.1 ≤ 64) ∧
  (∀ q ∈ M.2.1, decode M.1.2.1 q.1 = .ok q.2) ∧ px_okL Ts Ns cl SL P M.1.1.cls M.2.2
def px_okP (Ts Ns : List Cond) (cl : List vw_C) (SL : List (String × Nat × Nat)) (P : List px_M) : Prop :=
  (∀ r ∈ cl, px_okK Ts r) ∧ (∀ M ∈ P, px_okM Ts Ns cl SL P M) ∧ Cond.arrayClass .int ∈ Ts ∧ Cond.arrayClass .long ∈ Ts ∧ (∀ w ∈ Ts, goodWord w = true) ∧ ∀ x ∈ Ns, ∃ (a : String) (i : Nat) (y : MethodName) (h : String), x = Cond.methodLinkNest a i y h
/-- what holds all through a method's body -/
def px_Env (Ts Ns : List Cond) (cl : List vw_C) (D : va_G) (cI cJ : ClassId) (h : px_Hd) (p : Program) (s : State) (m : MethodId) (args : Array Value) (meth : Method) (c : Code) : Prop :=
  p.tables.exec = Jvm.exec ∧ c.code = h.2.1 ∧ c.maxLocals = h.2.2.1 ∧ meth.sig.returnType = h.2.2.2.1 ∧ meth.locks = false ∧ (h.1.name = "<init>" → meth.name = "<init>") ∧ s.vm.findClass h.1.cls = some m.cls ∧ (∀ w ∈ Ts, w.before args s = true) ∧ va_K D cl [(cI, .int), (cJ, .long)] s ∧ ∀ x ∈ Ns, va_Nw x s
/-- texts and statics, which nobody writes -/
def px_X (lt : List (List Int32)) (SL : List (String × Nat × Nat)) (ad : Nat → Option Nat) (B : Nat) (U : State) (H : Heap) : Prop := ∃ (adK adV : Nat → Nat), (∀ j, j < 16 → ad (1 + j) = some (adK j) ∧ ad (17 + j) = some (adV j)) ∧ vk_S 16 (lt.map List.length) lt adK adV (fun q => B ≤ q) U H ∧ (∀ q ∈ SL, q.2.2 < 16 ∧ ∃ tx, vk_R q.1 q.2.1 tx (adK q.2.2) U) ∧ va_Z "java/lang/String" "COMPACT_STRINGS" "Z" (.int 1) (fun q => B ≤ q) U H ∧ va_Z "jdk/internal/util/Preconditions" "SIOOBE_FORMATTER" "Ljava/util/function/BiFunction;" (va_rf (ad 33)) (fun q => B ≤ q) U H
theorem px_X.to {lt : List (List Int32)} {SL : List (String × Nat × Nat)} {ad : Nat → Option Nat} {B : Nat} {u U : State} {H H1 : Heap} (hW : u.WarmedH U.vm) (hf : ∀ q, q < B → H1[q]? = H[q]?) (h : px_X lt SL ad B u H) : px_X lt SL ad B U H1 := by
  obtain ⟨adK, adV, h1, h2, h3, h4, h5⟩ := h
  have hk : ∀ a : Nat, a < H.size → ¬ B ≤ a → H1[a]? = H[a]? := fun a _ z => hf a (Nat.not_le.mp z)
  exact ⟨adK, adV, h1, (h2.moved hW.alike).kept hk, fun q hq => ⟨(h3 q hq).1, (h3 q hq).2.elim (fun tx z => ⟨tx, z.warm hW⟩)⟩, (h4.moved hW.alike).kept hk, (h5.moved hW.alike).kept hk⟩
theorem px_X.same {lt : List (List Int32)} {SL : List (String × Nat × Nat)} {ad : Nat → Option Nat} {B : Nat} {u U : State} {H : Heap} (hv : U.vm = u.vm) (h : px_X lt SL ad B u H) : px_X lt SL ad B U H := by
  obtain ⟨adK, adV, h1, h2, h3, h4, h5⟩ := h
  have ha : u.vm.Alike U.vm := by rw [hv]; exact Vm.Alike.refl _
  exact ⟨adK, adV, h1, h2.moved ha, fun q hq => ⟨(h3 q hq).1, (h3 q hq).2.elim (fun tx z => ⟨tx, z.same hv⟩)⟩, h4.moved ha, h5.moved ha⟩
end
section
/-! ROWS: what needs neither cells nor the pool -/
section PX1
variable {p : Program} {l : Launch} {e : Env} {R : Room} {s : State} {m : MethodId} {args : Array Value} {below : List Frame} {meth : Method} {c : Code} {H : Heap} {locs : List Loc} {cells slots : Nat} {Q : State → Prop}
variable {cc : ByteArray} {pc : Nat} {ls : Array Slot} {rest : List Value}
theorem px_bin_W (hx : p.tables.exec = Jvm.exec) (hb : c.code = cc) {i : Instr} {x y z : Int32} (hd : decode cc pc = .ok (i, 1)) (hz : px_bin i x y = some z)
    (k : W p l e R s m args below meth c H locs cells slots Q (F0 m (pc + 1) ls (.int z :: rest))) : W p l e R s m args below meth c H locs cells slots Q (F0 m pc ls (.int y :: .int x :: rest)) := by
  unfold px_bin at hz
  split at hz
  · cases hz; exact lv_iadd hx hb hd k
  · cases hz; exact lv_isub hx hb hd k
  · cases hz; exact lv_imul hx hb hd k
  · cases hz; exact lv_iand hx hb hd k
  · cases hz; exact lv_ior hx hb hd k
  · cases hz; exact lv_ixor hx hb hd k
  · cases hz; exact lv_ishl hx hb hd k
  · cases hz; exact lv_ishr hx hb hd k
  · cases hz; exact lv_iushr hx hb hd rfl k
  · split at hz
    · cases hz
    · rename_i hne
      cases hz; exact lv_idiv hx hb hd hne k
  · split at hz
    · cases hz
    · rename_i hne
      cases hz; exact lv_irem hx hb hd hne k
  · cases hz
theorem px_un_W (hx : p.tables.exec = Jvm.exec) (hb : c.code = cc) (ad : Nat → Option Nat) {i : Instr} {v z : Value} (hd : decode cc pc = .ok (i, 1)) (hz : px_un i v = some z)
    (k : W p l e R s m args below meth c H locs cells slots Q (F0 m (pc + 1) ls (px_tr ad z :: rest))) : W p l e R s m args below meth c H locs cells slots Q (F0 m pc ls (px_tr ad v :: rest)) := by
  unfold px_un at hz
  split at hz
  · cases hz; exact lv_ineg hx hb hd k
  · cases hz; exact lv_i2l hx hb hd rfl k
  · cases hz; exact lv_i2b hx hb hd rfl k
  · cases hz; exact lv_i2s hx hb hd rfl k
  · cases hz; exact lv_i2c hx hb hd rfl k
  · cases hz; exact lv_l2i hx hb hd rfl k
  · cases hz
theorem px_lb_W (hx : p.tables.exec = Jvm.exec) (hb : c.code = cc) (ad : Nat → Option Nat) {i : Instr} {x z : Int64} {v : Value} (hd : decode cc pc = .ok (i, 1)) (hz : px_lb i x v = some z)
    (k : W p l e R s m args below meth c H locs cells slots Q (F0 m (pc + 1) ls (.long z :: rest))) : W p l e R s m args below meth c H locs cells slots Q (F0 m pc ls (px_tr ad v :: .long x :: rest)) := by
  unfold px_lb at hz
  split at hz
  · cases hz; exact lv_land hx hb hd k
  · cases hz; exact lv_lor hx hb hd k
  · cases hz; exact lv_lshl hx hb hd rfl k
  · cases hz; exact lv_lshr hx hb hd rfl k
  · cases hz
theorem px_cst_W (hx : p.tables.exec = Jvm.exec) (hb : c.code = cc) (ad : Nat → Option Nat) {i : Instr} {q : Value × Nat} (hd : decode cc pc = .ok (i, q.2)) (hz : px_cst i = some q)
    (k : W p l e R s m args below meth c H locs cells slots Q (F0 m (pc + q.2) ls (px_tr ad q.1 :: rest))) : W p l e R s m args below meth c H locs cells slots Q (F0 m pc ls rest) := by
  unfold px_cst at hz
  split at hz
  · cases hz; exact lv_iconst hx hb hd rfl k
  · cases hz; exact lv_bipush hx hb hd rfl k
  · cases hz; exact lv_sipush hx hb hd rfl k
  · cases hz; exact lv_lconst hx hb hd rfl k
  · cases hz
theorem px_so_int {v : Value} (h : px_so v = 0) : ∃ x, v = .int x := by
  cases v with
  | int x => exact ⟨x, rfl⟩
  | _ => simp [px_so] at h
theorem px_so_long {v : Value} (h : px_so v = 1) : ∃ x, v = .long x := by
  cases v with
  | long x => exact ⟨x, rfl⟩
  | _ => simp [px_so] at h
theorem px_so_ref {v : Value} (h : px_so v = 2) : ∃ x, v = .ref x := by
  cases v with
  | ref x => exact ⟨x, rfl⟩
  | _ => simp [px_so] at h
theorem px_ld_W (hx : p.tables.exec = Jvm.exec) (hb : c.code = cc) (ad : Nat → Option Nat) {i : Instr} {q : Nat × Nat × Nat} {v : Value} (hd : decode cc pc = .ok (i, q.2.1)) (hz : px_ld i = some q) (hv : px_so v = q.2.2) (hl : ls[q.1]? = some (.val (px_tr ad v)))
    (k : W p l e R s m args below meth c H locs cells slots Q (F0 m (pc + q.2.1) ls (px_tr ad v :: rest))) : W p l e R s m args below meth c H locs cells slots Q (F0 m pc ls rest) := by
  unfold px_ld at hz
  split at hz
  · cases hz
    obtain ⟨x, rfl⟩ := px_so_int hv
    exact lv_iload_n hx hb hd rfl hl k
  · cases hz
    obtain ⟨x, rfl⟩ := px_so_int hv
    exact lv_iload hx hb hd hl k
  · cases hz
    obtain ⟨x, rfl⟩ := px_so_long hv
    exact lv_lload_n hx hb hd rfl hl k
  · cases hz
    obtain ⟨x, rfl⟩ := px_so_long hv
    exact lv_lload hx hb hd hl k
  · cases hz
    obtain ⟨x, rfl⟩ := px_so_ref hv
    simp only [px_tr] at hl k
    cases hx2 : ad x with
    | none => rw [hx2] at hl k; exact lv_aload_nN hx hb hd rfl hl k
    | some a => rw [hx2] at hl k; exact lv_aload_n hx hb hd rfl hl k
  · cases hz
    obtain ⟨x, rfl⟩ := px_so_ref hv
    simp only [px_tr] at hl k
    cases hx2 : ad x with
    | none => rw [hx2] at hl k; exact lv_aloadN hx hb hd hl k
    | some a => rw [hx2] at hl k; exact lv_aload hx hb hd hl k
  · cases hz
theorem px_st_W (hx : p.tables.exec = Jvm.exec) (hb : c.code = cc) (ad : Nat → Option Nat) {i : Instr} {q : Nat × Nat × Nat} {v : Value} {mx : Nat} {lv : List (Nat × Value)} (hd : decode cc pc = .ok (i, q.2.1)) (hz : px_st i = some q) (hv : px_so v = q.2.2) (hn : q.1 < mx) (hl : lv_has ls mx (px_lv ad lv))
    (k : ∀ ls' : Array Slot, lv_has ls' mx (px_lv ad (px_sto lv q.1 v)) → W p l e R s m args below meth c H locs cells slots Q (F0 m (pc + q.2.1) ls' rest)) : W p l e R s m args below meth c H locs cells slots Q (F0 m pc ls (px_tr ad v :: rest)) := by
  have hs := px_sto_tr ad lv q.1 v
  unfold px_st at hz
  split at hz
  · cases hz
    obtain ⟨x, rfl⟩ := px_so_int hv
    exact lv_istore_n hx hb hd rfl hl hn hs k
  · cases hz
    obtain ⟨x, rfl⟩ := px_so_int hv
    exact lv_istore hx hb hd hl hn hs k
  · cases hz
    obtain ⟨x, rfl⟩ := px_so_ref hv
    have e1 : px_tr ad (.ref x) = va_rf (ad x) := rfl
    rw [e1] at hs ⊢
    cases hx2 : ad x with
    | none => rw [hx2] at hs; exact lv_astore_nN hx hb hd rfl hl hn hs k
    | some a => rw [hx2] at hs; exact lv_astore_n hx hb hd rfl hl hn hs k
  · cases hz
    obtain ⟨x, rfl⟩ := px_so_ref hv
    have e1 : px_tr ad (.ref x) = va_rf (ad x) := rfl
    rw [e1] at hs ⊢
    cases hx2 : ad x with
    | none => rw [hx2] at hs; exact lv_astoreN hx hb hd hl hn hs k
    | some a => rw [hx2] at hs; exact lv_astore hx hb hd hl hn hs k
  · cases hz
theorem px_stk_W (hx : p.tables.exec = Jvm.exec) (hb : c.code = cc) (ad : Nat → Option Nat) {i : Instr} {st r : List Value} (hd : decode cc pc = .ok (i, 1)) (hz : px_stk i st = some r)
    (k : W p l e R s m args below meth c H locs cells slots Q (F0 m (pc + 1) ls (r.map (px_tr ad)))) : W p l e R s m args below meth c H locs cells slots Q (F0 m pc ls (st.map (px_tr ad))) := by
  unfold px_stk at hz
  split at hz
  · split at hz
    · rename_i h1
      cases hz; exact lv_dup hx hb hd ((px_tr_cat ad _).trans h1) k
    · cases hz
  · split at hz
    · rename_i h1
      cases hz; exact lv_pop hx hb hd ((px_tr_cat ad _).trans h1) k
    · cases hz
  · split at hz
    · rename_i h1
      cases hz; exact lv_dup_x1 hx hb hd ((px_tr_cat ad _).trans h1.1) ((px_tr_cat ad _).trans h1.2) k
    · cases hz
  · split at hz
    · rename_i h1
      cases hz; exact lv_dup2_11 hx hb hd ((px_tr_cat ad _).trans h1.1) ((px_tr_cat ad _).trans h1.2) k
    · cases hz
  · cases hz
theorem px_tgt_eq {pc t : Nat} {off : Int} (h : px_tgt pc off = some t) : (pc : Int) + off = (t : Int) := by
  unfold px_tgt at h
  split at h
  · cases h
    omega
  · cases h
theorem px_if_W (hx : p.tables.exec = Jvm.exec) (hb : c.code = cc) {k : Jvm.ClassFile.Cond} {x : Int32} {off : Int} {t : Nat} (hd : decode cc pc = .ok (.ifCond k off, 3)) (ht : (pc : Int) + off = (t : Int))
    (kk : W p l e R s m args below meth c H locs cells slots Q (F0 m (if px_cnd k x 0 = true then t else pc + 3) ls rest)) : W p l e R s m args below meth c H locs cells slots Q (F0 m pc ls (.int x :: rest)) := by
  have kt : px_cnd k x 0 = true → W p l e R s m args below meth c H locs cells slots Q (F0 m t ls rest) := fun h => by rw [if_pos h] at kk; exact kk
  have kf : ¬ px_cnd k x 0 = true → W p l e R s m args below meth c H locs cells slots Q (F0 m (pc + 3) ls rest) := fun h => by rw [if_neg h] at kk; exact kk
  cases k
  · exact lv_if_eq hx hb hd ht (fun h => kt (decide_eq_true h)) (fun h => kf (fun z => h (of_decide_eq_true z)))
  · exact lv_if_ne hx hb hd ht (fun h => kt (decide_eq_true h)) (fun h => kf (fun z => (of_decide_eq_true z : ¬ x = 0) h))
  · exact lv_if_lt hx hb hd ht (fun h => kt (decide_eq_true h)) (fun h => kf (fun z => h (of_decide_eq_true z)))
  · exact lv_if_ge hx hb hd ht (fun h => kt (decide_eq_true h)) (fun h => kf (fun z => h (of_decide_eq_true z)))
  · exact lv_if_gt hx hb hd ht (fun h => kt (decide_eq_true h)) (fun h => kf (fun z => h (of_decide_eq_true z)))
  · exact lv_if_le hx hb hd ht (fun h => kt (decide_eq_true h)) (fun h => kf (fun z => h (of_decide_eq_true z)))
theorem px_icmp_W (hx : p.tables.exec = Jvm.exec) (hb : c.code = cc) {k : Jvm.ClassFile.Cond} {x y : Int32} {off : Int} {t : Nat} (hd : decode cc pc = .ok (.if_icmp k off, 3)) (ht : (pc : Int) + off = (t : Int))
    (kk : W p l e R s m args below meth c H locs cells slots Q (F0 m (if px_cnd k x y = true then t else pc + 3) ls rest)) : W p l e R s m args below meth c H locs cells slots Q (F0 m pc ls (.int y :: .int x :: rest)) := by
  have kt : px_cnd k x y = true → W p l e R s m args below meth c H locs cells slots Q (F0 m t ls rest) := fun h => by rw [if_pos h] at kk; exact kk
  have kf : ¬ px_cnd k x y = true → W p l e R s m args below meth c H locs cells slots Q (F0 m (pc + 3) ls rest) := fun h => by rw [if_neg h] at kk; exact kk
  cases k
  · exact lv_icmp_eq hx hb hd ht (fun h => kt (decide_eq_true h)) (fun h => kf (fun z => h (of_decide_eq_true z)))
  · exact lv_icmp_ne hx hb hd ht (fun h => kt (decide_eq_true h)) (fun h => kf (fun z => (of_decide_eq_true z : ¬ x = y) h))
  · exact lv_icmp_lt hx hb hd ht (fun h => kt (decide_eq_true h)) (fun h => kf (fun z => h (of_decide_eq_true z)))
  · exact lv_icmp_ge hx hb hd ht (fun h => kt (decide_eq_true h)) (fun h => kf (fun z => h (of_decide_eq_true z)))
  · exact lv_icmp_gt hx hb hd ht (fun h => kt (decide_eq_true h)) (fun h => kf (fun z => h (of_decide_eq_true z)))
  · exact lv_icmp_le hx hb hd ht (fun h => kt (decide_eq_true h)) (fun h => kf (fun z => h (of_decide_eq_true z)))
theorem px_br_W (hx : p.tables.exec = Jvm.exec) (hb : c.code = cc) (ad : Nat → Option Nat) {i : Instr} {len : Nat} {st : List Value} {q : Nat × List Value} (hd : decode cc pc = .ok (i, len)) (hz : px_br i pc len st = some q)
    (k : W p l e R s m args below meth c H locs cells slots Q (F0 m q.1 ls (q.2.map (px_tr ad)))) : W p l e R s m args below meth c H locs cells slots Q (F0 m pc ls (st.map (px_tr ad))) := by
  unfold px_br at hz
  split at hz
  · split at hz
    · rename_i hl
      subst hl
      obtain ⟨t, ht, hq⟩ := Option.map_eq_some_iff.mp hz
      subst hq
      exact lv_goto hx hb hd (px_tgt_eq ht) k
    · cases hz
  · split at hz
    · rename_i hl
      subst hl
      obtain ⟨t, ht, hq⟩ := Option.map_eq_some_iff.mp hz
      subst hq
      exact px_if_W hx hb hd (px_tgt_eq ht) k
    · cases hz
  · split at hz
    · rename_i hl
      subst hl
      obtain ⟨t, ht, hq⟩ := Option.map_eq_some_iff.mp hz
      subst hq
      exact px_icmp_W hx hb hd (px_tgt_eq ht) k
    · cases hz
  · split at hz
    · rename_i hc
      obtain ⟨t, ht, hq⟩ := Option.map_eq_some_iff.mp hz
      subst hq
      exact lv_tableOut hx hb hd hc (px_tgt_eq ht) k
    · rename_i hc
      obtain ⟨t, ht, hq⟩ := Option.map_eq_some_iff.mp hz
      subst hq
      obtain ⟨o, ho, ht⟩ := Option.bind_eq_some_iff.mp ht
      exact lv_tableIn hx hb hd (fun z => hc (Or.inl z)) (fun z => hc (Or.inr z)) ho (px_tgt_eq ht) k
  · cases hz
theorem px_W1 (hx : p.tables.exec = Jvm.exec) (hb : c.code = cc) (ad : Nat → Option Nat) {i : Instr} {len mx : Nat} {lv : List (Nat × Value)} {st : List Value} {z : Nat × List (Nat × Value) × List Value} (hd : decode cc pc = .ok (i, len)) (hz : px_s1 i len pc mx lv st = some z) (hl : lv_has ls mx (px_lv ad lv))
    (k : ∀ ls' : Array Slot, lv_has ls' mx (px_lv ad z.2.1) → W p l e R s m args below meth c H locs cells slots Q (F0 m z.1 ls' (z.2.2.map (px_tr ad)))) : W p l e R s m args below meth c H locs cells slots Q (F0 m pc ls (st.map (px_tr ad))) := by
  have hat : ∀ (j : Nat) (v : Value), px_look lv j = some v → (j, px_tr ad v) ∈ px_lv ad lv := fun j v h => List.mem_map.mpr ⟨(j, v), px_look_mem h, rfl⟩
  unfold px_s1 at hz
  have hz1 := px_or_some hz
  clear hz
  rcases hz1 with h | hz
  · split at h
    · split at h
      · rename_i hl1
        rw [hl1] at hd
        obtain ⟨t, ht, hq⟩ := Option.map_eq_some_iff.mp h
        subst hq
        exact px_bin_W hx hb hd ht (k ls hl)
      · cases h
    · cases h
  have hz1 := px_or_some hz
  clear hz
  rcases hz1 with h | hz
  · obtain ⟨q, hq, h⟩ := Option.bind_eq_some_iff.mp h
    obtain ⟨v, hv, h⟩ := Option.bind_eq_some_iff.mp h
    split at h
    · rename_i hc
      cases h
      rw [hc.1] at hd k
      exact px_ld_W hx hb ad hd hq hc.2 (hl.2.2 _ (hat _ _ hv)) (k ls hl)
    · cases h
  have hz1 := px_or_some hz
  clear hz
  rcases hz1 with h | hz
  · obtain ⟨q, hq, h⟩ := Option.bind_eq_some_iff.mp h
    split at h
    · rename_i hc
      cases h
      rw [hc] at hd k
      exact px_cst_W hx hb ad hd hq (k ls hl)
    · cases h
  have hz1 := px_or_some hz
  clear hz
  rcases hz1 with h | hz
  · obtain ⟨q, hq, h⟩ := Option.map_eq_some_iff.mp h
    subst h
    exact px_br_W hx hb ad hd hq (k ls hl)
  have hz1 := px_or_some hz
  clear hz
  rcases hz1 with h | hz
  · split at h
    · obtain ⟨q, hq, h⟩ := Option.bind_eq_some_iff.mp h
      split at h
      · rename_i hc
        cases h
        rw [hc.1] at hd k
        exact px_st_W hx hb ad hd hq hc.2.1 hc.2.2 hl k
      · cases h
    · cases h
  have hz1 := px_or_some hz
  clear hz
  rcases hz1 with h | hz
  · split at h
    · obtain ⟨v, hv, h⟩ := Option.bind_eq_some_iff.mp h
      split at h
      · split at h
        · rename_i hc
          cases h
          rw [hc.1] at hd
          obtain ⟨j, hj⟩ := List.getElem?_of_mem (hat _ _ hv)
          exact lv_iinc hx hb hd hl hj rfl hc.2 (px_sto_tr ad lv _ (.int _)) k
        · cases h
      · cases h
    · cases h
  have hz1 := px_or_some hz
  clear hz
  rcases hz1 with h | hz
  · split at h
    · rename_i hc
      rw [hc] at hd
      obtain ⟨q, hq, h2⟩ := Option.map_eq_some_iff.mp h
      clear h
      subst h2
      exact px_stk_W hx hb ad hd hq (k ls hl)
    · cases h
  have hz1 := px_or_some hz
  clear hz
  rcases hz1 with h | h
  · split at h
    · split at h
      · rename_i hc
        rw [hc] at hd
        obtain ⟨q, hq, h2⟩ := Option.map_eq_some_iff.mp h
        clear h
        subst h2
        exact px_un_W hx hb ad hd hq (k ls hl)
      · cases h
    · cases h
  · split at h
    · split at h
      · rename_i hc
        rw [hc] at hd
        obtain ⟨q, hq, h2⟩ := Option.map_eq_some_iff.mp h
        clear h
        subst h2
        exact px_lb_W hx hb ad hd hq (k ls hl)
      · cases h
    · cases h
end PX1
end
section
/-! ROWS: cells and the pool -/
section PX2
variable {p : Program} {l : Launch} {e : Env} {R : Room} {s : State} {m : MethodId} {args : Array Value} {below : List Frame} {meth : Method} {c : Code} {H : Heap} {locs : List Loc} {cells slots : Nat} {Q : State → Prop}
variable {cc : ByteArray} {pc : Nat} {ls : Array Slot} {rest : List Value} {cl : List vw_C} {ad : Nat → Option Nat} {D : va_G} {cI cJ : ClassId} {B : Nat} {w : px_W} {tys : List (ClassId × FieldType)} {Ts : List Cond} {own : String}
theorem px_get_W (hx : p.tables.exec = Jvm.exec) (hb : c.code = cc) (hts : ∀ w ∈ Ts, w.before args s = true) (hown : s.vm.findClass own = some m.cls) (hK : va_K D cl tys s) {r : vw_C} {ci k index a : Nat} (hc : cl[ci]? = some r) (hr : px_okK Ts r) (hk : k < r.2.2) (hlink : Cond.fieldLink own index (r.2.1 k).1 (r.2.1 k).2.1 (r.2.1 k).2.2.1 ∈ Ts) {fs : List Value} (he : px_at cl ad D cI cJ a (.inr (.inr (ci, fs))) H) {v : Value} (hv : fs[k]? = some v) (hdg : decode cc pc = .ok (.getfield index, 3))
    (kk : W p l e R s m args below meth c H locs cells slots Q (F0 m (pc + 3) ls (px_tr ad v :: rest))) : W p l e R s m args below meth c H locs cells slots Q (F0 m pc ls (.ref a :: rest)) := by
  obtain ⟨r', h1, cell, q1, q2, q3, q4⟩ := he
  have hr' : r' = r := Option.some.inj (h1.symm.trans hc)
  subst hr'
  obtain ⟨hS, hfc, kC, hkC, hkind⟩ := hK.1 ci _ hc
  obtain ⟨cf, kf, fi, f, hi, hsl⟩ := hS k hk
  refine W.getf hx hb hown (hts _ hlink) hi (u_facts hfc hkC (u_lays hts hr.1 hk) hi).1 q1 (by rw [q3]; exact fun h => by cases h) (v := px_tr ad v) ?_ rfl rfl hdg kk
  rw [hsl, q4 k hk]
  simp [vp_V, hv]
theorem px_put_W (hx : p.tables.exec = Jvm.exec) (hb : c.code = cc) (hts : ∀ w ∈ Ts, w.before args s = true) (hown : s.vm.findClass own = some m.cls) (hK : va_K D cl tys s) {r : vw_C} {ci k index j : Nat} (hc : cl[ci]? = some r) (hr : px_okK Ts r) (hk : k < r.2.2) (hlink : Cond.fieldLink own index (r.2.1 k).1 (r.2.1 k).2.1 (r.2.1 k).2.2.1 ∈ Ts) {fs : List Value} (hH : px_H cl ad D cI cJ B w H) (he : w[j]? = some (.inr (.inr (ci, fs)))) {v : Value} (hl : k < fs.length) (hf : px_fit (px_ty r.2.1 k) v = true) (hfin : (r.2.1 k).2.2.2 = true → meth.name = "<init>" ∧ (r.2.1 k).1 = own) (hdg : decode cc pc = .ok (.putfield index, 3))
    (kk : ∀ (H1 : Heap) (f : Field), px_H cl ad D cI cJ B (w.set j (.inr (.inr (ci, fs.set k v)))) H1 → (∀ q, q < B → H1[q]? = H[q]?) → W p l e R s m args below meth c H1 (locs ++ [⟨B + j, f.slot⟩]) cells slots Q (F0 m (pc + 3) ls rest)) : W p l e R s m args below meth c H locs cells slots Q (F0 m pc ls (px_tr ad v :: .ref (B + j) :: rest)) := by
  obtain ⟨hn, hft⟩ := px_fit_ok ad hf
  have hap := va_apart (own := own) hts hr.1 (px_ty r.2.1) hr.2.1 hr.2.2.1 hK hc
  obtain ⟨r', h1, cell, q1, q2, q3, q4⟩ := hH.2 j _ he
  have hr' : r' = r := Option.some.inj (h1.symm.trans hc)
  subst hr'
  obtain ⟨hS, hfc, kC, hkC, hkind⟩ := hK.1 ci _ hc
  obtain ⟨cf, kf, fi, f, hi, hsl⟩ := hS k hk
  have hlay := hts _ (hr.1 _ (u_in_lay hk))
  have hst := (u_facts hfc hkC (u_lays hts hr.1 hk) hi).1
  have hd := hr.2.1 k hk
  have fin : ∀ H' : Heap, H'[B + j]? = some (cell.setSlot f.slot (px_tr ad v)) → H'.size = H.size → (∀ q, q ≠ B + j → H'[q]? = H[q]?) → W p l e R s m args below meth c H' (locs ++ [⟨B + j, f.slot⟩]) cells slots Q (F0 m (pc + 3) ls rest) := by
    intro H' e1 e2 e3
    refine kk H' f (hH.set he e2 e3 ⟨_, hc, ?_⟩) (fun q hq => e3 q (by omega))
    rw [hsl] at e1
    refine t_OB.to (V := updV (vp_V (fs.map (px_tr ad))) k (px_tr ad v)) ⟨_, e1, q2, q3, t_set q4 hap hk (px_tr ad v)⟩ (fun z _ => ?_)
    rw [vp_updV_set (by rw [List.length_map]; exact hl), List.map_set]
  unfold u_lay at hlay
  by_cases hf2 : (r'.2.1 k).2.2.2 = true
  · obtain ⟨hin2, hdecl⟩ := hfin hf2
    rw [if_pos hf2] at hlay
    have hcf : m.cls = cf := by
      obtain ⟨_, _, c', _, _, _, -, -, hf', -, -, -, hown2, -⟩ := Cond.laysFinal_spec hlay
      have e1 : c' = cf := by have := hi.symm.trans hf'; simp at this; exact this.1.symm
      rw [hdecl] at hown2
      rw [← e1]; exact Option.some.inj (hown.symm.trans hown2)
    have h6 := u_fits hfc hkC hkind (Or.inr hlay) hi hd hn hft
    exact W.putFinK hx hb hown (hts _ hlink) hi hst hcf hin2 (by rw [q2]; exact h6) q1 q3 (by rw [hsl]; exact k2_hasslot (q4 k hk)) rfl rfl hdg fin
  · rw [if_neg hf2] at hlay
    have h6 := u_store hfc hkC hkind hlay hi hd hn hft
    exact W.putK hx hb (f := f) ⟨hown, hts _ hlink, ⟨_, _, _, hi⟩, hst⟩ (by rw [q2]; exact h6) q1 q3 (by rw [hsl]; exact k2_hasslot (q4 k hk)) rfl rfl hdg fin
theorem px_iald_W (hx : p.tables.exec = Jvm.exec) (hb : c.code = cc) (hK : va_K D cl [(cI, .int), (cJ, .long)] s) {a : Nat} {ll : List Int32} (he : px_at cl ad D cI cJ a (.inl ll) H) {j : Int32} (hj : px_ix j ll.length = true) (hdg : decode cc pc = .ok (.iaload, 1))
    (kk : W p l e R s m args below meth c H locs cells slots Q (F0 m (pc + 1) ls (.int (ll.getD j.toNatClampNeg 0) :: rest))) : W p l e R s m args below meth c H locs cells slots Q (F0 m pc ls (.int j :: .ref a :: rest)) := by
  obtain ⟨hin, hlt⟩ := px_ix_in hj
  exact W.iald (v := .int (ll.getD j.toNatClampNeg 0)) hx hb he ((hK.2 0 _ rfl).1 ll.length (fun j => .int (ll.getD j 0))) (fun q => by cases q) (by show ¬ (j < 0 ∨ (arrV _ _ _).slots.size ≤ _); rw [arrV_size]; exact hin) (by show (arrV _ _ _).slots[_]? = _; rw [arrV_read _ _ hlt]) rfl rfl hdg kk
theorem px_lald_W (hx : p.tables.exec = Jvm.exec) (hb : c.code = cc) (hK : va_K D cl [(cI, .int), (cJ, .long)] s) {a : Nat} {ll : List Int64} (he : px_at cl ad D cI cJ a (.inr (.inl ll)) H) {j : Int32} (hj : px_ix j ll.length = true) (hdg : decode cc pc = .ok (.laload, 1))
    (kk : W p l e R s m args below meth c H locs cells slots Q (F0 m (pc + 1) ls (.long (ll.getD j.toNatClampNeg 0) :: rest))) : W p l e R s m args below meth c H locs cells slots Q (F0 m pc ls (.int j :: .ref a :: rest)) := by
  obtain ⟨hin, hlt⟩ := px_ix_in hj
  exact W.lald (v := .long (ll.getD j.toNatClampNeg 0)) hx hb he ((hK.2 1 _ rfl).1 ll.length (fun j => .long (ll.getD j 0))) (fun q => by cases q) (by show ¬ (j < 0 ∨ (arrV _ _ _).slots.size ≤ _); rw [arrV_size]; exact hin) (by show (arrV _ _ _).slots[_]? = _; rw [arrV_read _ _ hlt]) rfl rfl hdg kk
theorem px_iast_W (hx : p.tables.exec = Jvm.exec) (hb : c.code = cc) (hK : va_K D cl [(cI, .int), (cJ, .long)] s) (hH : px_H cl ad D cI cJ B w H) {k : Nat} {ll : List Int32} (he : w[k]? = some (.inl ll)) {j z : Int32} (hj : px_ix j ll.length = true) (hdg : decode cc pc = .ok (.iastore, 1))
    (kk : ∀ (H1 : Heap), px_H cl ad D cI cJ B (w.set k (.inl (ll.set j.toNatClampNeg z))) H1 → (∀ q, q < B → H1[q]? = H[q]?) → W p l e R s m args below meth c H1 (locs ++ [⟨B + k, j.toNatClampNeg⟩]) cells slots Q (F0 m (pc + 1) ls rest)) : W p l e R s m args below meth c H locs cells slots Q (F0 m pc ls (.int z :: .int j :: .ref (B + k) :: rest)) := by
  obtain ⟨hin, hlt⟩ := px_ix_in hj
  refine W.iast hx hb (hH.2 k _ he) ((hK.2 0 _ rfl).1 ll.length (fun j => .int (ll.getD j 0))) (fun q => by cases q) (by show ¬ (j < 0 ∨ (arrV _ _ _).slots.size ≤ _); rw [arrV_size]; exact hin) rfl rfl hdg fun H1 e1 z1 o1 => ?_
  refine kk H1 (hH.set he z1 o1 ?_) (fun q hq => o1 q (Nat.ne_of_lt (Nat.lt_of_lt_of_le hq (Nat.le_add_right B k))))
  show H1[B + k]? = some (vp_cell _ _)
  rw [e1, px_cell_set hlt]
theorem px_last_W (hx : p.tables.exec = Jvm.exec) (hb : c.code = cc) (hK : va_K D cl [(cI, .int), (cJ, .long)] s) (hH : px_H cl ad D cI cJ B w H) {k : Nat} {ll : List Int64} (he : w[k]? = some (.inr (.inl ll))) {j : Int32} {z : Int64} (hj : px_ix j ll.length = true) (hdg : decode cc pc = .ok (.lastore, 1))
    (kk : ∀ (H1 : Heap), px_H cl ad D cI cJ B (w.set k (.inr (.inl (ll.set j.toNatClampNeg z)))) H1 → (∀ q, q < B → H1[q]? = H[q]?) → W p l e R s m args below meth c H1 (locs ++ [⟨B + k, j.toNatClampNeg⟩]) cells slots Q (F0 m (pc + 1) ls rest)) : W p l e R s m args below meth c H locs cells slots Q (F0 m pc ls (.long z :: .int j :: .ref (B + k) :: rest)) := by
  obtain ⟨hin, hlt⟩ := px_ix_in hj
  refine W.last hx hb (hH.2 k _ he) ((hK.2 1 _ rfl).1 ll.length (fun j => .long (ll.getD j 0))) (fun q => by cases q) (by show ¬ (j < 0 ∨ (arrV _ _ _).slots.size ≤ _); rw [arrV_size]; exact hin) rfl rfl hdg fun H1 e1 z1 o1 => ?_
  refine kk H1 (hH.set he z1 o1 ?_) (fun q hq => o1 q (Nat.ne_of_lt (Nat.lt_of_lt_of_le hq (Nat.le_add_right B k))))
  show H1[B + k]? = some (vp_cell _ _)
  rw [e1, px_cell_setL hlt]
theorem px_alen_W (hx : p.tables.exec = Jvm.exec) (hb : c.code = cc) (hK : va_K D cl [(cI, .int), (cJ, .long)] s) {a : Nat} {ll : List Int32} (he : px_at cl ad D cI cJ a (.inl ll) H) (hdg : decode cc pc = .ok (.arraylength, 1))
    (kk : W p l e R s m args below meth c H locs cells slots Q (F0 m (pc + 1) ls (.int (Int32.ofNat ll.length) :: rest))) : W p l e R s m args below meth c H locs cells slots Q (F0 m pc ls (.ref a :: rest)) := by
  exact W.alen (n := Int32.ofNat ll.length) hx hb he ((hK.2 0 _ rfl).1 ll.length (fun j => .int (ll.getD j 0))) (by show (arrV _ _ _).slots.size.toInt32 = _; rw [arrV_size]) rfl rfl hdg kk
theorem px_new_W (hx : p.tables.exec = Jvm.exec) (hb : c.code = cc) (hts : ∀ w ∈ Ts, w.before args s = true) (hown : s.vm.findClass own = some m.cls) (hK : va_K D cl tys s) (hH : px_H cl ad D cI cJ B w H) {r : vw_C} {ci index : Nat} (hc : cl[ci]? = some r) (hr : px_okK Ts r) (hlink : Cond.classLink own index r.1 ∈ Ts) (hcells : cells + 1 ≤ R.cells) (hslots : slots + r.2.2 ≤ R.slots) (hdg : decode cc pc = .ok (.new index, 3))
    (kk : ∀ (H1 : Heap), px_H cl ad D cI cJ B (w ++ [.inr (.inr (ci, (List.range r.2.2).map (fun j => defaultValue (px_ty r.2.1 j))))]) H1 → (∀ q, q < B → H1[q]? = H[q]?) → W p l e R s m args below meth c H1 locs (cells + 1) (slots + r.2.2) Q (F0 m (pc + 3) ls (.ref (B + w.length) :: rest))) : W p l e R s m args below meth c H locs cells slots Q (F0 m pc ls rest) := by
  have hKn := hK.1 ci _ hc
  refine W.newcK hx hb hown (hts _ hlink) (hts _ hr.2.2.2.1) (hts _ hr.2.2.2.2) rfl hdg hcells hslots hKn.2.1 hH.1 fun H1 kC hkC e1 z1 o1 => ?_
  refine kk H1 (hH.push (by rw [z1, hH.1]) (fun q hq => o1 q (by rw [← hH.1]; exact hq)) ⟨r, hc, ?_⟩) (fun q hq => o1 q (by omega))
  rw [← hH.1] at e1
  refine (u_born (px_ty r.2.1) hts hr.1 hKn hkC e1 hr.2.1).to (fun z hz => ?_)
  have hzl : z < (List.range r.2.2).length := by rw [List.length_range]; exact hz
  simp [vp_V, px_tr_def, hz]
theorem px_newi_W (hx : p.tables.exec = Jvm.exec) (hb : c.code = cc) (harr : (Cond.arrayClass .int).before args s = true) (hK : va_K D cl [(cI, .int), (cJ, .long)] s) (hH : px_H cl ad D cI cJ B w H) {n : Int32} (hn : ¬ n < 0) (hle : n.toNatClampNeg ≤ 100000) (hcells : cells + 1 ≤ R.cells) (hslots : slots + n.toNatClampNeg ≤ R.slots) (hdg : decode cc pc = .ok (.newarray .int, 2))
    (kk : ∀ (H1 : Heap), px_H cl ad D cI cJ B (w ++ [.inl (List.replicate n.toNatClampNeg 0)]) H1 → (∀ q, q < B → H1[q]? = H[q]?) → W p l e R s m args below meth c H1 locs (cells + 1) (slots + n.toNatClampNeg) Q (F0 m (pc + 2) ls (.ref (B + w.length) :: rest))) : W p l e R s m args below meth c H locs cells slots Q (F0 m pc ls (.int n :: rest)) := by
  refine va_newaK (atype := .int) hx hb harr rfl hdg rfl hn rfl (by show n.toNatClampNeg * 4 ≤ _; omega) hcells hslots hH.1 fun H1 cA e1 z1 o1 _ hNm => ?_
  have hcA : cA = cI := Option.some.inj (hNm.symm.trans (hK.2 0 _ rfl).2)
  subst hcA
  refine kk H1 (hH.push (by rw [z1, hH.1]) (fun q hq => o1 q (by rw [← hH.1]; exact hq)) ?_) (fun q hq => o1 q (by omega))
  show H1[H.size]? = some (vp_cell _ _)
  rw [hH.1, e1, vp_cell_i, List.length_replicate]
  congr 2
  funext j
  rw [List.getD_eq_getElem?_getD, List.getElem?_replicate]
  split <;> rfl
theorem px_newl_W (hx : p.tables.exec = Jvm.exec) (hb : c.code = cc) (harr : (Cond.arrayClass .long).before args s = true) (hK : va_K D cl [(cI, .int), (cJ, .long)] s) (hH : px_H cl ad D cI cJ B w H) {n : Int32} (hn : ¬ n < 0) (hle : n.toNatClampNeg ≤ 100000) (hcells : cells + 1 ≤ R.cells) (hslots : slots + n.toNatClampNeg ≤ R.slots) (hdg : decode cc pc = .ok (.newarray .long, 2))
    (kk : ∀ (H1 : Heap), px_H cl ad D cI cJ B (w ++ [.inr (.inl (List.replicate n.toNatClampNeg 0))]) H1 → (∀ q, q < B → H1[q]? = H[q]?) → W p l e R s m args below meth c H1 locs (cells + 1) (slots + n.toNatClampNeg) Q (F0 m (pc + 2) ls (.ref (B + w.length) :: rest))) : W p l e R s m args below meth c H locs cells slots Q (F0 m pc ls (.int n :: rest)) := by
  refine va_newaK (atype := .long) hx hb harr rfl hdg rfl hn rfl (by show n.toNatClampNeg * 8 ≤ _; omega) hcells hslots hH.1 fun H1 cA e1 z1 o1 _ hNm => ?_
  have hcA : cA = cJ := Option.some.inj (hNm.symm.trans (hK.2 1 _ rfl).2)
  subst hcA
  refine kk H1 (hH.push (by rw [z1, hH.1]) (fun q hq => o1 q (by rw [← hH.1]; exact hq)) ?_) (fun q hq => o1 q (by omega))
  show H1[H.size]? = some (vp_cell _ _)
  rw [hH.1, e1, vp_cell_l, List.length_replicate]
  congr 2
  funext j
  rw [List.getD_eq_getElem?_getD, List.getElem?_replicate]
  split <;> rfl
theorem px_copy_W (hx : p.tables.exec = Jvm.exec) (hb : c.code = cc) (hml : c.maxLocals = ls.size) {index : Nat} (hown : s.vm.findClass own = some m.cls) (hlink : (Cond.methodLink own index arraycopyName).before args s = true) (hnat : (Cond.native arraycopyName).before args s = true) (hstat : (Cond.static arraycopyName).before args s = true) (hini : (Cond.initialized "java/lang/System").before args s = true)
    (hK : va_K D cl [(cI, .int), (cJ, .long)] s) (hH : px_H cl ad D cI cJ B w H) {k0 k1 : Nat} {la lb : List Int32} (ha0 : w[k0]? = some (.inl la)) (ha1 : w[k1]? = some (.inl lb)) {sp dp n : Int32} (h1 : ¬ sp < 0) (h2 : ¬ dp < 0) (h3 : ¬ n < 0) (h4 : sp.toNatClampNeg + n.toNatClampNeg ≤ la.length) (h5 : dp.toNatClampNeg + n.toNatClampNeg ≤ lb.length)
    (hframes : 1 ≤ R.frames) (hlocals : (rest.map fun v => v.category).sum + 18 ≤ R.locals) (hdg : decode cc pc = .ok (.invokestatic index, 3))
    (kk : ∀ (H1 : Heap) (locs1 : List Loc), px_H cl ad D cI cJ B (w.set k1 (.inl (px_cpy la lb sp.toNatClampNeg dp.toNatClampNeg n.toNatClampNeg))) H1 → (∀ q, q < B → H1[q]? = H[q]?) → (∀ q ∈ locs1, q ∈ locs ∨ q.base = B + k1) → W p l e R s m args below meth c H1 locs1 cells slots Q (F0 m (pc + 3) ls rest)) : W p l e R s m args below meth c H locs cells slots Q (F0 m pc ls (.int n :: .int dp :: .ref (B + k1) :: .int sp :: .ref (B + k0) :: rest)) := by
  have nn : ∀ z : Int32, ¬ z < 0 → z.toInt = (z.toNatClampNeg : Int) := by
    intro z hz
    have hz0 : (0 : Int) ≤ z.toInt := by
      have := Int32.not_lt.mp hz
      simpa using Int32.le_iff_toInt_le.mp this
    show z.toInt = ((z.toInt.toNat : Nat) : Int)
    omega
  have hnw : nativeFrameWords "java/lang/System" "arraycopy" 5 = 7 := by decide +kernel
  intro T hT X
  have hc0 : H[B + k0]? = some (vp_cell cI (la.length, .inl (fun j => la.getD j 0))) := hH.2 k0 _ ha0
  have hc1 : H[B + k1]? = some (vp_cell cI (lb.length, .inl (fun j => lb.getD j 0))) := hH.2 k1 _ ha1
  obtain ⟨-, k0', hk0, cm0, hkk0⟩ := (hK.2 0 _ rfl).1 la.length (fun j => .int (la.getD j 0))
  obtain ⟨-, k1', hk1, cm1, hkk1⟩ := (hK.2 0 _ rfl).1 lb.length (fun j => .int (lb.getD j 0))
  obtain ⟨vm', X', step⟩ := X.arraycopy hx hown hlink hnat hstat hini (src := B + k0) (dst := B + k1) (cs := vp_cell cI (la.length, .inl (fun j => la.getD j 0))) (cd := vp_cell cI (lb.length, .inl (fun j => lb.getD j 0))) (srcPos := sp) (destPos := dp) (n := n) (by rw [hT]; exact hc0) (by rw [hT]; exact hc1)
    (fun _ h => by cases h) (fun _ h => by cases h) (fun h => by cases h) (fun h => by cases h) hk0 hk1 hkk0 hkk1 (by simp [refKind]) h1 h2 h3
    (by rw [nn sp h1, nn n h3]; show ¬ _ > ((arrV cI la.length (fun j => .int (la.getD j 0))).slots.size : Int); rw [arrV_size]; omega)
    (by rw [nn dp h2, nn n h3]; show ¬ _ > ((arrV cI lb.length (fun j => .int (lb.getD j 0))).slots.size : Int); rw [arrV_size]; omega)
    (fun vm₁ _ i hi => by
      have e : (vp_cell cI (la.length, .inl (fun j => la.getD j 0))).slots.getD (sp.toNatClampNeg + i) .null = .int (la.getD (sp.toNatClampNeg + i) 0) := by
        show (arrV cI la.length (fun j => .int (la.getD j 0))).slots.getD _ _ = _
        rw [Array.getD_eq_getD_getElem?, arrV_read _ _ (by omega)]
        rfl
      refine ⟨?_, ?_⟩
      · rw [e]
        rfl
      · rw [e]
        exact trivial)
    (g := F0 m pc ls (.int n :: .int dp :: .ref (B + k1) :: .int sp :: .ref (B + k0) :: rest)) rfl (by rw [hml]) (rest := rest) rfl (by rw [hb]; exact hdg) hframes (by show 2 * 0 + _ + (nativeFrameWords "java/lang/System" "arraycopy" 5 + 11) ≤ _; rw [hnw]; omega)
  have e1 : copied (vp_cell cI (la.length, .inl (fun j => la.getD j 0))) (vp_cell cI (lb.length, .inl (fun j => lb.getD j 0))) sp dp n = vp_cell cI ((px_cpy la lb sp.toNatClampNeg dp.toNatClampNeg n.toNatClampNeg).length, .inl (fun j => (px_cpy la lb sp.toNatClampNeg dp.toNatClampNeg n.toNatClampNeg).getD j 0)) := by
    have e0 : copied (vp_cell cI (la.length, .inl (fun j => la.getD j 0))) (vp_cell cI (lb.length, .inl (fun j => lb.getD j 0))) sp dp n = vp_cell cI (lb.length, .inl (va_cpy (fun j => la.getD j 0) (fun j => lb.getD j 0) sp.toNatClampNeg dp.toNatClampNeg n.toNatClampNeg)) := va_copied (fun z => .int z) cI cI (fun j => la.getD j 0) (fun j => lb.getD j 0) h4
    rw [e0, px_cpy_len h4 h5]
    congr 3
    funext j
    exact (px_cpy_at h4 h5 j).symm
  rw [e1] at X' step
  have hl : B + k1 < H.size := (Array.getElem?_eq_some_iff.mp hc1).1
  generalize hcell : vp_cell cI ((px_cpy la lb sp.toNatClampNeg dp.toNatClampNeg n.toNatClampNeg).length, .inl (fun j => (px_cpy la lb sp.toNatClampNeg dp.toNatClampNeg n.toNatClampNeg).getD j 0)) = cell1 at X' step
  have hheap : ((T.setVm vm').setCell (B + k1) cell1).heap = H.setIfInBounds (B + k1) cell1 := by rw [← hT]; rfl
  have oq : ∀ q : Nat, q ≠ B + k1 → (H.setIfInBounds (B + k1) cell1)[q]? = H[q]? := fun q hq => by simp [Array.getElem?_setIfInBounds, Ne.symm hq]
  have self : (H.setIfInBounds (B + k1) cell1)[B + k1]? = some cell1 := by simp [Array.getElem?_setIfInBounds, hl]
  obtain ⟨t, a1, b1⟩ := kk _ _ (hH.set ha1 (by simp) oq (show (H.setIfInBounds (B + k1) cell1)[B + k1]? = some _ by rw [self, hcell])) (fun q hq => oq q (by omega)) (fun q hq => by
      rcases List.mem_append.mp hq with h | h
      · exact Or.inl h
      · obtain ⟨z, -, hz⟩ := List.mem_map.mp h
        rw [← hz]
        exact Or.inr rfl) _ hheap X'
  exact ⟨t, step t a1, b1⟩
end PX2
end
section
/-! THE MACHINE GOES AS THE PURE ONE -/
section PX3
variable {p : Program} {l : Launch} {e : Env} {R : Room} {s : State} {m : MethodId} {args : Array Value} {below : List Frame} {meth : Method} {c : Code} {H : Heap} {locs : List Loc} {cells slots : Nat} {Q : State → Prop}
variable {pc : Nat} {ls : Array Slot} {rest : List Value} {cl : List vw_C} {ad : Nat → Option Nat} {D : va_G} {cI cJ : ClassId} {B : Nat} {w : px_W} {Ts Ns : List Cond} {P : List px_M} {h : px_Hd} {L : px_L} {lt : List (List Int32)} {SL : List (String × Nat × Nat)}
theorem px_n1 (a : Nat) (h : 1 ≤ a ∧ a ≤ 16) : a - 1 < 16 ∧ 1 + (a - 1) = a ∧ 17 + (a - 1) = a + 16 := by omega
theorem px_n17 (a : Nat) (h : 17 ≤ a ∧ a ≤ 32) : a - 17 < 16 ∧ 17 + (a - 17) = a := by omega
theorem px_ad {a : Nat} (had : ∀ k, ad (64 + k) = some (B + k)) (ha : 64 ≤ a) : px_tr ad (.ref a) = .ref (B + (a - 64)) := by
  show va_rf (ad a) = _
  have h1 := had (a - 64)
  rw [show 64 + (a - 64) = a by omega] at h1
  rw [h1]
  rfl
theorem px_locs1 {k j : Nat} (hlocs : ∀ q ∈ locs, B ≤ q.base) : ∀ q ∈ locs ++ [(⟨B + k, j⟩ : Loc)], B ≤ q.base := by
  intro q hq
  rcases List.mem_append.mp hq with h | h
  · exact hlocs q h
  · rw [List.mem_singleton.mp h]
    exact Nat.le_add_right B k
set_option maxHeartbeats 2000000 in
theorem px_W2 (E : px_Env Ts Ns cl D cI cJ h p s m args meth c) (hcl : ∀ r ∈ cl, px_okK Ts r) (hL : px_okL Ts Ns cl SL P h.1.cls L) (hai : Cond.arrayClass .int ∈ Ts) (haj : Cond.arrayClass .long ∈ Ts) (had : ∀ k, ad (64 + k) = some (B + k)) {i : Instr} {len : Nat} {scr : Option (List Int32)} {st : List Value} {z : List Value × px_W × Nat × Nat}
    (hd : decode h.2.1 pc = .ok (i, len)) (hz : px_s2 cl lt i len scr h.1.name h.1.cls L st w = some z) (hH : px_H cl ad D cI cJ B w H) (hfr : ∀ q, q < B → H[q]? = s.heap[q]?) (hlocs : ∀ q ∈ locs, B ≤ q.base) (hcells : cells + z.2.2.1 ≤ R.cells) (hslots : slots + z.2.2.2 ≤ R.slots)
    (hscr : ∀ xs, scr = some xs → ∃ b0, ad 0 = some b0 ∧ va_X b0 xs.length (fun j => xs.getD j 0) s s.heap ∧ b0 < B) (hXX : px_X lt SL ad B s s.heap)
    (kk : ∀ (H1 : Heap) (locs1 : List Loc), px_H cl ad D cI cJ B z.2.1 H1 → (∀ q, q < B → H1[q]? = s.heap[q]?) → (∀ q ∈ locs1, B ≤ q.base) → W p l e R s m args below meth c H1 locs1 (cells + z.2.2.1) (slots + z.2.2.2) Q (F0 m (pc + len) ls (z.1.map (px_tr ad)))) : W p l e R s m args below meth c H locs cells slots Q (F0 m pc ls (st.map (px_tr ad))) := by
  obtain ⟨hx, hb, hml, hr, hlk, hnm, hown, hts, hK, hNs⟩ := E
  have hkf : ∀ a : Nat, a < s.heap.size → ¬ B ≤ a → H[a]? = s.heap[a]? := fun a _ z => hfr a (Nat.not_le.mp z)
  have hmem : ∀ {ci : Nat} {r : vw_C}, cl[ci]? = some r → px_okK Ts r := fun hc => hcl _ (List.mem_of_getElem? hc)
  unfold px_s2 at hz
  split at hz
  · split at hz
    · rename_i hc
      split at hz
      · rename_i q o hq ho
        split at hz
        · rename_i he
          obtain ⟨v, hv, h2⟩ := Option.map_eq_some_iff.mp hz
          clear hz
          subst h2
          rw [hc.1] at hd kk
          obtain ⟨r, g1, g2, g3⟩ := hL.1 _ (px_look_mem hq)
          have ho' : px_at cl ad D cI cJ (B + _) (.inr (.inr o)) H := hH.2 _ _ ho
          obtain ⟨o1, o2⟩ := o
          rw [List.map_cons, px_ad had hc.2]
          cases he
          exact px_get_W hx hb hts hown hK g1 (hmem g1) g2 g3 ho' hv hd (kk H locs hH hfr hlocs)
        · cases hz
      · cases hz
    · split at hz
      · rename_i hc
        obtain ⟨k, hk, h2⟩ := Option.bind_eq_some_iff.mp hz
        clear hz
        rw [hc.1] at hd kk
        obtain ⟨g0, g1⟩ := hL.2.2.2.2.2.2.2 _ (px_look_mem hk)
        obtain ⟨adK, adV, x1, x2, x3, x4, x5⟩ := hXX
        rename_i a r _
        obtain ⟨hj, hj1, hj2⟩ := px_n1 a hc.2
        have ea : ad a = some (adK (a - 1)) := by have := (x1 (a - 1) hj).1; rwa [hj1] at this
        have ev : ad (a + 16) = some (adV (a - 1)) := by have := (x1 (a - 1) hj).2; rwa [hj2] at this
        rw [List.map_cons, show px_tr ad (.ref a) = .ref (adK (a - 1)) by show va_rf (ad a) = _; rw [ea]; rfl]
        split at h2
        · rename_i hk0
          cases h2
          obtain ⟨cf, kf, fi, f, cell, f1, f2, f3, f4, f5, f6⟩ := ((x2.1 (a - 1) hj).2.2.1).kept hkf
          have k2 := kk H locs hH hfr hlocs
          rw [List.map_cons, show px_tr ad (.ref (a + 16)) = .ref (adV (a - 1)) by show va_rf (ad (a + 16)) = _; rw [ev]; rfl] at k2
          exact W.getf hx hb hown (hts _ (g0 hk0)) f1 f2 f3 f4 f5 rfl rfl hd k2
        · split at h2
          · rename_i hk1
            cases h2
            obtain ⟨cf, kf, fi, f, cell, f1, f2, f3, f4, f5, f6⟩ := ((x2.1 (a - 1) hj).2.1).kept hkf
            exact W.getf hx hb hown (hts _ (g1 hk1)) f1 f2 f3 f4 f5 rfl rfl hd (kk H locs hH hfr hlocs)
          · cases h2
      · cases hz
  · split at hz
    · rename_i hc
      rw [hc] at hd kk
      split at hz
      · rename_i ha
        split at hz
        · rename_i xs
          split at hz
          · rename_i hj
            cases hz
            obtain ⟨b0, e0, hX, hlt⟩ := hscr xs rfl
            obtain ⟨cell, h1, h2, h3, h4, h5⟩ := hX
            obtain ⟨hin, hjl⟩ := px_ix_in hj
            subst ha
            rw [List.map_cons, List.map_cons, show px_tr ad (.ref 0) = .ref b0 by show va_rf (ad 0) = _; rw [e0]; rfl]
            exact W.iald (a := b0) (v := .int (xs.getD _ 0)) hx hb (by rw [hfr _ hlt]; exact h1) h2 h3 (by rw [h4]; exact hin) (h5 _ hjl) rfl rfl hd (kk H locs hH hfr hlocs)
          · cases hz
        · cases hz
      · split at hz
        · rename_i ha
          split at hz
          · rename_i ll hw
            split at hz
            · rename_i hj
              cases hz
              rw [List.map_cons, List.map_cons, px_ad had ha]
              exact px_iald_W hx hb hK (hH.2 _ _ hw) hj hd (kk H locs hH hfr hlocs)
            · cases hz
          · cases hz
        · cases hz
    · cases hz
  · split at hz
    · rename_i hc
      rw [hc.1] at hd kk
      split at hz
      · rename_i ll hw
        split at hz
        · rename_i hj
          cases hz
          rw [List.map_cons, List.map_cons, List.map_cons, px_ad had hc.2]
          exact px_iast_W hx hb hK hH hw hj hd (fun H1 a1 a2 => kk H1 _ a1 (fun q hq => (a2 q hq).trans (hfr q hq)) (px_locs1 hlocs))
        · cases hz
      · cases hz
    · cases hz
  · split at hz
    · rename_i hc
      rw [hc.1] at hd kk
      split at hz
      · rename_i q o hq ho
        split at hz
        · rename_i r hr2
          split at hz
          · rename_i he
            cases hz
            obtain ⟨he1, he2, he3, he4⟩ := he
            obtain ⟨r', g1, g2, g3⟩ := hL.1 _ (px_look_mem hq)
            obtain ⟨o1, o2⟩ := o
            cases he1
            have hrr : r' = r := Option.some.inj (g1.symm.trans hr2)
            subst hrr
            rw [List.map_cons, List.map_cons, px_ad had hc.2]
            exact px_put_W hx hb hts hown hK g1 (hmem g1) g2 g3 hH ho he2 he3 (fun z => ⟨hnm (he4 z).1, (he4 z).2⟩) hd (fun H1 f a1 a2 => kk H1 _ a1 (fun q hq => (a2 q hq).trans (hfr q hq)) (px_locs1 hlocs))
          · cases hz
        · cases hz
      · cases hz
    · cases hz
  · split at hz
    · rename_i hc
      rw [hc] at hd kk
      have hz1 := px_or_some hz
      clear hz
      rcases hz1 with hz | hz
      · obtain ⟨v, hv, h2⟩ := Option.map_eq_some_iff.mp hz
        clear hz
        subst h2
        exact lv_ldc hx hb hown (hts _ (hL.2.2.2.1 _ (px_look_mem hv))) hd (kk H locs hH hfr hlocs)
      · obtain ⟨j, hv, h2⟩ := Option.map_eq_some_iff.mp hz
        clear hz
        subst h2
        obtain ⟨adK, adV, x1, x2, x3, x4, x5⟩ := hXX
        obtain ⟨hj, tx, hR⟩ := x3 _ (hL.2.2.2.2.2.1 _ (px_look_mem hv))
        have k2 := kk H locs hH hfr hlocs
        rw [List.map_cons, show px_tr ad (.ref (1 + j)) = .ref (adK j) by show va_rf (ad (1 + j)) = _; rw [(x1 j hj).1]; rfl] at k2
        exact va_ldcS hx hb hown hR hd k2
    · cases hz
  · split at hz
    · rename_i hc
      rw [hc] at hd kk
      obtain ⟨k, hk, h2⟩ := Option.bind_eq_some_iff.mp hz
      clear hz
      obtain ⟨g0, g1⟩ := hL.2.2.2.2.2.2.1 _ (px_look_mem hk)
      obtain ⟨adK, adV, x1, x2, x3, x4, x5⟩ := hXX
      split at h2
      · rename_i hk0
        cases h2
        obtain ⟨cf, kf, fi, f, a, cell, f1, f2, f3, f4, f5, f6, f7, f8⟩ := x4.kept hkf
        exact W.gets hx hb hown (hts _ (g0 hk0)) f1 f2 f3 f4 f5 (fun e => by rw [e] at f6; cases f6) f7 rfl hd (kk H locs hH hfr hlocs)
      · split at h2
        · rename_i hk1
          cases h2
          obtain ⟨cf, kf, fi, f, a, cell, f1, f2, f3, f4, f5, f6, f7, f8⟩ := x5.kept hkf
          exact W.gets hx hb hown (hts _ (g1 hk1)) f1 f2 f3 f4 f5 (fun e => by rw [e] at f6; cases f6) f7 rfl hd (kk H locs hH hfr hlocs)
        · cases h2
    · cases hz
  · split at hz
    · rename_i hc
      cases hz
      rw [hc.1] at hd kk
      obtain ⟨adK, adV, x1, x2, x3, x4, x5⟩ := hXX
      rename_i j a r
      obtain ⟨hj, hj1⟩ := px_n17 a ⟨hc.2.1, hc.2.2.1⟩
      have ev : ad a = some (adV (a - 17)) := by have := (x1 (a - 17) hj).2; rwa [hj1] at this
      rw [List.map_cons, List.map_cons, show px_tr ad (.ref a) = .ref (adV (a - 17)) by show va_rf (ad a) = _; rw [ev]; rfl]
      obtain ⟨cell, h1, h2, h3, h4, h5, h6, h7⟩ := ((x2.1 (a - 17) hj).2.2.2).kept hkf
      obtain ⟨hin, hjl⟩ := px_ix_in hc.2.2.2
      refine W.bald (a := adV (a - 17)) (v := .int ((lt.getD (a - 17) []).getD j.toNatClampNeg 0)) hx hb h1 h2 h3 (fun q => ?_) (h6 _ hjl) rfl rfl hd (kk H locs hH hfr hlocs)
      rcases q with q | q
      · exact hin (Or.inl q)
      · omega
    · cases hz
  · split at hz
    · rename_i hc
      rw [hc] at hd kk
      obtain ⟨v, hv, h2⟩ := Option.map_eq_some_iff.mp hz
      clear hz
      subst h2
      exact lv_ldcw hx hb hown (hts _ (hL.2.2.2.1 _ (px_look_mem hv))) hd (kk H locs hH hfr hlocs)
    · cases hz
  · split at hz
    · rename_i hc
      rw [hc] at hd kk
      obtain ⟨v, hv, h2⟩ := Option.map_eq_some_iff.mp hz
      clear hz
      subst h2
      exact lv_ldc2 hx hb hown (hts _ (hL.2.2.2.2.1 _ (px_look_mem hv))) hd (kk H locs hH hfr hlocs)
    · cases hz
  · split at hz
    · rename_i hc
      rw [hc] at hd kk
      split at hz
      · rename_i ha
        split at hz
        · rename_i xs
          cases hz
          obtain ⟨b0, e0, hX, hlt⟩ := hscr xs rfl
          obtain ⟨cell, h1, h2, h3, h4, h5⟩ := hX
          subst ha
          rw [List.map_cons, show px_tr ad (.ref 0) = .ref b0 by show va_rf (ad 0) = _; rw [e0]; rfl]
          exact W.alen (a := b0) (n := Int32.ofNat xs.length) hx hb (by rw [hfr _ hlt]; exact h1) h2 (by rw [h4] <;> rfl) rfl rfl hd (kk H locs hH hfr hlocs)
        · cases hz
      · split at hz
        · rename_i ha
          split at hz
          · rename_i ll hw
            cases hz
            rw [List.map_cons, px_ad had ha]
            exact px_alen_W hx hb hK (hH.2 _ _ hw) hd (kk H locs hH hfr hlocs)
          · cases hz
        · split at hz
          · rename_i hc2
            cases hz
            obtain ⟨adK, adV, x1, x2, x3, x4, x5⟩ := hXX
            rename_i a r _ _
            obtain ⟨hj, hj1⟩ := px_n17 a hc2
            have ev : ad a = some (adV (a - 17)) := by have := (x1 (a - 17) hj).2; rwa [hj1] at this
            rw [List.map_cons, show px_tr ad (.ref a) = .ref (adV (a - 17)) by show va_rf (ad a) = _; rw [ev]; rfl]
            obtain ⟨cell, h1, h2, h3, h4, h5, h6, h7⟩ := ((x2.1 (a - 17) hj).2.2.2).kept hkf
            exact W.alen (n := Int32.ofNat ((lt.map List.length).getD (a - 17) 0)) hx hb h1 h2 h5 rfl rfl hd (kk H locs hH hfr hlocs)
          · cases hz
    · cases hz
  · split at hz
    · rename_i hc
      rw [hc.1] at hd kk
      split at hz
      · rename_i ll hw
        split at hz
        · rename_i hj
          cases hz
          rw [List.map_cons, List.map_cons, px_ad had hc.2]
          exact px_lald_W hx hb hK (hH.2 _ _ hw) hj hd (kk H locs hH hfr hlocs)
        · cases hz
      · cases hz
    · cases hz
  · split at hz
    · rename_i hc
      rw [hc.1] at hd kk
      split at hz
      · rename_i ll hw
        split at hz
        · rename_i hj
          cases hz
          rw [List.map_cons, List.map_cons, List.map_cons, px_ad had hc.2]
          exact px_last_W hx hb hK hH hw hj hd (fun H1 a1 a2 => kk H1 _ a1 (fun q hq => (a2 q hq).trans (hfr q hq)) (px_locs1 hlocs))
        · cases hz
      · cases hz
    · cases hz
  · split at hz
    · rename_i hc
      rw [hc] at hd kk
      obtain ⟨ci, hci, h2⟩ := Option.bind_eq_some_iff.mp hz
      clear hz
      obtain ⟨r, hr2, h3⟩ := Option.map_eq_some_iff.mp h2
      clear h2
      subst h3
      obtain ⟨r', g1, g2⟩ := hL.2.2.1 _ (px_look_mem hci)
      have hrr : r' = r := Option.some.inj (g1.symm.trans hr2)
      subst hrr
      refine px_new_W hx hb hts hown hK hH g1 (hmem g1) g2 hcells hslots hd (fun H1 a1 a2 => ?_)
      have k2 := kk H1 locs a1 (fun q hq => (a2 q hq).trans (hfr q hq)) hlocs
      rw [List.map_cons, px_ad had (by omega), show 64 + w.length - 64 = w.length by omega] at k2
      exact k2
    · cases hz
  · split at hz
    · rename_i hc
      cases hz
      rw [hc.1] at hd kk
      rw [List.map_cons]
      refine px_newi_W hx hb (hts _ hai) hK hH hc.2.1 hc.2.2 hcells hslots hd (fun H1 a1 a2 => ?_)
      have k2 := kk H1 locs a1 (fun q hq => (a2 q hq).trans (hfr q hq)) hlocs
      rw [List.map_cons, px_ad had (by omega), show 64 + w.length - 64 = w.length by omega] at k2
      exact k2
    · cases hz
  · split at hz
    · rename_i hc
      cases hz
      rw [hc.1] at hd kk
      rw [List.map_cons]
      refine px_newl_W hx hb (hts _ haj) hK hH hc.2.1 hc.2.2 hcells hslots hd (fun H1 a1 a2 => ?_)
      have k2 := kk H1 locs a1 (fun q hq => (a2 q hq).trans (hfr q hq)) hlocs
      rw [List.map_cons, px_ad had (by omega), show 64 + w.length - 64 = w.length by omega] at k2
      exact k2
    · cases hz
  · cases hz
theorem px_W3 (E : px_Env Ts Ns cl D cI cJ h p s m args meth c) (hL : px_okL Ts Ns cl SL P h.1.cls L) (had : ∀ k, ad (64 + k) = some (B + k)) {i : Instr} {len d : Nat} {st : List Value} {z : List Value × px_W} {lv : List (Nat × Value)}
    (hl : lv_has ls h.2.2.1 lv) (hd : decode h.2.1 pc = .ok (i, len)) (hz : px_s3 i len d L st w = some z) (hH : px_H cl ad D cI cJ B w H) (hfr : ∀ q, q < B → H[q]? = s.heap[q]?) (hlocs : ∀ q ∈ locs, B ≤ q.base) (hdf : d ≤ R.frames) (hdl : 100 * d ≤ R.locals)
    (kk : ∀ (H1 : Heap) (locs1 : List Loc), px_H cl ad D cI cJ B z.2 H1 → (∀ q, q < B → H1[q]? = s.heap[q]?) → (∀ q ∈ locs1, B ≤ q.base) → W p l e R s m args below meth c H1 locs1 cells slots Q (F0 m (pc + 3) ls (z.1.map (px_tr ad)))) : W p l e R s m args below meth c H locs cells slots Q (F0 m pc ls (st.map (px_tr ad))) := by
  obtain ⟨hx, hb, hml, hr, hlk, hnm, hown, hts, hK, hNs⟩ := E
  unfold px_s3 at hz
  split at hz
  · split at hz
    · rename_i hc
      obtain ⟨c1, c2, c3, c4, c5, c6, c7, c8⟩ := hc
      rw [c1] at hd
      split at hz
      · rename_i q la lb hq ha hb2
        split at hz
        · rename_i he
          cases hz
          obtain ⟨g6, -⟩ := hL.2.1 _ (px_look_mem hq)
          obtain ⟨g1, g2, g3, g4⟩ := g6 he.1
          rw [List.map_cons, List.map_cons, List.map_cons, List.map_cons, List.map_cons, px_ad had c3, px_ad had c4]
          exact px_copy_W hx hb (by rw [hml]; exact hl.1.symm) hown (hts _ g1) (hts _ g2) (hts _ g3) (hts _ g4) hK hH ha hb2 c5 c6 c7 he.2.1 he.2.2 (by omega) (by rw [px_tr_sum]; omega) hd (fun H1 locs1 a1 a2 a3 => kk H1 locs1 a1 (fun q hq => (a2 q hq).trans (hfr q hq)) (fun q hq => (a3 q hq).elim (hlocs q) (fun e => by rw [e]; exact Nat.le_add_right _ _)))
        · cases hz
      · cases hz
    · cases hz
  · split at hz
    · rename_i hc
      rw [hc.1] at hd
      split at hz
      · rename_i q hq
        split at hz
        · rename_i he
          cases hz
          obtain ⟨-, g7, -⟩ := hL.2.1 _ (px_look_mem hq)
          obtain ⟨g1, g2, g3⟩ := g7 he
          rw [List.map_cons, px_ad had hc.2.2.1]
          exact W.objInit hx hb hown (hts _ g1) (hts _ g2) (hts _ g3) rfl (by rw [hml]; exact hl.1) rfl hd (by omega) (by show 2 * 0 + _ + 12 ≤ _; rw [px_tr_sum]; omega) (kk H locs hH hfr hlocs)
        · cases hz
      · cases hz
    · cases hz
  · cases hz
theorem px_W6 (E : px_Env Ts Ns cl D cI cJ h p s m args meth c) (hL : px_okL Ts Ns cl SL P h.1.cls L) {i : Instr} {len d : Nat} {st : List Value} {z : List Value} {lv : List (Nat × Value)}
    (hl : lv_has ls h.2.2.1 lv) (hd : decode h.2.1 pc = .ok (i, len)) (hz : px_s6 i len d L st = some z) (hdf : d ≤ R.frames) (hdl : 100 * d ≤ R.locals) (hcc : cells ≤ R.cells) (hss : slots ≤ R.slots)
    (kk : W p l e R s m args below meth c H locs cells slots Q (F0 m (pc + 3) ls (z.map (px_tr ad)))) : W p l e R s m args below meth c H locs cells slots Q (F0 m pc ls (st.map (px_tr ad))) := by
  obtain ⟨hx, hb, hml, hr, hlk, hnm, hown, hts, hK, hNs⟩ := E
  have hml2 : c.maxLocals = ls.size := by rw [hml]; exact hl.1.symm
  unfold px_s6 at hz
  split at hz
  · split at hz
    · rename_i hc
      rw [hc.1] at hd
      obtain ⟨q, hq, hz1⟩ := Option.bind_eq_some_iff.mp hz
      clear hz
      obtain ⟨-, -, -, g8, g9, g10⟩ := hL.2.1 _ (px_look_mem hq)
      split at hz1
      · split at hz1
        · rename_i he
          split at hz1
          · rename_i hs2
            cases hz1
            obtain ⟨a1, a2, a3, a4⟩ := g10 he
            exact va_mabs hx hb hml2 hown (hts _ a1) (hts _ a2) (hts _ a3) (hts _ a4) (by omega) (by rw [px_tr_sum]; omega) hcc hss hd kk
          · cases hz1
        · split at hz1
          · split at hz1
            · rename_i hs2
              split at hz1
              · rename_i he
                cases hz1
                obtain ⟨a1, a2, a3, a4⟩ := g8 he
                exact va_mmax hx hb hml2 hown (hts _ a1) (hts _ a2) (hts _ a3) (hts _ a4) (by omega) (by rw [px_tr_sum]; omega) hcc hss hd kk
              · split at hz1
                · rename_i he
                  cases hz1
                  obtain ⟨a1, a2, a3, a4⟩ := g9 he
                  exact va_mmin hx hb hml2 hown (hts _ a1) (hts _ a2) (hts _ a3) (hts _ a4) (by omega) (by rw [px_tr_sum]; omega) hcc hss hd kk
                · cases hz1
            · cases hz1
          · cases hz1
      · cases hz1
    · cases hz
  · cases hz
def px_Qc (cl : List vw_C) (ad : Nat → Option Nat) (D : va_G) (cI cJ : ClassId) (B : Nat) (v : Option Value) (w' : px_W) : Array Value → State → Outcome → State → Prop := fun _ st o t => o = .returned (v.map (px_tr ad)) ∧ px_H cl ad D cI cJ B w' t.heap ∧ ∀ q, q < B → t.heap[q]? = st.heap[q]?
def px_Pc (Ns : List Cond) (cl : List vw_C) (lt : List (List Int32)) (SL : List (String × Nat × Nat)) (ad : Nat → Option Nat) (D : va_G) (cI cJ : ClassId) (B : Nat) (as : List Value) (w : px_W) : Array Value → State → Prop := fun a U => a = (as.map (px_tr ad)).toArray ∧ px_H cl ad D cI cJ B w U.heap ∧ va_K D cl [(cI, .int), (cJ, .long)] U ∧ (∀ x ∈ Ns, va_Nw x U) ∧ px_X lt SL ad B U U.heap
theorem px_Pc_blind (hN : ∀ x ∈ Ns, ∃ (a : String) (i : Nat) (y : MethodName) (h : String), x = Cond.methodLinkNest a i y h) {as : List Value} : FrameBlind (px_Pc Ns cl lt SL ad D cI cJ B as w) := by
  intro a U g mk q
  obtain ⟨q1, q2, q3, q4, q5⟩ := q
  refine ⟨q1, q2, va_K.moved (u := U) (U := U.calling g mk a) (Vm.Alike.refl U.vm) q3, fun x hx => ?_, px_X.same (u := U) (U := U.calling g mk a) rfl q5⟩
  obtain ⟨b, i, y, h, rfl⟩ := hN x hx
  exact va_Nw.same rfl (u := U) (U := U.calling g mk a) rfl (q4 _ hx)
theorem px_after {v : Option Value} {w' : px_W} {a : Array Value} {mc ms : Nat} {st0 rest' : List Value} (hr : va_Run p l e R s m args below meth c H locs cells slots mc ms (F0 m pc ls st0) rest' (px_Qc cl ad D cI cJ B v w' a) (fun q => B ≤ q)) (hfr : ∀ q, q < B → H[q]? = s.heap[q]?) (hlocs : ∀ q ∈ locs, B ≤ q.base)
    (kk : ∀ (H1 : Heap) (locs1 : List Loc), px_H cl ad D cI cJ B w' H1 → (∀ q, q < B → H1[q]? = s.heap[q]?) → (∀ q ∈ locs1, B ≤ q.base) → W p l e R s m args below meth c H1 locs1 (cells + mc) (slots + ms) Q (F0 m (pc + 3) ls ((v.map (px_tr ad)).toList ++ rest'))) : W p l e R s m args below meth c H locs cells slots Q (F0 m pc ls st0) := by
  intro T hT X
  obtain ⟨v2, st₀, t, T', L2, h0, X', hL2, e1, e2, ⟨hv, hh, hf⟩, st⟩ := hr T hT X
  cases hv
  obtain ⟨t2, a1, b1⟩ := kk T'.heap (locs ++ L2) (by rw [e1]; exact hh) (fun q hq => by rw [e1, hf q hq, h0]; exact hfr q hq) (fun q hq => (List.mem_append.mp hq).elim (hlocs q) (hL2 q)) T' rfl X'
  exact ⟨t2, st t2 a1, b1⟩
end PX3
end
section
/-! CALLS, AND RUNS -/
section PX4
variable {p : Program} {l : Launch} {e : Env} {R : Room} {s : State} {m : MethodId} {args : Array Value} {below : List Frame} {meth : Method} {c : Code} {H : Heap} {locs : List Loc} {cells slots : Nat} {Q : State → Prop}
variable {pc : Nat} {ls : Array Slot} {rest : List Value} {cl : List vw_C} {ad : Nat → Option Nat} {D : va_G} {cI cJ : ClassId} {B : Nat} {w : px_W} {Ts Ns : List Cond} {P : List px_M} {h : px_Hd} {L : px_L} {lt : List (List Int32)} {SL : List (String × Nat × Nat)}
theorem px_good (hg : ∀ w ∈ Ts, goodWord w = true) {x : Cond} (hx : x ∈ Ts) : GoodIn Ts (x :: Ts) := fun w hw => (List.mem_cons.mp hw).elim (fun e => by subst e; exact ⟨hx, good_of_word (hg _ hx)⟩) (fun q => ⟨q, good_of_word (hg _ q)⟩)
theorem px_stack {st r : List Value} {b n : Nat} (hdr : st.drop n = .ref b :: r) : st.map (px_tr ad) = (((st.take n).reverse).map (px_tr ad)).reverse ++ px_tr ad (.ref b) :: r.map (px_tr ad) := by
  rw [← List.map_reverse, List.reverse_reverse, ← List.map_cons, ← List.map_append, ← hdr, List.take_append_drop]
theorem px_stackS (st : List Value) (n : Nat) : st.map (px_tr ad) = (((st.take n).reverse).map (px_tr ad)).reverse ++ (st.drop n).map (px_tr ad) := by
  rw [← List.map_reverse, List.reverse_reverse, ← List.map_append, List.take_append_drop]
theorem px_W4 (E : px_Env Ts Ns cl D cI cJ h p s m args meth c) (hO : px_okP Ts Ns cl SL P) (hL : px_okL Ts Ns cl SL P h.1.cls L) (had : ∀ k, ad (64 + k) = some (B + k)) {i : Instr} {len d : Nat} {st : List Value} {lv : List (Nat × Value)}
    (hl : lv_has ls h.2.2.1 lv) (hd : decode h.2.1 pc = .ok (i, len)) {q : Nat × List Value × List Value} (hz : px_s4 cl P i len L st w = some q) {M' : px_M} (hM' : P[q.1]? = some M') {mc ms : Nat} {v : Option Value} {w' : px_W}
    (hMet : Met l M'.1.1 (Cond.code M'.1.1 M'.1.2.1 M'.1.2.2.1 M'.1.2.2.2.1 :: Ts) { frames := d, cells := mc, slots := ms, locals := 100 * d } (px_Pc Ns cl lt SL ad D cI cJ B q.2.1 w) (px_Qc cl ad D cI cJ B v w') mc ms (fun a => B ≤ a))
    (hH : px_H cl ad D cI cJ B w H) (hfr : ∀ q, q < B → H[q]? = s.heap[q]?) (hlocs : ∀ q ∈ locs, B ≤ q.base) (hXX : px_X lt SL ad B s s.heap) (hdf : d + 1 ≤ R.frames) (hdl : 100 * (d + 1) ≤ R.locals) (hcc : cells + mc ≤ R.cells) (hss : slots + ms ≤ R.slots)
    (kk : ∀ (H1 : Heap) (locs1 : List Loc), px_H cl ad D cI cJ B w' H1 → (∀ q, q < B → H1[q]? = s.heap[q]?) → (∀ q ∈ locs1, B ≤ q.base) → W p l e R s m args below meth c H1 locs1 (cells + mc) (slots + ms) Q (F0 m (pc + 3) ls ((v.map (px_tr ad)).toList ++ q.2.2.map (px_tr ad)))) : W p l e R s m args below meth c H locs cells slots Q (F0 m pc ls (st.map (px_tr ad))) := by
  obtain ⟨hx, hb, hml, hr, hlk, hnm, hown, hts, hK, hNs⟩ := E
  have hMP : M' ∈ P := List.mem_of_getElem? hM'
  obtain ⟨⟨o1, o2, o3, o4, o5⟩, -, -⟩ := hO.2.1 M' hMP
  have hG := px_good hO.2.2.2.2.1 o1
  have hbl : ∀ as : List Value, FrameBlind (px_Pc Ns cl lt SL ad D cI cJ B as w) := fun as => px_Pc_blind hO.2.2.2.2.2
  have hR : d + 1 ≤ R.frames ∧ 8 + (M'.1.2.2.1 + 11) + 100 * d ≤ R.locals := ⟨hdf, by omega⟩
  have hNw : ∀ (U : State), s.WarmedH U.vm → ∀ x ∈ Ns, va_Nw x U := fun U hW x hx => by
    obtain ⟨b, j, y, hh, rfl⟩ := hO.2.2.2.2.2 x hx
    exact va_Nw.warmM hW (hNs _ hx)
  have hPc : ∀ (as : List Value) (U : State), U.heap = H → s.WarmedH U.vm → px_Pc Ns cl lt SL ad D cI cJ B as w (as.map (px_tr ad)).toArray U := fun as U hU hW => ⟨rfl, by rw [hU]; exact hH, va_K.moved hW.alike hK, hNw U hW, hXX.to hW (fun q hq => by rw [hU]; exact hfr q hq)⟩
  have S : CallFix p m c h.2.1 h.2.2.1 s args Ts h.1.cls := ⟨hx, hb, hml, hown, hts⟩
  unfold px_s4 at hz
  split at hz
  · split at hz
    · rename_i hc
      rw [hc] at hd
      obtain ⟨k, hk, hz1⟩ := Option.bind_eq_some_iff.mp hz
      clear hz
      obtain ⟨M2, hM2, hz⟩ := Option.bind_eq_some_iff.mp hz1
      clear hz1
      split at hz
      · rename_i b r hdr
        split at hz
        · rename_i hcs
          split at hz
          · rename_i o ho
            split at hz
            · rename_i kc hkc
              split at hz
              · rename_i hcn
                cases hz
                have e2 : M2 = M' := Option.some.inj (hM2.symm.trans hM')
                subst e2
                obtain ⟨g0, -⟩ := (hL.2.1 _ (px_look_mem hk)).2.2.1 M2 hM2
                obtain ⟨g1, g2, g3⟩ := g0 hcs.1
                obtain ⟨r2, k1, cell, k2, k3, k4, -⟩ := hH.2 _ _ ho
                have hrr : r2 = kc := Option.some.inj (k1.symm.trans hkc)
                subst hrr
                rw [px_stack hdr, px_ad had hcs.2.2.1]
                have hfc : s.vm.findClass M2.1.1.cls = some cell.cls := by rw [← hcn, k3]; exact (hK.1 _ _ k1).2.1
                have hPre := hPc (.ref b :: (st.take M2.1.2.2.2.2).reverse)
                rw [List.map_cons, px_ad had hcs.2.2.1] at hPre
                exact px_after (va_runV (As := ((st.take M2.1.2.2.2.2).reverse).map (px_tr ad)) (C := M2.1.1.cls) S hMet ⟨callB_of M2.1.2.2.2.2 hts hG rfl rfl rfl (hts _ o3) (hts _ g1) o4 hR, hts _ g2, hts _ g3⟩ ⟨hbl _, ⟨cell, k2, by rw [k4]; rfl, hfc⟩, hPre⟩ rfl (by simp; omega) hl.1 rfl (lv_room (by rw [px_tr_sum]; exact hcs.2.2.2)) hd ⟨hcc, hss⟩) hfr hlocs kk
              · cases hz
            · cases hz
          · cases hz
        · split at hz
          · rename_i hcs
            cases hz
            have e2 : M2 = M' := Option.some.inj (hM2.symm.trans hM')
            subst e2
            obtain ⟨g0, -⟩ := (hL.2.1 _ (px_look_mem hk)).2.2.1 M2 hM2
            obtain ⟨g1, g2, g3⟩ := g0 hcs.1
            obtain ⟨adK, adV, x1, x2, x3, x4, x5⟩ := id hXX
            obtain ⟨hj, hj1, hj2⟩ := px_n1 b ⟨hcs.2.2.1, hcs.2.2.2.1⟩
            have ea : ad b = some (adK (b - 1)) := by have := (x1 (b - 1) hj).1; rwa [hj1] at this
            have eb : px_tr ad (.ref b) = .ref (adK (b - 1)) := by show va_rf (ad b) = _; rw [ea]; rfl
            obtain ⟨cell, k2, k4, k3, -⟩ := ((x2.1 (b - 1) hj).1).kept (H1 := H) (fun a _ z => hfr a (Nat.not_le.mp z))
            rw [px_stack hdr, eb]
            have hPre := hPc (.ref b :: (st.take M2.1.2.2.2.2).reverse)
            rw [List.map_cons, eb] at hPre
            exact px_after (va_runV (As := ((st.take M2.1.2.2.2.2).reverse).map (px_tr ad)) (C := M2.1.1.cls) S hMet ⟨callB_of M2.1.2.2.2.2 hts hG rfl rfl rfl (hts _ o3) (hts _ g1) o4 hR, hts _ g2, hts _ g3⟩ ⟨hbl _, ⟨cell, k2, k4, by rw [hcs.2.2.2.2.1]; exact k3⟩, hPre⟩ rfl (by simp; omega) hl.1 rfl (lv_room (by rw [px_tr_sum]; exact hcs.2.2.2.2.2)) hd ⟨hcc, hss⟩) hfr hlocs kk
          · cases hz
      · cases hz
    · cases hz
  · split at hz
    · rename_i hc
      rw [hc] at hd
      obtain ⟨k, hk, hz1⟩ := Option.bind_eq_some_iff.mp hz
      clear hz
      obtain ⟨M2, hM2, hz⟩ := Option.bind_eq_some_iff.mp hz1
      clear hz1
      split at hz
      · rename_i hcs
        cases hz
        have e2 : M2 = M' := Option.some.inj (hM2.symm.trans hM')
        subst e2
        obtain ⟨-, g1, -, g4, -⟩ := (hL.2.1 _ (px_look_mem hk)).2.2.1 M2 hM2
        rw [px_stackS st M2.1.2.2.2.2]
        rcases hcs.1 with hk1 | hk1
        · obtain ⟨g1, g2⟩ := g1 hk1
          exact px_after (va_runS (As := ((st.take M2.1.2.2.2.2).reverse).map (px_tr ad)) S hMet ⟨callB_of M2.1.2.2.2.2 hts hG rfl rfl rfl (hts _ o3) (hts _ g1) o4 hR, hts _ g2⟩ ⟨hbl _, hPc _⟩ rfl (by simp; omega) hl.1 rfl (lv_room (by rw [px_tr_sum]; exact hcs.2.2)) hd ⟨hcc, hss⟩) hfr hlocs kk
        · obtain ⟨g1, g2⟩ := g4 hk1
          exact px_after (va_runSN (As := ((st.take M2.1.2.2.2.2).reverse).map (px_tr ad)) S hMet ⟨va_cnB M2.1.2.2.2.2 hts hG rfl rfl rfl (hNs _ g1) (hts _ o3) o4 hR, hts _ g2, trivial⟩ ⟨hbl _, hPc _⟩ rfl (by simp; omega) hl.1 rfl (lv_room (by rw [px_tr_sum]; exact hcs.2.2)) hd ⟨hcc, hss⟩) hfr hlocs kk
      · cases hz
    · cases hz
  · split at hz
    · rename_i hc
      rw [hc] at hd
      obtain ⟨k, hk, hz1⟩ := Option.bind_eq_some_iff.mp hz
      clear hz
      obtain ⟨M2, hM2, hz⟩ := Option.bind_eq_some_iff.mp hz1
      clear hz1
      split at hz
      · rename_i b r hdr
        split at hz
        · rename_i hcs
          cases hz
          have e2 : M2 = M' := Option.some.inj (hM2.symm.trans hM')
          subst e2
          obtain ⟨-, -, g2, -, g5⟩ := (hL.2.1 _ (px_look_mem hk)).2.2.1 M2 hM2
          have hPre := hPc (.ref b :: (st.take M2.1.2.2.2.2).reverse)
          rw [List.map_cons, px_ad had hcs.2.2.1] at hPre
          rw [px_stack hdr, px_ad had hcs.2.2.1]
          obtain ⟨⟨y2, cc2, mx2, ret2, n2⟩, co2, L2⟩ := M2
          have hn2 : n2 ≤ st.length := hcs.2.1
          rcases hcs.1 with hk1 | hk1
          · obtain ⟨g1, g2, g3, g4⟩ := g2 hk1
            cases g4
            exact px_after (va_runI (As := ((st.take n2).reverse).map (px_tr ad)) S hMet ⟨callB_of n2 hts hG rfl rfl rfl (hts _ o3) (hts _ g1) o4 hR, g2, hts _ g3⟩ ⟨hbl _, hPre⟩ rfl (by simp; omega) hl.1 rfl (lv_room (by rw [px_tr_sum]; exact hcs.2.2.2)) hd ⟨hcc, hss⟩) hfr hlocs kk
          · obtain ⟨g1, g2, g3, g4⟩ := g5 hk1
            cases g4
            exact px_after (va_runIN (As := ((st.take n2).reverse).map (px_tr ad)) S hMet ⟨va_cnB n2 hts hG rfl rfl rfl (hNs _ g1) (hts _ o3) o4 hR, g2, hts _ g3⟩ ⟨hbl _, hPre⟩ rfl (by simp; omega) hl.1 rfl (lv_room (by rw [px_tr_sum]; exact hcs.2.2.2)) hd ⟨hcc, hss⟩) hfr hlocs kk
        · cases hz
      · cases hz
    · cases hz
  · cases hz
theorem px_s5_st {i : Instr} {len : Nat} {ret : Option FieldType} {st : List Value} {v : Option Value} (hz : px_s5 i len ret st = some v) : st = v.toList := by
  unfold px_s5 at hz
  split at hz
  · split at hz
    · split at hz
      · cases hz; rfl
      · cases hz
    · cases hz
  · split at hz
    · cases hz; rfl
    · cases hz
  · split at hz
    · cases hz; rfl
    · cases hz
  · cases hz
theorem px_ret_W (hx : p.tables.exec = Jvm.exec) {cc : ByteArray} (hb : c.code = cc) {ret : Option FieldType} (hr : meth.sig.returnType = ret) (hlocks : meth.locks = false) {Qc : Array Value → State → Outcome → State → Prop} {free : Addr → Prop} {i : Instr} {len : Nat} {v : Option Value} (hd : decode cc pc = .ok (i, len)) (hz : px_s5 i len ret v.toList = some v) (hq : ∀ t : State, t.heap = H → s.WarmedH t.vm → Qc args s (.returned (v.map (px_tr ad))) t) (hf : ∀ q ∈ locs, free q.base) :
    W p l e R s m args below meth c H locs cells slots (MQ below Qc args s cells slots free) (F0 m pc ls (v.toList.map (px_tr ad))) := by
  generalize hst : v.toList = st at hz
  unfold px_s5 at hz
  split at hz
  · split at hz
    · split at hz
      · rename_i hc
        cases hz
        rw [hc.1] at hd
        exact W.zret hx hb hr hc.2 hq hf hd hlocks
      · cases hz
    · cases hz
  · split at hz
    · rename_i hc
      cases hz
      rw [hc.1] at hd
      rw [hc.2] at hr
      exact W.lret hx hb hr hq hf hd hlocks
    · cases hz
  · split at hz
    · rename_i hc
      cases hz
      rw [hc.1] at hd
      rw [hc.2] at hr
      exact W.vret hx hb hr hq hf hd hlocks
    · cases hz
  · cases hz
end PX4
def px_Goal (Ts Ns : List Cond) (cl : List vw_C) (lt : List (List Int32)) (SL : List (String × Nat × Nat)) (P : List px_M) (n : Nat) : Prop :=
  ∀ (d : Nat) (scr : Option (List Int32)) (M : px_M) (pc : Nat) (lv : List (Nat × Value)) (st : List Value) (w : px_W) (b : Nat × Nat) (r : Option Value × px_W × (Nat × Nat)), px_exec cl lt P n d scr M pc lv st w b = some r → (∀ q ∈ M.2.1, decode M.1.2.1 q.1 = .ok q.2) ∧ px_okL Ts Ns cl SL P M.1.1.cls M.2.2 →
  ∀ (D : va_G) (cI cJ : ClassId) (B : Nat) (ad : Nat → Option Nat) (p : Program) (l : Launch) (e : Env) (R : Room) (s : State) (m : MethodId) (args : Array Value) (below : List Frame) (meth : Method) (c : Code) (H : Heap) (locs : List Loc) (cells slots : Nat) (Q : State → Prop) (ls : Array Slot),
  (∀ k, ad (64 + k) = some (B + k)) → px_Env Ts Ns cl D cI cJ M.1 p s m args meth c → lv_has ls M.1.2.2.1 (px_lv ad lv) → px_H cl ad D cI cJ B w H → (∀ q, q < B → H[q]? = s.heap[q]?) → (∀ q ∈ locs, B ≤ q.base) → d ≤ R.frames → 100 * d ≤ R.locals → cells + (b.1 - r.2.2.1) ≤ R.cells → slots + (b.2 - r.2.2.2) ≤ R.slots →
  (∀ xs, scr = some xs → ∃ b0, ad 0 = some b0 ∧ va_X b0 xs.length (fun j => xs.getD j 0) s s.heap ∧ b0 < B) → px_X lt SL ad B s s.heap →
  (∀ (H1 : Heap) (ls1 : Array Slot) (pc1 : Nat) (i1 : Instr) (len1 : Nat) (locs1 : List Loc) (cells1 slots1 : Nat), px_H cl ad D cI cJ B r.2.1 H1 → (∀ q, q < B → H1[q]? = s.heap[q]?) → (∀ q ∈ locs1, B ≤ q.base) → decode M.1.2.1 pc1 = .ok (i1, len1) → px_s5 i1 len1 M.1.2.2.2.1 r.1.toList = some r.1 → cells1 ≤ cells + (b.1 - r.2.2.1) → slots1 ≤ slots + (b.2 - r.2.2.2) → W p l e R s m args below meth c H1 locs1 cells1 slots1 Q (F0 m pc1 ls1 (r.1.toList.map (px_tr ad)))) →
  W p l e R s m args below meth c H locs cells slots Q (F0 m pc ls (st.map (px_tr ad)))
theorem px_met {Ts Ns : List Cond} {cl : List vw_C} {lt : List (List Int32)} {SL : List (String × Nat × Nat)} {P : List px_M} (hO : px_okP Ts Ns cl SL P) {n : Nat} (IH : px_Goal Ts Ns cl lt SL P n) {d : Nat} {M : px_M} {as : List Value} {w : px_W} {b : Nat × Nat} {r : Option Value × px_W × (Nat × Nat)} (hex : px_exec cl lt P n d none M 0 (lv_args 0 as) [] w b = some r) (hM : M ∈ P) (hfit : (lg_sl as).length ≤ M.1.2.2.1)
    (l : Launch) (D : va_G) (cI cJ : ClassId) (B : Nat) (ad : Nat → Option Nat) (had : ∀ k, ad (64 + k) = some (B + k)) : Met l M.1.1 (Cond.code M.1.1 M.1.2.1 M.1.2.2.1 M.1.2.2.2.1 :: Ts) { frames := d, cells := b.1 - r.2.2.1, slots := b.2 - r.2.2.2, locals := 100 * d } (px_Pc Ns cl lt SL ad D cI cJ B as w) (px_Qc cl ad D cI cJ B r.1 r.2.1) (b.1 - r.2.2.1) (b.2 - r.2.2.2) (fun a => B ≤ a) := by
  obtain ⟨⟨o1, o2, o3, o4, o5⟩, -, -⟩ := hO.2.1 M hM
  refine Met.ofW (cc := M.1.2.1) (maxL := M.1.2.2.1) (ret := M.1.2.2.2.1) o2 rfl ?_
  intro p e s m args below meth c s₁ Bd hml hv
  obtain ⟨rfl, hH, hK, hN, hXX⟩ := hv
  have hts0 := atoms_spec (ws := Cond.code M.1.1 M.1.2.1 M.1.2.2.1 M.1.2.2.2.1 :: Ts) Bd.pre
  have hts : ∀ x ∈ Ts, x.before _ s = true := fun x hx => hts0 x (List.mem_cons_of_mem _ hx)
  have hown : s.vm.findClass M.1.1.cls = some m.cls := findClass_of_methodNamed Bd.named
  have hnm : M.1.1.name = "<init>" → meth.name = "<init>" := fun z => (name_of_methodNamed Bd.named Bd.method).1.trans z
  have hl := lv_entry (as.map (px_tr ad)) (n := M.1.2.2.1) (by rw [px_sl_tr]; exact hfit)
  rw [px_args_tr] at hl
  rw [lg_entry_eq]
  refine IH d none M 0 _ [] w b r hex (hO.2.1 M hM).2 D cI cJ B ad p l e _ s m _ below meth c s.heap [] 0 0 _ _ had ⟨Bd.exec, Bd.bytes, hml, Bd.returns, Bd.notSynchronized, hnm, hown, hts, hK, hN⟩ hl hH (fun _ _ => rfl) (fun _ z => by cases z) (Nat.le_refl _) (Nat.le_refl _) (by show 0 + (b.1 - r.2.2.1) ≤ b.1 - r.2.2.1; omega) (by show 0 + (b.2 - r.2.2.2) ≤ b.2 - r.2.2.2; omega) (fun _ z => by cases z) hXX ?_
  intro H1 ls1 pc1 i1 len1 locs1 cells1 slots1 a1 a2 a3 a4 a5 a6 a7
  refine W.widen (k := b.1 - r.2.2.1) (n := b.2 - r.2.2.2) (by omega) (by omega) ?_
  exact px_ret_W Bd.exec Bd.bytes Bd.returns Bd.notSynchronized a4 a5 (fun t ht _ => ⟨rfl, by rw [ht]; exact a1, fun q hq => by rw [ht]; exact a2 q hq⟩) a3
theorem px_sim {Ts Ns : List Cond} {cl : List vw_C} {lt : List (List Int32)} {SL : List (String × Nat × Nat)} {P : List px_M} (hO : px_okP Ts Ns cl SL P) : ∀ n, px_Goal Ts Ns cl lt SL P n := by
  intro n
  induction n with
  | zero =>
    intro d scr M pc lv st w b r hex
    simp [px_exec] at hex
  | succ n IH =>
    intro d scr M pc lv st w b r hex hM D cI cJ B ad p l e R s m args below meth c H locs cells slots Q ls had E hl hH hfr hlocs hdf hdl hcc hss hscr hXX hret
    obtain ⟨hdec, hL⟩ := id hM
    unfold px_exec at hex
    split at hex
    · cases hex
    · rename_i z hst
      split at hex
      · rename_i hbud
        have hmo := px_mono _ _ _ _ _ _ _ _ _ _ hex
        simp only at hmo
        unfold px_step at hst
        obtain ⟨q, hq, hs⟩ := Option.bind_eq_some_iff.mp hst
        clear hst
        have hd := hdec _ (px_look_mem hq)
        have hs1 := px_or_some hs
        clear hs
        rcases hs1 with hs | hs
        · obtain ⟨y, hy, hs2⟩ := Option.map_eq_some_iff.mp hs
          cases hs2
          refine px_W1 E.1 E.2.1 ad hd hy hl (fun ls' hl' => ?_)
          exact IH d scr M _ _ _ w _ r hex hM D cI cJ B ad p l e R s m args below meth c H locs cells slots Q ls' had E hl' hH hfr hlocs hdf hdl hcc hss hscr hXX hret
        have hs1 := px_or_some hs
        clear hs
        rcases hs1 with hs | hs
        · obtain ⟨y, hy, hs2⟩ := Option.map_eq_some_iff.mp hs
          cases hs2
          simp only at hbud hmo hex
          refine px_W2 E hO.1 hL hO.2.2.1 hO.2.2.2.1 had hd hy hH hfr hlocs (by omega) (by omega) hscr hXX (fun H1 locs1 a1 a2 a3 => ?_)
          exact IH d scr M _ _ _ _ _ r hex hM D cI cJ B ad p l e R s m args below meth c H1 locs1 _ _ Q ls had E hl a1 a2 a3 hdf hdl (by simp only; omega) (by simp only; omega) hscr hXX (fun H2 ls2 pc2 i2 len2 locs2 cells2 slots2 b1 b2 b3 b4 b5 b6 b7 => hret H2 ls2 pc2 i2 len2 locs2 cells2 slots2 b1 b2 b3 b4 b5 (by simp only at b6; omega) (by simp only at b7; omega))
        have hs1 := px_or_some hs
        clear hs
        rcases hs1 with hs | hs
        · obtain ⟨y, hy, hs2⟩ := Option.map_eq_some_iff.mp hs
          cases hs2
        have hs1 := px_or_some hs
        clear hs
        rcases hs1 with hs | hs
        · obtain ⟨y, hy, hs2⟩ := Option.map_eq_some_iff.mp hs
          cases hs2
          refine px_W3 E hL had hl hd hy hH hfr hlocs hdf hdl (fun H1 locs1 a1 a2 a3 => ?_)
          exact IH d scr M _ _ _ _ _ r hex hM D cI cJ B ad p l e R s m args below meth c H1 locs1 cells slots Q ls had E hl a1 a2 a3 hdf hdl hcc hss hscr hXX hret
        have hs1 := px_or_some hs
        clear hs
        rcases hs1 with hs | hs
        · obtain ⟨y, hy, hs2⟩ := Option.map_eq_some_iff.mp hs
          cases hs2
          refine px_W6 E hL hl hd hy hdf hdl (by omega) (by omega) ?_
          exact IH d scr M _ _ _ _ _ r hex hM D cI cJ B ad p l e R s m args below meth c H locs cells slots Q ls had E hl hH hfr hlocs hdf hdl hcc hss hscr hXX hret
        · obtain ⟨y, hy, hs2⟩ := Option.map_eq_some_iff.mp hs
          cases hs2
      · cases hex
    · rename_i v hst
      cases hex
      unfold px_step at hst
      obtain ⟨q, hq, hs⟩ := Option.bind_eq_some_iff.mp hst
      clear hst
      have hd := hdec _ (px_look_mem hq)
      have hs1 := px_or_some hs
      clear hs
      rcases hs1 with hs | hs
      · obtain ⟨y, hy, hs2⟩ := Option.map_eq_some_iff.mp hs
        cases hs2
      have hs1 := px_or_some hs
      clear hs
      rcases hs1 with hs | hs
      · obtain ⟨y, hy, hs2⟩ := Option.map_eq_some_iff.mp hs
        cases hs2
      have hs1 := px_or_some hs
      clear hs
      rcases hs1 with hs | hs
      · obtain ⟨y, hy, hs2⟩ := Option.map_eq_some_iff.mp hs
        cases hs2
        have hst := px_s5_st hy
        subst hst
        exact hret H ls pc _ _ locs cells slots hH hfr hlocs hd hy (by omega) (by omega)
      have hs1 := px_or_some hs
      clear hs
      rcases hs1 with hs | hs
      · obtain ⟨y, hy, hs2⟩ := Option.map_eq_some_iff.mp hs
        cases hs2
      have hs1 := px_or_some hs
      clear hs
      rcases hs1 with hs | hs
      · obtain ⟨y, hy, hs2⟩ := Option.map_eq_some_iff.mp hs
        cases hs2
      · obtain ⟨y, hy, hs2⟩ := Option.map_eq_some_iff.mp hs
        cases hs2
    · rename_i k hst
      split at hex
      · rename_i d' M' hM'
        split at hex
        · rename_i hfit
          split at hex
          · cases hex
          · rename_i r2 hex2
            have hm1 := px_mono _ _ _ _ _ _ _ _ _ _ hex2
            have hm2 := px_mono _ _ _ _ _ _ _ _ _ _ hex
            unfold px_step at hst
            obtain ⟨q, hq, hs⟩ := Option.bind_eq_some_iff.mp hst
            clear hst
            have hd := hdec _ (px_look_mem hq)
            have hs1 := px_or_some hs
            clear hs
            rcases hs1 with hs | hs
            · obtain ⟨y, hy, hs2⟩ := Option.map_eq_some_iff.mp hs
              cases hs2
            have hs1 := px_or_some hs
            clear hs
            rcases hs1 with hs | hs
            · obtain ⟨y, hy, hs2⟩ := Option.map_eq_some_iff.mp hs
              cases hs2
            have hs1 := px_or_some hs
            clear hs
            rcases hs1 with hs | hs
            · obtain ⟨y, hy, hs2⟩ := Option.map_eq_some_iff.mp hs
              cases hs2
            have hs1 := px_or_some hs
            clear hs
            rcases hs1 with hs | hs
            · obtain ⟨y, hy, hs2⟩ := Option.map_eq_some_iff.mp hs
              cases hs2
            have hs1 := px_or_some hs
            clear hs
            rcases hs1 with hs | hs
            · obtain ⟨y, hy, hs2⟩ := Option.map_eq_some_iff.mp hs
              cases hs2
            · obtain ⟨y, hy, hs2⟩ := Option.map_eq_some_iff.mp hs
              cases hs2
              have hMet := px_met hO IH hex2 (List.mem_of_getElem? hM') hfit l D cI cJ B ad had
              refine px_W4 E hO hL had hl hd hy hM' hMet hH hfr hlocs hXX hdf hdl (by omega) (by omega) (fun H1 locs1 a1 a2 a3 => ?_)
              have e2 : (r2.1.map (px_tr ad)).toList ++ k.2.2.map (px_tr ad) = (r2.1.toList ++ k.2.2).map (px_tr ad) := by
                rw [List.map_append]
                cases r2.1 <;> rfl
              rw [e2]
              exact IH _ scr M _ _ _ _ _ r hex hM D cI cJ B ad p l e R s m args below meth c H1 locs1 _ _ Q ls had E hl a1 a2 a3 hdf hdl (by omega) (by omega) hscr hXX (fun H2 ls2 pc2 i2 len2 locs2 cells2 slots2 b1 b2 b3 b4 b5 b6 b7 => hret H2 ls2 pc2 i2 len2 locs2 cells2 slots2 b1 b2 b3 b4 b5 (by omega) (by omega))
        · cases hex
      · cases hex
end
section
/-! CHECKS BY PROGRAM of what the tables must say -/
def px_T (l : List (String × String × String × Bool)) : u_T := fun k => l.getD k ("", "", "", false)
def px_Ts : List Cond := lw_tbl.filter goodWord
def px_isN (w : Cond) : Bool := match w with
  | .methodLinkNest _ _ _ _ => true
  | _ => false
def px_Ns : List Cond := tables_1.filter px_isN
theorem px_Ns_ok : ∀ x ∈ px_Ns, ∃ (a : String) (i : Nat) (y : MethodName) (h : String), x = Cond.methodLinkNest a i y h := by
  intro x hx
  have h := (List.mem_filter.mp hx).2
  unfold px_isN at h
  split at h
  · exact ⟨_, _, _, _, rfl⟩
  · cases h
theorem px_Ts_good : ∀ w ∈ px_Ts, goodWord w = true := fun w hw => (List.mem_filter.mp hw).2
def px_wd (k : Nat) (w : Cond) : Bool := goodWord w && decide (lw_tbl[k]? = some w)
theorem px_wd_in {k : Nat} {w : Cond} (h : px_wd k w = true) : w ∈ px_Ts := by
  unfold px_wd at h
  simp only [Bool.and_eq_true, decide_eq_true_eq] at h
  exact List.mem_filter.mpr ⟨List.mem_of_getElem? h.2, h.1⟩
def px_wn (k : Nat) (w : Cond) : Bool := decide (px_Ns[k]? = some w)
theorem px_wn_in {k : Nat} {w : Cond} (h : px_wn k w = true) : w ∈ px_Ns := List.mem_of_getElem? (of_decide_eq_true h)
def px_all2 {α β : Type} (f : α → β → Bool) : List α → List β → Bool
  | [], _ => true
  | a :: l, b :: m => f a b && px_all2 f l m
  | _ :: _, [] => false
theorem px_all2_mem {α β : Type} {f : α → β → Bool} : ∀ {l : List α} {m : List β}, px_all2 f l m = true → ∀ a ∈ l, ∃ b, f a b = true
  | [], _, _, _, ha => absurd ha List.not_mem_nil
  | x :: l, [], h, _, _ => by simp [px_all2] at h
  | x :: l, b :: m, h, a, ha => by
    simp only [px_all2, Bool.and_eq_true] at h
    rcases List.mem_cons.mp ha with e | e
    · subst e; exact ⟨b, h.1⟩
    · exact px_all2_mem h.2 a e
def px_bK (r : vw_C) (hs : List Nat) (ki kn : Nat) : Bool :=
  (List.range r.2.2).all (fun k => px_wd (hs.getD k 0) (u_lay r.1 r.2.1 k)) && ((List.range r.2.2).all (fun k => (parseFieldDescriptor (r.2.1 k).2.2.1).isSome) && ((List.range r.2.2).all (fun a => (List.range r.2.2).all (fun b => a == b || !(decide ((r.2.1 a).2.1 = (r.2.1 b).2.1)))) && (px_wd ki (.instantiable r.1 r.2.2) && px_wd kn (.initialized r.1))))
theorem px_bK_ok {r : vw_C} {hs : List Nat} {ki kn : Nat} (h : px_bK r hs ki kn = true) : px_okK px_Ts r := by
  unfold px_bK at h
  simp only [Bool.and_eq_true] at h
  obtain ⟨h1, h2, h3, h4, h5⟩ := h
  refine ⟨fun w hw => ?_, fun k hk => ?_, fun a ha b hb hab => ?_, px_wd_in h4, px_wd_in h5⟩
  · obtain ⟨k, hk, rfl⟩ := List.mem_map.mp hw
    exact px_wd_in (List.all_eq_true.mp h1 k hk)
  · have h6 := List.all_eq_true.mp h2 k (List.mem_range.mpr hk)
    unfold px_ty
    cases hp : parseFieldDescriptor (r.2.1 k).2.2.1 with
    | none => rw [hp] at h6; cases h6
    | some t => rfl
  · have h6 := List.all_eq_true.mp (List.all_eq_true.mp h3 a (List.mem_range.mpr ha)) b (List.mem_range.mpr hb)
    simp only [Bool.or_eq_true, beq_iff_eq, Bool.not_eq_true', decide_eq_false_iff_not] at h6
    exact h6.elim (fun e => absurd e hab) id
def px_bF (cl : List vw_C) (own : String) (q : Nat × Nat × Nat) (k : Nat) : Bool := match cl[q.2.1]? with
  | some r => decide (q.2.2 < r.2.2) && px_wd k (.fieldLink own q.1 (r.2.1 q.2.2).1 (r.2.1 q.2.2).2.1 (r.2.1 q.2.2).2.2.1)
  | none => false
def px_bC (P : List px_M) (own : String) (q : Nat × Nat × Nat) (h : List Nat) : Bool :=
  if q.2.1 = 6 then px_wd (h.getD 0 0) (.methodLink own q.1 arraycopyName) && (px_wd (h.getD 1 0) (.native arraycopyName) && (px_wd (h.getD 2 0) (.static arraycopyName) && px_wd (h.getD 3 0) (.initialized "java/lang/System")))
  else if q.2.1 = 7 then px_wd (h.getD 0 0) (.methodLink own q.1 objectInit) && (px_wd (h.getD 1 0) (.instanceMethod objectInit) && px_wd (h.getD 2 0) (.code objectInit ⟨#[0xb1]⟩ 1 none))
  else if q.2.1 = 8 then px_wd (h.getD 0 0) (.methodLink own q.1 Lib.Math.max.name) && (px_wd (h.getD 1 0) (.static Lib.Math.max.name) && (px_wd (h.getD 2 0) (.initialized "java/lang/Math") && px_wd (h.getD 3 0) (.code Lib.Math.max.name Lib.Math.max.code 2 (some .int))))
  else if q.2.1 = 9 then px_wd (h.getD 0 0) (.methodLink own q.1 Lib.Math.min.name) && (px_wd (h.getD 1 0) (.static Lib.Math.min.name) && (px_wd (h.getD 2 0) (.initialized "java/lang/Math") && px_wd (h.getD 3 0) (.code Lib.Math.min.name Lib.Math.min.code 2 (some .int))))
  else if q.2.1 = 10 then px_wd (h.getD 0 0) (.methodLink own q.1 Lib.Math.abs.name) && (px_wd (h.getD 1 0) (.static Lib.Math.abs.name) && (px_wd (h.getD 2 0) (.initialized "java/lang/Math") && px_wd (h.getD 3 0) (.code Lib.Math.abs.name Lib.Math.abs.code 1 (some .int))))
  else match P[q.2.2]? with
  | none => false
  | some M => if q.2.1 = 0 then px_wd (h.getD 0 0) (.methodLink own q.1 M.1.1) && (px_wd (h.getD 1 0) (.instanceMethod M.1.1) && px_wd (h.getD 2 0) (.selects M.1.1.cls M.1.1 M.1.1))
    else if q.2.1 = 1 then px_wd (h.getD 0 0) (.methodLink own q.1 M.1.1) && px_wd (h.getD 1 0) (.static M.1.1)
    else if q.2.1 = 2 then px_wd (h.getD 0 0) (.methodLink own q.1 M.1.1) && (decide (M.1.1.name = "<init>") && (px_wd (h.getD 1 0) (.instanceMethod M.1.1) && M.1.2.2.2.1.isNone))
    else if q.2.1 = 4 then px_wn (h.getD 0 0) (.methodLinkNest own q.1 M.1.1 "HalfBoats") && px_wd (h.getD 1 0) (.static M.1.1)
    else if q.2.1 = 5 then px_wn (h.getD 0 0) (.methodLinkNest own q.1 M.1.1 "HalfBoats") && (decide (M.1.1.name = "<init>") && (px_wd (h.getD 1 0) (.instanceMethod M.1.1) && M.1.2.2.2.1.isNone))
    else false
theorem px_bC_ok {P : List px_M} {own : String} {q : Nat × Nat × Nat} {h : List Nat} (hb : px_bC P own q h = true) : px_okC px_Ts px_Ns P own q := by
  unfold px_bC at hb
  refine ⟨fun e => ?_, fun e => ?_, fun M hM => ⟨fun e => ?_, fun e => ?_, fun e => ?_, fun e => ?_, fun e => ?_⟩, fun e => ?_, fun e => ?_, fun e => ?_⟩
  · rw [if_pos e] at hb
    simp only [Bool.and_eq_true] at hb
    exact ⟨px_wd_in hb.1, px_wd_in hb.2.1, px_wd_in hb.2.2.1, px_wd_in hb.2.2.2⟩
  · rw [if_neg (by omega), if_pos e] at hb
    simp only [Bool.and_eq_true] at hb
    exact ⟨px_wd_in hb.1, px_wd_in hb.2.1, px_wd_in hb.2.2⟩
  · rw [if_neg (by omega), if_neg (by omega), if_neg (by omega), if_neg (by omega), if_neg (by omega), hM] at hb
    simp only [if_pos e, Bool.and_eq_true] at hb
    exact ⟨px_wd_in hb.1, px_wd_in hb.2.1, px_wd_in hb.2.2⟩
  · rw [if_neg (by omega), if_neg (by omega), if_neg (by omega), if_neg (by omega), if_neg (by omega), hM] at hb
    dsimp only at hb
    rw [if_neg (by omega), if_pos e] at hb
    simp only [Bool.and_eq_true] at hb
    exact ⟨px_wd_in hb.1, px_wd_in hb.2⟩
  · rw [if_neg (by omega), if_neg (by omega), if_neg (by omega), if_neg (by omega), if_neg (by omega), hM] at hb
    dsimp only at hb
    rw [if_neg (by omega), if_neg (by omega), if_pos e] at hb
    simp only [Bool.and_eq_true, decide_eq_true_eq, Option.isNone_iff_eq_none] at hb
    exact ⟨px_wd_in hb.1, hb.2.1, px_wd_in hb.2.2.1, hb.2.2.2⟩
  · rw [if_neg (by omega), if_neg (by omega), if_neg (by omega), if_neg (by omega), if_neg (by omega), hM] at hb
    dsimp only at hb
    rw [if_neg (by omega), if_neg (by omega), if_neg (by omega), if_pos e] at hb
    simp only [Bool.and_eq_true] at hb
    exact ⟨px_wn_in hb.1, px_wd_in hb.2⟩
  · rw [if_neg (by omega), if_neg (by omega), if_neg (by omega), if_neg (by omega), if_neg (by omega), hM] at hb
    dsimp only at hb
    rw [if_neg (by omega), if_neg (by omega), if_neg (by omega), if_neg (by omega), if_pos e] at hb
    simp only [Bool.and_eq_true, decide_eq_true_eq, Option.isNone_iff_eq_none] at hb
    exact ⟨px_wn_in hb.1, hb.2.1, px_wd_in hb.2.2.1, hb.2.2.2⟩
  · rw [if_neg (by omega), if_neg (by omega), if_pos e] at hb
    simp only [Bool.and_eq_true] at hb
    exact ⟨px_wd_in hb.1, px_wd_in hb.2.1, px_wd_in hb.2.2.1, px_wd_in hb.2.2.2⟩
  · rw [if_neg (by omega), if_neg (by omega), if_neg (by omega), if_pos e] at hb
    simp only [Bool.and_eq_true] at hb
    exact ⟨px_wd_in hb.1, px_wd_in hb.2.1, px_wd_in hb.2.2.1, px_wd_in hb.2.2.2⟩
  · rw [if_neg (by omega), if_neg (by omega), if_neg (by omega), if_neg (by omega), if_pos e] at hb
    simp only [Bool.and_eq_true] at hb
    exact ⟨px_wd_in hb.1, px_wd_in hb.2.1, px_wd_in hb.2.2.1, px_wd_in hb.2.2.2⟩
def px_bKl (cl : List vw_C) (own : String) (q : Nat × Nat) (k : Nat) : Bool := match cl[q.2]? with
  | some r => px_wd k (.classLink own q.1 r.1)
  | none => false
def px_bS (own : String) (q : Nat × Nat) (k : Nat) : Bool := if q.2 = 0 then px_wd k (.fieldLink own q.1 "java/lang/String" "COMPACT_STRINGS" "Z") else if q.2 = 1 then px_wd k (.fieldLink own q.1 "jdk/internal/util/Preconditions" "SIOOBE_FORMATTER" "Ljava/util/function/BiFunction;") else false
def px_bX (own : String) (q : Nat × Nat) (k : Nat) : Bool := if q.2 = 0 then px_wd k (.fieldLink own q.1 "java/lang/String" "value" "[B") else if q.2 = 1 then px_wd k (.fieldLink own q.1 "java/lang/String" "coder" "B") else false
def px_bL (cl : List vw_C) (SL : List (String × Nat × Nat)) (P : List px_M) (own : String) (L : px_L) (h : List Nat × List (List Nat) × List Nat × List Nat × List Nat × List Nat × List Nat) : Bool :=
  px_all2 (px_bF cl own) L.1 h.1 && (px_all2 (px_bC P own) L.2.1 h.2.1 && (px_all2 (px_bKl cl own) L.2.2.1 h.2.2.1 && (px_all2 (fun q k => px_wd k (.constant own q.1 q.2)) L.2.2.2.1 h.2.2.2.1 && (px_all2 (fun q k => px_wd k (.constantLong own q.1 q.2)) L.2.2.2.2.1 h.2.2.2.2.1 && (L.2.2.2.2.2.1.all (fun q => decide ((own, q.1, q.2) ∈ SL)) && (px_all2 (px_bS own) L.2.2.2.2.2.2.1 h.2.2.2.2.2.1 && px_all2 (px_bX own) L.2.2.2.2.2.2.2 h.2.2.2.2.2.2))))))
theorem px_bL_ok {cl : List vw_C} {SL : List (String × Nat × Nat)} {P : List px_M} {own : String} {L : px_L} {h : List Nat × List (List Nat) × List Nat × List Nat × List Nat × List Nat × List Nat} (hb : px_bL cl SL P own L h = true) : px_okL px_Ts px_Ns cl SL P own L := by
  unfold px_bL at hb
  simp only [Bool.and_eq_true] at hb
  obtain ⟨h1, h2, h3, h4, h5, h6, h7, h8⟩ := hb
  refine ⟨fun q hq => ?_, fun q hq => ?_, fun q hq => ?_, fun q hq => ?_, fun q hq => ?_, fun q hq => ?_, fun q hq => ?_, fun q hq => ?_⟩
  · obtain ⟨k, hk⟩ := px_all2_mem h1 q hq
    unfold px_bF at hk
    split at hk
    · rename_i r hr
      simp only [Bool.and_eq_true, decide_eq_true_eq] at hk
      exact ⟨r, hr, hk.1, px_wd_in hk.2⟩
    · cases hk
  · obtain ⟨k, hk⟩ := px_all2_mem h2 q hq
    exact px_bC_ok hk
  · obtain ⟨k, hk⟩ := px_all2_mem h3 q hq
    unfold px_bKl at hk
    split at hk
    · rename_i r hr
      exact ⟨r, hr, px_wd_in hk⟩
    · cases hk
  · obtain ⟨k, hk⟩ := px_all2_mem h4 q hq
    exact px_wd_in hk
  · obtain ⟨k, hk⟩ := px_all2_mem h5 q hq
    exact px_wd_in hk
  · exact of_decide_eq_true (List.all_eq_true.mp h6 q hq)
  · obtain ⟨k, hk⟩ := px_all2_mem h7 q hq
    unfold px_bS at hk
    refine ⟨fun e => ?_, fun e => ?_⟩
    · rw [if_pos e] at hk; exact px_wd_in hk
    · rw [if_neg (by omega), if_pos e] at hk; exact px_wd_in hk
  · obtain ⟨k, hk⟩ := px_all2_mem h8 q hq
    unfold px_bX at hk
    refine ⟨fun e => ?_, fun e => ?_⟩
    · rw [if_pos e] at hk; exact px_wd_in hk
    · rw [if_neg (by omega), if_pos e] at hk; exact px_wd_in hk
theorem px_code_in {k : Nat} {y : MethodName} {cc : ByteArray} {mx : Nat} {rt : Option FieldType} (h : lw_tbl[k]? = some (Cond.code y cc mx rt)) : Cond.code y cc mx rt ∈ px_Ts := List.mem_filter.mpr ⟨List.mem_of_getElem? h, rfl⟩
def px_bM (h : px_Hd) (ki : Nat) : Bool := plainName h.1.cls && (px_wd ki (.initialized h.1.cls) && (decide (h.1.cls ≠ "java/lang/invoke/MethodHandle") && (decide (h.1.cls ≠ "java/lang/invoke/VarHandle") && (decide ((parseMethodDescriptor h.1.desc).map (fun d => d.parameters.length) = some h.2.2.2.2) && decide (h.2.2.1 ≤ 64)))))
theorem px_bM_ok {h : px_Hd} {k ki : Nat} (hw : lw_tbl[k]? = some (Cond.code h.1 h.2.1 h.2.2.1 h.2.2.2.1)) (hb : px_bM h ki = true) : Cond.code h.1 h.2.1 h.2.2.1 h.2.2.2.1 ∈ px_Ts ∧ plainName h.1.cls = true ∧ Cond.initialized h.1.cls ∈ px_Ts ∧ (h.1.cls ≠ "java/lang/invoke/MethodHandle" ∧ h.1.cls ≠ "java/lang/invoke/VarHandle" ∧ (parseMethodDescriptor h.1.desc).map (fun d => d.parameters.length) = some h.2.2.2.2) ∧ h.2.2.1 ≤ 64 := by
  unfold px_bM at hb
  simp only [Bool.and_eq_true, decide_eq_true_eq] at hb
  exact ⟨px_code_in hw, hb.1, px_wd_in hb.2.1, ⟨hb.2.2.1, hb.2.2.2.1, hb.2.2.2.2.1⟩, hb.2.2.2.2.2⟩
end
section
/-! THE TABLES OF THIS PROGRAM, by program (wip/gen/gen.py) -/
def hb_F0 : List (String × String × String × Bool) := [("HalfBoats$Acts", "traced", "I", false), ("HalfBoats$Acts", "bodies", "[I", true), ("HalfBoats$Acts", "parted", "Z", false), ("HalfBoats$Acts", "kind", "I", false), ("HalfBoats$Acts", "n", "I", false), ("HalfBoats$Acts", "a", "I", false)]
def hb_F1 : List (String × String × String × Bool) := [("HalfBoats$Crowd", "ways", "I", false), ("HalfBoats$Crowd", "wayA", "[I", true), ("HalfBoats$Crowd", "wayB", "[I", true), ("HalfBoats$Crowd", "wayMinutes", "[I", true), ("HalfBoats$Crowd", "wayTill", "[I", true), ("HalfBoats$Crowd", "groups", "I", false), ("HalfBoats$Crowd", "persons", "[I", true), ("HalfBoats$Crowd", "kind", "[I", true), ("HalfBoats$Crowd", "groupPlace", "[I", true), ("HalfBoats$Crowd", "told", "[I", true), ("HalfBoats$Crowd", "boats", "I", false), ("HalfBoats$Crowd", "seats", "[I", true), ("HalfBoats$Crowd", "boatPlace", "[I", true), ("HalfBoats$Crowd", "lowered", "[I", true), ("HalfBoats$Crowd", "reading", "[I", true), ("HalfBoats$Crowd", "arrival", "[I", true)]
def hb_F2 : List (String × String × String × Bool) := [("HalfBoats$Host", "sort", "[I", true), ("HalfBoats$Host", "held", "[I", true), ("HalfBoats$Host", "heldNumber", "[I", true), ("HalfBoats$Host", "heldSort", "[I", true), ("HalfBoats$Host", "size", "[I", true), ("HalfBoats$Host", "items", "[J", true)]
def hb_F3 : List (String × String × String × Bool) := [("HalfBoats$Hull", "now", "I", false), ("HalfBoats$Hull", "sunkAt", "I", false), ("HalfBoats$Hull", "room", "[I", true), ("HalfBoats$Hull", "water", "[I", true), ("HalfBoats$Hull", "hole", "[I", true), ("HalfBoats$Hull", "pump", "[I", true), ("HalfBoats$Hull", "height", "[I", true), ("HalfBoats$Hull", "open", "[I", true), ("HalfBoats$Hull", "allWater", "I", false), ("HalfBoats$Hull", "tilt", "I", false), ("HalfBoats$Hull", "level", "[I", true), ("HalfBoats$Hull", "gain", "[I", true)]
def hb_F4 : List (String × String × String × Bool) := [("HalfBoats$Passage", "legs", "I", false), ("HalfBoats$Passage", "bestRisk", "I", false), ("HalfBoats$Passage", "bestMinutes", "I", false), ("HalfBoats$Passage", "bestSpeed", "[I", true), ("HalfBoats$Passage", "miles", "[I", true), ("HalfBoats$Passage", "ice", "[I", true), ("HalfBoats$Passage", "speed", "[I", true), ("HalfBoats$Passage", "fewest", "[I", true), ("HalfBoats$Passage", "least", "[I", true), ("HalfBoats$Passage", "found", "Z", false), ("HalfBoats$Passage", "limit", "I", false)]
def hb_F5 : List (String × String × String × Bool) := [("HalfBoats$Reader", "size", "I", false), ("HalfBoats$Reader", "tape", "[I", true), ("HalfBoats$Reader", "token", "[I", true), ("HalfBoats$Reader", "begin", "[I", true), ("HalfBoats$Reader", "value", "[I", true), ("HalfBoats$Reader", "tokens", "I", false), ("HalfBoats$Reader", "at", "I", false), ("HalfBoats$Reader", "fault", "I", false)]
def hb_F6 : List (String × String × String × Bool) := [("HalfBoats$Rules", "count", "I", false), ("HalfBoats$Rules", "from", "[I", true), ("HalfBoats$Rules", "lines", "[I", true), ("HalfBoats$Rules", "sort", "[I", true), ("HalfBoats$Rules", "one", "[I", true), ("HalfBoats$Rules", "two", "[I", true), ("HalfBoats$Rules", "step", "[I", true), ("HalfBoats$Rules", "steps", "[I", true)]
def hb_F7 : List (String × String × String × Bool) := [("HalfBoats$Sea", "readyIn", "I", false), ("HalfBoats$Sea", "ships", "I", false), ("HalfBoats$Sea", "far", "[I", true), ("HalfBoats$Sea", "speed", "[I", true), ("HalfBoats$Sea", "earsFrom", "[I", true), ("HalfBoats$Sea", "earsTo", "[I", true), ("HalfBoats$Sea", "range", "[I", true), ("HalfBoats$Sea", "calls", "I", false), ("HalfBoats$Sea", "callMinute", "[I", true), ("HalfBoats$Sea", "lights", "I", false), ("HalfBoats$Sea", "lightMinute", "[I", true), ("HalfBoats$Sea", "lightFrom", "[I", true), ("HalfBoats$Sea", "lightTo", "[I", true)]
def hb_F8 : List (String × String × String × Bool) := [("HalfBoats$Seating", "rows", "I", false), ("HalfBoats$Seating", "row", "[I", true), ("HalfBoats$Seating", "boatsFor", "[I", true), ("HalfBoats$Seating", "best", "I", false), ("HalfBoats$Seating", "bestOrder", "[I", true), ("HalfBoats$Seating", "groups", "I", false), ("HalfBoats$Seating", "boats", "I", false), ("HalfBoats$Seating", "persons", "[I", true), ("HalfBoats$Seating", "seats", "[I", true), ("HalfBoats$Seating", "lowered", "[I", true), ("HalfBoats$Seating", "earliest", "[I", true), ("HalfBoats$Seating", "seatSum", "[I", true), ("HalfBoats$Seating", "cut", "[I", true), ("HalfBoats$Seating", "picked", "[I", true), ("HalfBoats$Seating", "ordered", "I", false), ("HalfBoats$Seating", "start", "I", false), ("HalfBoats$Seating", "labour", "I", false)]
def hb_F9 : List (String × String × String × Bool) := [("HalfBoats$Soundings", "count", "I", false), ("HalfBoats$Soundings", "holes", "I", false), ("HalfBoats$Soundings", "rate", "I", false), ("HalfBoats$Soundings", "known", "Z", false), ("HalfBoats$Soundings", "cell", "[I", true), ("HalfBoats$Soundings", "minute", "[I", true), ("HalfBoats$Soundings", "from", "[I", true), ("HalfBoats$Soundings", "to", "[I", true)]
def hb_F10 : List (String × String × String × Bool) := [("HalfBoats$Words", "lists", "[I", true), ("HalfBoats$Words", "count", "I", false), ("HalfBoats$Words", "leans", "[I", true), ("HalfBoats$Words", "back", "[I", true), ("HalfBoats$Words", "known", "[I", true)]
def hb_F11 : List (String × String × String × Bool) := [("HalfBoats", "hull", "LHalfBoats$Hull;", true), ("HalfBoats", "soundings", "LHalfBoats$Soundings;", true), ("HalfBoats", "crowd", "LHalfBoats$Crowd;", true), ("HalfBoats", "sea", "LHalfBoats$Sea;", true), ("HalfBoats", "words", "LHalfBoats$Words;", true), ("HalfBoats", "rules", "LHalfBoats$Rules;", true), ("HalfBoats", "passage", "LHalfBoats$Passage;", true), ("HalfBoats", "keptHull", "LHalfBoats$Hull;", true), ("HalfBoats", "keptSoundings", "LHalfBoats$Soundings;", true), ("HalfBoats", "keptCrowd", "LHalfBoats$Crowd;", true), ("HalfBoats", "keptSea", "LHalfBoats$Sea;", true), ("HalfBoats", "keptWords", "LHalfBoats$Words;", true), ("HalfBoats", "keptRules", "LHalfBoats$Rules;", true), ("HalfBoats", "keptPassage", "LHalfBoats$Passage;", true), ("HalfBoats", "isKept", "Z", false), ("HalfBoats", "trial", "LHalfBoats$Hull;", true), ("HalfBoats", "seating", "LHalfBoats$Seating;", true), ("HalfBoats", "reader", "LHalfBoats$Reader;", true), ("HalfBoats", "host", "LHalfBoats$Host;", true), ("HalfBoats", "acts", "LHalfBoats$Acts;", true)]
def hb_F12 : List (String × String × String × Bool) := [("HalfBoatsModel", "d", "[I", true), ("HalfBoatsModel", "keptRow", "[I", true), ("HalfBoatsModel", "hasKept", "Z", false), ("HalfBoatsModel", "tape", "[I", true), ("HalfBoatsModel", "taped", "I", false), ("HalfBoatsModel", "water", "[I", true), ("HalfBoatsModel", "hole", "[I", true), ("HalfBoatsModel", "height", "[I", true), ("HalfBoatsModel", "flow", "[I", true), ("HalfBoatsModel", "depth", "I", false), ("HalfBoatsModel", "tilt", "I", false), ("HalfBoatsModel", "bestCells", "I", false), ("HalfBoatsModel", "bestRate", "I", false), ("HalfBoatsModel", "when", "[I", true), ("HalfBoatsModel", "lowered", "[I", true), ("HalfBoatsModel", "can", "[I", true), ("HalfBoatsModel", "persons", "[I", true), ("HalfBoatsModel", "seats", "[I", true), ("HalfBoatsModel", "rows", "[I", true), ("HalfBoatsModel", "rowMany", "I", false), ("HalfBoatsModel", "listed", "[I", true), ("HalfBoatsModel", "trial", "[I", true), ("HalfBoatsModel", "best", "[I", true), ("HalfBoatsModel", "letters", "[I", true), ("HalfBoatsModel", "from", "I", false), ("HalfBoatsModel", "size", "I", false), ("HalfBoatsModel", "at", "I", false), ("HalfBoatsModel", "begin", "I", false), ("HalfBoatsModel", "token", "I", false), ("HalfBoatsModel", "tokenTells", "I", false), ("HalfBoatsModel", "fault", "I", false), ("HalfBoatsModel", "open", "I", false), ("HalfBoatsModel", "isHeard", "Z", false), ("HalfBoatsModel", "named", "[I", true), ("HalfBoatsModel", "sorts", "[I", true), ("HalfBoatsModel", "lines", "I", false), ("HalfBoatsModel", "seatsA", "I", false), ("HalfBoatsModel", "seatsB", "I", false), ("HalfBoatsModel", "ranks", "[I", true), ("HalfBoatsModel", "doesCome", "Z", false), ("HalfBoatsModel", "sheetRow", "[I", true), ("HalfBoatsModel", "rowSort", "[I", true), ("HalfBoatsModel", "rowSize", "[I", true), ("HalfBoatsModel", "items", "[I", true), ("HalfBoatsModel", "shelfHas", "[I", true), ("HalfBoatsModel", "shelfOf", "[I", true), ("HalfBoatsModel", "trace", "[I", true), ("HalfBoatsModel", "traces", "I", false), ("HalfBoatsModel", "kindNow", "I", false), ("HalfBoatsModel", "nNow", "I", false), ("HalfBoatsModel", "aNow", "I", false), ("HalfBoatsModel", "broke", "Z", false)]
def hb_cl : List vw_C := [("HalfBoats$Acts", px_T hb_F0, 6), ("HalfBoats$Crowd", px_T hb_F1, 16), ("HalfBoats$Host", px_T hb_F2, 6), ("HalfBoats$Hull", px_T hb_F3, 12), ("HalfBoats$Passage", px_T hb_F4, 11), ("HalfBoats$Reader", px_T hb_F5, 8), ("HalfBoats$Rules", px_T hb_F6, 8), ("HalfBoats$Sea", px_T hb_F7, 13), ("HalfBoats$Seating", px_T hb_F8, 17), ("HalfBoats$Soundings", px_T hb_F9, 8), ("HalfBoats$Words", px_T hb_F10, 5), ("HalfBoats", px_T hb_F11, 20), ("HalfBoatsModel", px_T hb_F12, 52)]
def hb_lt : List (List Int32) := [[105, 102], [111, 114], [102, 111, 114], [109, 101, 110], [97, 110, 100], [110, 111, 116], [102, 97, 114], [99, 111, 109, 101], [116, 104, 101, 110], [115, 101, 97, 116, 115], [102, 105, 114, 115, 116], [119, 111, 109, 101, 110], [104, 101, 97, 114, 100], [115, 112, 101, 101, 100], [109, 105, 110, 117, 116, 101], [99, 104, 105, 108, 100, 114, 101, 110]]
def hb_SL : List (String × Nat × Nat) := [("HalfBoats$Reader", 77, 0), ("HalfBoats$Reader", 83, 1), ("HalfBoats$Reader", 85, 2), ("HalfBoats$Reader", 87, 3), ("HalfBoats$Reader", 89, 4), ("HalfBoats$Reader", 91, 5), ("HalfBoats$Reader", 93, 6), ("HalfBoats$Reader", 95, 7), ("HalfBoats$Reader", 97, 8), ("HalfBoats$Reader", 99, 9), ("HalfBoats$Reader", 101, 10), ("HalfBoats$Reader", 103, 11), ("HalfBoats$Reader", 105, 12), ("HalfBoats$Reader", 107, 13), ("HalfBoats$Reader", 109, 14), ("HalfBoats$Reader", 111, 15)]
def hb_L0 : px_L := ([(7, 0, 0), (13, 0, 1), (17, 0, 2), (21, 0, 3), (24, 0, 4), (27, 0, 5)], [(1, 7, 0), (30, 0, 4), (34, 0, 9), (38, 0, 5), (41, 0, 10), (44, 0, 11), (47, 0, 6)], [], [], [], [], [], [])
def hb_L1 : px_L := ([(7, 1, 0), (13, 1, 1), (17, 1, 2), (20, 1, 3), (23, 1, 4), (26, 1, 5), (29, 1, 6), (32, 1, 7), (35, 1, 8), (38, 1, 9), (41, 1, 10), (44, 1, 11), (47, 1, 12), (50, 1, 13), (53, 1, 14), (56, 1, 15)], [(1, 7, 0), (59, 4, 176), (66, 0, 21), (70, 8, 0)], [], [(65, 1000000)], [], [], [], [])
def hb_L2 : px_L := ([(11, 2, 0), (15, 2, 1), (18, 2, 2), (21, 2, 3), (24, 2, 4), (27, 2, 5)], [(3, 7, 0), (31, 1, 29)], [], [], [], [], [], [])
def hb_L3 : px_L := ([(9, 3, 0), (15, 3, 1), (18, 3, 2), (22, 3, 3), (25, 3, 4), (28, 3, 5), (31, 3, 6), (34, 3, 7), (37, 3, 8), (40, 3, 9), (43, 3, 10), (46, 3, 11)], [(3, 7, 0), (49, 4, 176), (53, 0, 40), (56, 4, 173), (60, 9, 0), (66, 8, 0), (69, 0, 41), (72, 0, 43), (76, 0, 37), (80, 0, 36), (83, 0, 42)], [], [], [], [], [], [])
def hb_L4 : px_L := ([(7, 4, 0), (13, 4, 1), (16, 4, 2), (19, 4, 3), (23, 4, 4), (26, 4, 5), (29, 4, 6), (32, 4, 7), (35, 4, 8), (38, 4, 9), (42, 4, 10)], [(1, 7, 0), (45, 4, 176), (51, 0, 48), (55, 0, 49), (58, 0, 50)], [], [], [], [], [], [])
def hb_L5 : px_L := ([(7, 5, 0), (13, 5, 1), (17, 5, 2), (20, 5, 3), (23, 5, 4), (26, 5, 5), (29, 5, 6), (32, 5, 7)], [(1, 7, 0), (37, 0, 54), (40, 0, 74), (45, 0, 64), (49, 0, 65), (52, 0, 66), (55, 0, 61), (59, 1, 56), (63, 0, 59), (67, 0, 55), (71, 1, 57), (74, 0, 58), (79, 0, 60), (113, 0, 295), (119, 0, 296), (123, 0, 63), (127, 0, 62), (130, 0, 77), (133, 4, 173), (139, 0, 75), (142, 0, 67), (146, 0, 68), (149, 0, 76), (153, 0, 69), (156, 0, 70), (159, 0, 71)], [], [], [(35, 255)], [(77, 0), (83, 1), (85, 2), (87, 3), (89, 4), (91, 5), (93, 6), (95, 7), (97, 8), (99, 9), (101, 10), (103, 11), (105, 12), (107, 13), (109, 14), (111, 15)], [], [])
def hb_L6 : px_L := ([(11, 6, 0), (15, 6, 1), (19, 6, 2), (22, 6, 3), (25, 6, 4), (28, 6, 5), (31, 6, 6), (34, 6, 7), (62, 7, 2), (65, 7, 3)], [(5, 7, 0), (37, 4, 176), (41, 0, 83), (45, 0, 82), (49, 0, 84), (53, 1, 85), (57, 0, 93)], [], [], [], [], [], [])
def hb_L7 : px_L := ([(9, 7, 0), (15, 7, 1), (18, 7, 2), (22, 7, 3), (25, 7, 4), (28, 7, 5), (31, 7, 6), (34, 7, 7), (37, 7, 8), (40, 7, 9), (43, 7, 10), (46, 7, 11), (49, 7, 12)], [(3, 7, 0), (52, 4, 176), (56, 10, 0), (62, 0, 92), (66, 4, 173), (70, 0, 93), (73, 0, 96), (77, 8, 0)], [], [], [], [], [], [])
def hb_L8 : px_L := ([(7, 8, 0), (15, 8, 1), (19, 8, 2), (22, 8, 3), (25, 8, 4), (28, 8, 5), (31, 8, 6), (34, 8, 7), (37, 8, 8), (40, 8, 9), (43, 8, 10), (46, 8, 11), (49, 8, 12), (52, 8, 13), (55, 8, 14), (58, 8, 15), (61, 8, 16), (64, 1, 5), (65, 1, 10), (66, 1, 6), (73, 1, 11), (74, 1, 13), (79, 1, 14), (82, 1, 7), (85, 1, 15), (88, 1, 12)], [(1, 7, 0), (67, 4, 176), (75, 0, 20), (92, 0, 99), (95, 9, 0), (101, 0, 100), (105, 0, 102), (109, 0, 103), (113, 0, 105), (117, 4, 173), (121, 1, 294), (127, 0, 107), (131, 4, 175)], [], [(91, 1000000)], [], [], [], [])
def hb_L9 : px_L := ([(9, 9, 0), (15, 9, 1), (18, 9, 2), (21, 9, 3), (25, 9, 4), (29, 9, 5), (32, 9, 6), (35, 9, 7), (66, 3, 3)], [(3, 7, 0), (38, 4, 176), (42, 0, 32), (48, 1, 294), (54, 0, 113), (58, 0, 35), (62, 0, 39), (69, 4, 173)], [], [], [], [], [], [])
def hb_L10 : px_L := ([(7, 10, 0), (13, 10, 1), (17, 10, 2), (20, 10, 3), (23, 10, 4)], [(1, 7, 0), (26, 4, 176), (32, 0, 116)], [], [], [], [], [], [])
def hb_L11 : px_L := ([(10, 11, 0), (19, 11, 1), (26, 11, 2), (33, 11, 3), (40, 11, 4), (47, 11, 5), (54, 11, 6), (58, 11, 7), (61, 11, 8), (64, 11, 9), (67, 11, 10), (70, 11, 11), (73, 11, 12), (76, 11, 13), (79, 11, 14), (83, 11, 15), (89, 11, 16), (96, 11, 17), (103, 11, 18), (110, 11, 19), (118, 3, 0), (137, 3, 6), (141, 3, 7), (144, 3, 3), (154, 3, 1), (161, 9, 0), (172, 9, 1), (175, 9, 2), (185, 1, 0), (191, 1, 5), (201, 1, 15), (205, 1, 10), (215, 8, 2), (225, 8, 0), (228, 8, 1), (243, 8, 3), (246, 8, 4), (250, 7, 1), (256, 7, 0), (259, 7, 7), (271, 7, 9), (284, 10, 0), (293, 10, 1), (297, 10, 3), (303, 5, 0), (314, 6, 0), (318, 6, 2), (321, 6, 1), (324, 6, 3), (348, 4, 0), (355, 4, 1), (358, 4, 2), (361, 4, 3), (370, 2, 0), (398, 2, 2), (404, 2, 1), (416, 0, 0), (419, 0, 1), (422, 3, 8), (454, 2, 3), (457, 1, 14), (469, 0, 2), (475, 3, 2), (478, 1, 11), (481, 7, 8), (484, 7, 10), (487, 10, 2)], [(1, 7, 0), (9, 2, 31), (18, 5, 108), (25, 5, 12), (32, 5, 86), (39, 5, 114), (46, 5, 72), (53, 5, 44), (88, 5, 97), (95, 5, 51), (102, 2, 22), (109, 5, 0), (114, 1, 173), (122, 0, 39), (126, 1, 33), (130, 0, 110), (133, 0, 34), (147, 0, 36), (151, 0, 37), (157, 0, 32), (164, 0, 111), (168, 0, 112), (178, 1, 13), (182, 1, 174), (188, 0, 15), (194, 0, 16), (197, 0, 20), (208, 0, 17), (211, 0, 98), (218, 0, 100), (222, 0, 101), (231, 0, 104), (234, 1, 294), (239, 0, 106), (253, 0, 88), (262, 0, 89), (265, 0, 91), (268, 0, 94), (274, 0, 90), (277, 0, 95), (280, 1, 175), (287, 0, 116), (290, 0, 117), (294, 0, 118), (300, 0, 119), (306, 0, 52), (310, 0, 53), (315, 0, 78), (327, 0, 38), (330, 0, 79), (333, 0, 18), (336, 8, 0), (341, 0, 80), (344, 0, 81), (351, 0, 46), (352, 0, 47), (364, 1, 23), (367, 0, 24), (371, 0, 25), (374, 0, 27), (377, 0, 26), (380, 0, 28), (383, 0, 128), (386, 0, 177), (389, 0, 30), (392, 0, 178), (395, 1, 1), (401, 0, 2), (407, 0, 180), (410, 0, 3), (413, 0, 179), (425, 0, 19), (428, 0, 109), (431, 0, 14), (433, 0, 87), (436, 0, 115), (439, 0, 73), (442, 0, 45), (445, 9, 0), (448, 6, 0), (460, 0, 5), (463, 0, 6), (466, 0, 7), (472, 0, 8)], [(7, 3), (16, 9), (23, 1), (30, 7), (37, 10), (44, 6), (51, 4), (86, 8), (93, 5), (100, 2), (107, 0)], [(204, 1000000), (249, 999999), (283, 1073741823)], [], [], [], [])
def hb_L12 : px_L := ([(7, 12, 0), (13, 12, 1), (16, 12, 3), (19, 12, 5), (22, 12, 6), (25, 12, 7), (28, 12, 8), (31, 12, 13), (34, 12, 14), (37, 12, 15), (40, 12, 16), (43, 12, 17), (46, 12, 18), (49, 12, 20), (52, 12, 21), (55, 12, 22), (58, 12, 23), (61, 12, 33), (64, 12, 34), (67, 12, 38), (70, 12, 40), (73, 12, 41), (76, 12, 42), (79, 12, 43), (82, 12, 44), (85, 12, 45), (88, 12, 46), (95, 12, 9), (99, 12, 10), (140, 12, 11), (143, 12, 12), (177, 12, 19), (215, 12, 4), (220, 12, 25), (223, 12, 24), (226, 12, 26), (232, 12, 27), (235, 12, 28), (238, 12, 29), (244, 12, 30), (256, 12, 31), (262, 12, 32), (275, 12, 36), (281, 12, 37), (287, 12, 39), (290, 12, 35), (321, 12, 47), (327, 12, 50), (330, 12, 48), (339, 12, 49), (345, 12, 51), (363, 12, 2)], [(1, 7, 0), (91, 1, 182), (102, 1, 185), (106, 0, 187), (109, 0, 188), (113, 0, 189), (116, 0, 186), (119, 0, 190), (123, 1, 184), (127, 1, 193), (130, 0, 201), (133, 1, 200), (136, 0, 202), (146, 0, 203), (149, 1, 205), (152, 1, 183), (156, 0, 210), (160, 0, 208), (163, 0, 209), (167, 0, 214), (170, 0, 215), (173, 0, 217), (180, 0, 219), (183, 0, 221), (186, 0, 213), (189, 0, 225), (194, 0, 229), (197, 0, 232), (200, 0, 228), (203, 0, 234), (206, 0, 237), (209, 0, 238), (212, 0, 244), (229, 0, 248), (241, 0, 250), (247, 0, 252), (250, 0, 249), (253, 0, 251), (259, 0, 257), (266, 0, 254), (269, 0, 255), (272, 0, 256), (278, 0, 253), (284, 0, 258), (293, 0, 259), (296, 0, 260), (299, 0, 263), (302, 0, 264), (305, 1, 270), (308, 1, 271), (311, 0, 272), (314, 0, 199), (318, 0, 278), (324, 0, 280), (333, 0, 281), (336, 0, 282), (342, 0, 283), (348, 0, 285), (351, 0, 284), (354, 0, 287), (357, 0, 286), (360, 0, 288)], [], [(155, 1000000), (193, 999999)], [(218, 255)], [], [], [])
def hb_L13 : px_L := ([], [], [], [(265, 1431655765), (266, 858993459), (267, 252645135)], [], [], [], [])
def hb_L14 : px_L := ([], [(335, 0, 297), (492, 0, 298), (495, 1, 300), (1059, 1, 301)], [], [], [], [], [(38, 0), (1053, 1)], [(9, 0), (15, 1)])
def hb_L15 : px_L := ([], [(9, 1, 299)], [], [], [], [], [], [])
def hb_L16 : px_L := ([], [], [], [], [], [], [], [])
def hb_L17 : px_L := ([], [(9, 2, 120), (12, 2, 181), (13, 0, 121), (17, 0, 191), (18, 0, 122), (22, 0, 192), (23, 0, 123), (27, 0, 194), (28, 0, 124), (32, 0, 195), (33, 0, 125), (36, 0, 196), (37, 0, 126), (41, 0, 197), (42, 0, 127), (45, 0, 198), (46, 0, 128), (50, 0, 199), (51, 0, 129), (54, 0, 204), (55, 0, 130), (58, 0, 206), (59, 0, 131), (62, 0, 207), (63, 0, 132), (66, 0, 211), (67, 0, 133), (70, 0, 212), (71, 0, 134), (74, 0, 216), (75, 0, 135), (78, 0, 218), (79, 0, 136), (82, 0, 220), (83, 0, 137), (86, 0, 222), (87, 0, 138), (90, 0, 223), (91, 0, 139), (94, 0, 224), (95, 0, 140), (98, 0, 226), (99, 0, 141), (102, 0, 227), (103, 0, 142), (106, 0, 230), (107, 0, 143), (110, 0, 231), (111, 0, 144), (114, 0, 233), (115, 0, 145), (118, 0, 235), (119, 0, 146), (122, 0, 236), (123, 0, 147), (126, 0, 239), (127, 0, 148), (130, 0, 240), (131, 0, 149), (134, 0, 241), (135, 0, 150), (138, 0, 242), (139, 0, 151), (142, 0, 243), (143, 0, 152), (146, 0, 245), (147, 0, 153), (150, 0, 246), (153, 0, 154), (157, 0, 247), (158, 0, 155), (161, 0, 261), (162, 0, 156), (165, 0, 262), (166, 0, 157), (169, 0, 265), (170, 0, 158), (173, 0, 266), (174, 0, 159), (177, 0, 267), (178, 0, 160), (181, 0, 268), (182, 0, 161), (185, 0, 269), (186, 0, 162), (189, 0, 273), (190, 0, 163), (193, 0, 274), (194, 0, 164), (197, 0, 275), (198, 0, 165), (202, 0, 276), (203, 0, 166), (206, 0, 277), (207, 0, 167), (210, 0, 279), (211, 0, 168), (214, 0, 289), (215, 0, 169), (218, 0, 290), (219, 0, 170), (222, 0, 291), (223, 0, 171), (226, 0, 292), (227, 0, 172), (230, 0, 293)], [(7, 11), (10, 12)], [], [(151, 4294967295)], [], [], [])
def hb_h0 : px_Hd := (⟨"HalfBoats$Acts", "<init>", "()V"⟩, prog_2_method_1_code, 1, none, 0)
def hb_h1 : px_Hd := (⟨"HalfBoats$Acts", "isUnder", "(II)Z"⟩, prog_2_method_2_code, 2, (some .boolean), 2)
def hb_h2 : px_Hd := (⟨"HalfBoats$Acts", "clearTrace", "()V"⟩, prog_2_method_3_code, 1, none, 0)
def hb_h3 : px_Hd := (⟨"HalfBoats$Acts", "become", "(III)V"⟩, prog_2_method_4_code, 4, none, 3)
def hb_h4 : px_Hd := (⟨"HalfBoats$Acts", "begin", "(I)V"⟩, prog_2_method_5_code, 2, none, 1)
def hb_h5 : px_Hd := (⟨"HalfBoats$Acts", "fills", "(I)I"⟩, prog_2_method_6_code, 3, (some .int), 1)
def hb_h6 : px_Hd := (⟨"HalfBoats$Acts", "carries", "(I)I"⟩, prog_2_method_7_code, 3, (some .int), 1)
def hb_h7 : px_Hd := (⟨"HalfBoats$Acts", "fits", "(I)I"⟩, prog_2_method_8_code, 3, (some .int), 1)
def hb_h8 : px_Hd := (⟨"HalfBoats$Acts", "tells", "(I)I"⟩, prog_2_method_9_code, 3, (some .int), 1)
def hb_h9 : px_Hd := (⟨"HalfBoats$Acts", "thingCarries", "(I)I"⟩, prog_2_method_10_code, 2, (some .int), 1)
def hb_h10 : px_Hd := (⟨"HalfBoats$Acts", "thingFits", "(I)I"⟩, prog_2_method_11_code, 3, (some .int), 1)
def hb_h11 : px_Hd := (⟨"HalfBoats$Acts", "thingTells", "(I)I"⟩, prog_2_method_12_code, 2, (some .int), 1)
def hb_h12 : px_Hd := (⟨"HalfBoats$Crowd", "<init>", "()V"⟩, prog_3_method_1_code, 1, none, 0)
def hb_h13 : px_Hd := (⟨"HalfBoats$Crowd", "isPlace", "(I)Z"⟩, prog_3_method_2_code, 1, (some .boolean), 1)
def hb_h14 : px_Hd := (⟨"HalfBoats$Crowd", "copyFrom", "(LHalfBoats$Crowd;)V"⟩, prog_3_method_3_code, 2, none, 1)
def hb_h15 : px_Hd := (⟨"HalfBoats$Crowd", "addWay", "(IIII)I"⟩, prog_3_method_4_code, 5, (some .int), 4)
def hb_h16 : px_Hd := (⟨"HalfBoats$Crowd", "addGroup", "(IIII)I"⟩, prog_3_method_5_code, 5, (some .int), 4)
def hb_h17 : px_Hd := (⟨"HalfBoats$Crowd", "addBoat", "(IIII)I"⟩, prog_3_method_6_code, 5, (some .int), 4)
def hb_h18 : px_Hd := (⟨"HalfBoats$Crowd", "allSeats", "()I"⟩, prog_3_method_7_code, 3, (some .int), 0)
def hb_h19 : px_Hd := (⟨"HalfBoats$Crowd", "allPersons", "()I"⟩, prog_3_method_8_code, 3, (some .int), 0)
def hb_h20 : px_Hd := (⟨"HalfBoats$Crowd", "spread", "(I)V"⟩, prog_3_method_9_code, 7, none, 1)
def hb_h21 : px_Hd := (⟨"HalfBoats$Crowd", "walk", "(III)Z"⟩, prog_3_method_10_code, 5, (some .boolean), 3)
def hb_h22 : px_Hd := (⟨"HalfBoats$Host", "<init>", "()V"⟩, prog_4_method_1_code, 2, none, 0)
def hb_h23 : px_Hd := (⟨"HalfBoats$Host", "isOne", "(I)Z"⟩, prog_4_method_2_code, 1, (some .boolean), 1)
def hb_h24 : px_Hd := (⟨"HalfBoats$Host", "lay", "(III)V"⟩, prog_4_method_3_code, 5, none, 3)
def hb_h25 : px_Hd := (⟨"HalfBoats$Host", "hasItem", "(II)Z"⟩, prog_4_method_4_code, 3, (some .boolean), 2)
def hb_h26 : px_Hd := (⟨"HalfBoats$Host", "refuseRow", "(II)I"⟩, prog_4_method_5_code, 3, (some .int), 2)
def hb_h27 : px_Hd := (⟨"HalfBoats$Host", "write", "(III)V"⟩, prog_4_method_6_code, 4, none, 3)
def hb_h28 : px_Hd := (⟨"HalfBoats$Host", "itemAt", "(II)I"⟩, prog_4_method_7_code, 3, (some .int), 2)
def hb_h29 : px_Hd := (⟨"HalfBoats$Host", "narrowed", "(II)J"⟩, prog_4_method_8_code, 2, (some .long), 2)
def hb_h30 : px_Hd := (⟨"HalfBoats$Host", "place", "(III)V"⟩, prog_4_method_9_code, 5, none, 3)
def hb_h31 : px_Hd := (⟨"HalfBoats$Hull", "<init>", "()V"⟩, prog_5_method_1_code, 2, none, 0)
def hb_h32 : px_Hd := (⟨"HalfBoats$Hull", "copyFrom", "(LHalfBoats$Hull;)V"⟩, prog_5_method_2_code, 2, none, 1)
def hb_h33 : px_Hd := (⟨"HalfBoats$Hull", "mayBecome", "(II)Z"⟩, prog_5_method_3_code, 2, (some .boolean), 2)
def hb_h34 : px_Hd := (⟨"HalfBoats$Hull", "change", "(III)I"⟩, prog_5_method_4_code, 6, (some .int), 3)
def hb_h35 : px_Hd := (⟨"HalfBoats$Hull", "startDry", "(II)V"⟩, prog_5_method_5_code, 4, none, 2)
def hb_h36 : px_Hd := (⟨"HalfBoats$Hull", "levelOf", "(I)I"⟩, prog_5_method_6_code, 2, (some .int), 1)
def hb_h37 : px_Hd := (⟨"HalfBoats$Hull", "outsideOf", "(I)I"⟩, prog_5_method_7_code, 3, (some .int), 1)
def hb_h38 : px_Hd := (⟨"HalfBoats$Hull", "allRoom", "()I"⟩, prog_5_method_8_code, 3, (some .int), 0)
def hb_h39 : px_Hd := (⟨"HalfBoats$Hull", "passMinute", "()Z"⟩, prog_5_method_9_code, 2, (some .boolean), 0)
def hb_h40 : px_Hd := (⟨"HalfBoats$Hull", "weigh", "()V"⟩, prog_5_method_10_code, 3, none, 0)
def hb_h41 : px_Hd := (⟨"HalfBoats$Hull", "findGains", "()V"⟩, prog_5_method_11_code, 2, none, 0)
def hb_h42 : px_Hd := (⟨"HalfBoats$Hull", "passWall", "(I)V"⟩, prog_5_method_12_code, 5, none, 1)
def hb_h43 : px_Hd := (⟨"HalfBoats$Hull", "takeGains", "()Z"⟩, prog_5_method_13_code, 4, (some .boolean), 0)
def hb_h44 : px_Hd := (⟨"HalfBoats$Passage", "<init>", "()V"⟩, prog_6_method_1_code, 1, none, 0)
def hb_h45 : px_Hd := (⟨"HalfBoats$Passage", "copyFrom", "(LHalfBoats$Passage;)V"⟩, prog_6_method_2_code, 2, none, 1)
def hb_h46 : px_Hd := (⟨"HalfBoats$Passage", "add", "(II)I"⟩, prog_6_method_3_code, 3, (some .int), 2)
def hb_h47 : px_Hd := (⟨"HalfBoats$Passage", "find", "(I)Z"⟩, prog_6_method_4_code, 3, (some .boolean), 1)
def hb_h48 : px_Hd := (⟨"HalfBoats$Passage", "minutesOf", "(II)I"⟩, prog_6_method_5_code, 3, (some .int), 2)
def hb_h49 : px_Hd := (⟨"HalfBoats$Passage", "riskOf", "(II)I"⟩, prog_6_method_6_code, 3, (some .int), 2)
def hb_h50 : px_Hd := (⟨"HalfBoats$Passage", "sail", "(III)V"⟩, prog_6_method_7_code, 7, none, 3)
def hb_h51 : px_Hd := (⟨"HalfBoats$Reader", "<init>", "()V"⟩, prog_7_method_1_code, 1, none, 0)
def hb_h52 : px_Hd := (⟨"HalfBoats$Reader", "take", "(JI)I"⟩, prog_7_method_2_code, 5, (some .int), 2)
def hb_h53 : px_Hd := (⟨"HalfBoats$Reader", "readInto", "(LHalfBoats$Rules;)I"⟩, prog_7_method_3_code, 4, (some .int), 1)
def hb_h54 : px_Hd := (⟨"HalfBoats$Reader", "scan", "()V"⟩, prog_7_method_4_code, 3, none, 0)
def hb_h55 : px_Hd := (⟨"HalfBoats$Reader", "addToken", "(III)V"⟩, prog_7_method_5_code, 4, none, 3)
def hb_h56 : px_Hd := (⟨"HalfBoats$Reader", "isLetter", "(I)Z"⟩, prog_7_method_6_code, 1, (some .boolean), 1)
def hb_h57 : px_Hd := (⟨"HalfBoats$Reader", "isDigit", "(I)Z"⟩, prog_7_method_7_code, 1, (some .boolean), 1)
def hb_h58 : px_Hd := (⟨"HalfBoats$Reader", "numberAt", "(II)I"⟩, prog_7_method_8_code, 5, (some .int), 2)
def hb_h59 : px_Hd := (⟨"HalfBoats$Reader", "wordAt", "(II)I"⟩, prog_7_method_9_code, 3, (some .int), 2)
def hb_h60 : px_Hd := (⟨"HalfBoats$Reader", "is", "(Ljava/lang/String;I)Z"⟩, prog_7_method_10_code, 4, (some .boolean), 2)
def hb_h61 : px_Hd := (⟨"HalfBoats$Reader", "failHere", "()Z"⟩, prog_7_method_11_code, 1, (some .boolean), 0)
def hb_h62 : px_Hd := (⟨"HalfBoats$Reader", "takeToken", "(I)Z"⟩, prog_7_method_12_code, 2, (some .boolean), 1)
def hb_h63 : px_Hd := (⟨"HalfBoats$Reader", "takeNumber", "(I)I"⟩, prog_7_method_13_code, 2, (some .int), 1)
def hb_h64 : px_Hd := (⟨"HalfBoats$Reader", "readSeats", "(LHalfBoats$Rules;)V"⟩, prog_7_method_14_code, 4, none, 1)
def hb_h65 : px_Hd := (⟨"HalfBoats$Reader", "readFirst", "(LHalfBoats$Rules;)V"⟩, prog_7_method_15_code, 7, none, 1)
def hb_h66 : px_Hd := (⟨"HalfBoats$Reader", "readCome", "(LHalfBoats$Rules;)V"⟩, prog_7_method_16_code, 3, none, 1)
def hb_h67 : px_Hd := (⟨"HalfBoats$Reader", "readCondition", "(LHalfBoats$Rules;I)Z"⟩, prog_7_method_17_code, 4, (some .boolean), 2)
def hb_h68 : px_Hd := (⟨"HalfBoats$Reader", "readAll", "(LHalfBoats$Rules;I)Z"⟩, prog_7_method_18_code, 4, (some .boolean), 2)
def hb_h69 : px_Hd := (⟨"HalfBoats$Reader", "readOne", "(LHalfBoats$Rules;I)Z"⟩, prog_7_method_19_code, 5, (some .boolean), 2)
def hb_h70 : px_Hd := (⟨"HalfBoats$Reader", "readInside", "(LHalfBoats$Rules;I)Z"⟩, prog_7_method_20_code, 3, (some .boolean), 2)
def hb_h71 : px_Hd := (⟨"HalfBoats$Reader", "readTest", "(LHalfBoats$Rules;)Z"⟩, prog_7_method_21_code, 5, (some .boolean), 1)
def hb_h72 : px_Hd := (⟨"HalfBoats$Rules", "<init>", "()V"⟩, prog_8_method_1_code, 1, none, 0)
def hb_h73 : px_Hd := (⟨"HalfBoats$Rules", "copyFrom", "(LHalfBoats$Rules;)V"⟩, prog_8_method_2_code, 2, none, 1)
def hb_h74 : px_Hd := (⟨"HalfBoats$Rules", "openSlot", "()V"⟩, prog_8_method_3_code, 1, none, 0)
def hb_h75 : px_Hd := (⟨"HalfBoats$Rules", "stepsSoFar", "()I"⟩, prog_8_method_4_code, 1, (some .int), 0)
def hb_h76 : px_Hd := (⟨"HalfBoats$Rules", "addStep", "(I)V"⟩, prog_8_method_5_code, 2, none, 1)
def hb_h77 : px_Hd := (⟨"HalfBoats$Rules", "addLine", "(III)V"⟩, prog_8_method_6_code, 5, none, 3)
def hb_h78 : px_Hd := (⟨"HalfBoats$Rules", "admit", "(I)I"⟩, prog_8_method_7_code, 2, (some .int), 1)
def hb_h79 : px_Hd := (⟨"HalfBoats$Rules", "seatsDue", "(II)I"⟩, prog_8_method_8_code, 4, (some .int), 2)
def hb_h80 : px_Hd := (⟨"HalfBoats$Rules", "rankOf", "(II)I"⟩, prog_8_method_9_code, 6, (some .int), 2)
def hb_h81 : px_Hd := (⟨"HalfBoats$Rules", "bids", "(LHalfBoats$Sea;II)Z"⟩, prog_8_method_10_code, 6, (some .boolean), 3)
def hb_h82 : px_Hd := (⟨"HalfBoats$Rules", "versionAt", "(I)I"⟩, prog_8_method_11_code, 3, (some .int), 1)
def hb_h83 : px_Hd := (⟨"HalfBoats$Rules", "latestLine", "(II)I"⟩, prog_8_method_12_code, 5, (some .int), 2)
def hb_h84 : px_Hd := (⟨"HalfBoats$Rules", "holds", "(IILHalfBoats$Sea;II)Z"⟩, prog_8_method_13_code, 11, (some .boolean), 5)
def hb_h85 : px_Hd := (⟨"HalfBoats$Rules", "tests", "(ILHalfBoats$Sea;II)Z"⟩, prog_8_method_14_code, 8, (some .boolean), 4)
def hb_h86 : px_Hd := (⟨"HalfBoats$Sea", "<init>", "()V"⟩, prog_9_method_1_code, 1, none, 0)
def hb_h87 : px_Hd := (⟨"HalfBoats$Sea", "copyFrom", "(LHalfBoats$Sea;)V"⟩, prog_9_method_2_code, 2, none, 1)
def hb_h88 : px_Hd := (⟨"HalfBoats$Sea", "addShip", "(IIII)I"⟩, prog_9_method_3_code, 5, (some .int), 4)
def hb_h89 : px_Hd := (⟨"HalfBoats$Sea", "addCall", "(I)I"⟩, prog_9_method_4_code, 2, (some .int), 1)
def hb_h90 : px_Hd := (⟨"HalfBoats$Sea", "addLight", "(III)I"⟩, prog_9_method_5_code, 4, (some .int), 3)
def hb_h91 : px_Hd := (⟨"HalfBoats$Sea", "hearersOf", "(I)I"⟩, prog_9_method_6_code, 4, (some .int), 1)
def hb_h92 : px_Hd := (⟨"HalfBoats$Sea", "isHeard", "(II)Z"⟩, prog_9_method_7_code, 3, (some .boolean), 2)
def hb_h93 : px_Hd := (⟨"HalfBoats$Sea", "firstHeard", "(I)I"⟩, prog_9_method_8_code, 4, (some .int), 1)
def hb_h94 : px_Hd := (⟨"HalfBoats$Sea", "comesAt", "(I)I"⟩, prog_9_method_9_code, 3, (some .int), 1)
def hb_h95 : px_Hd := (⟨"HalfBoats$Sea", "shipsOf", "(I)I"⟩, prog_9_method_10_code, 5, (some .int), 1)
def hb_h96 : px_Hd := (⟨"HalfBoats$Sea", "farAt", "(II)I"⟩, prog_9_method_11_code, 4, (some .int), 2)
def hb_h97 : px_Hd := (⟨"HalfBoats$Seating", "<init>", "()V"⟩, prog_10_method_1_code, 1, none, 0)
def hb_h98 : px_Hd := (⟨"HalfBoats$Seating", "load", "(LHalfBoats$Crowd;)V"⟩, prog_10_method_2_code, 5, none, 1)
def hb_h99 : px_Hd := (⟨"HalfBoats$Seating", "findBoats", "()V"⟩, prog_10_method_3_code, 4, none, 0)
def hb_h100 : px_Hd := (⟨"HalfBoats$Seating", "mostSeated", "()I"⟩, prog_10_method_4_code, 5, (some .int), 0)
def hb_h101 : px_Hd := (⟨"HalfBoats$Seating", "seatAll", "()I"⟩, prog_10_method_5_code, 5, (some .int), 0)
def hb_h102 : px_Hd := (⟨"HalfBoats$Seating", "mostOfPair", "(III)I"⟩, prog_10_method_6_code, 6, (some .int), 3)
def hb_h103 : px_Hd := (⟨"HalfBoats$Seating", "takePair", "(III)V"⟩, prog_10_method_7_code, 5, none, 3)
def hb_h104 : px_Hd := (⟨"HalfBoats$Seating", "readRows", "()I"⟩, prog_10_method_8_code, 4, (some .int), 0)
def hb_h105 : px_Hd := (⟨"HalfBoats$Seating", "isRight", "(I)Z"⟩, prog_10_method_9_code, 6, (some .boolean), 1)
def hb_h106 : px_Hd := (⟨"HalfBoats$Seating", "findOrder", "(III)V"⟩, prog_10_method_10_code, 5, none, 3)
def hb_h107 : px_Hd := (⟨"HalfBoats$Seating", "pickNext", "(II)V"⟩, prog_10_method_11_code, 5, none, 2)
def hb_h108 : px_Hd := (⟨"HalfBoats$Soundings", "<init>", "()V"⟩, prog_11_method_1_code, 1, none, 0)
def hb_h109 : px_Hd := (⟨"HalfBoats$Soundings", "copyFrom", "(LHalfBoats$Soundings;)V"⟩, prog_11_method_2_code, 2, none, 1)
def hb_h110 : px_Hd := (⟨"HalfBoats$Soundings", "forgetExplanation", "()V"⟩, prog_11_method_3_code, 1, none, 0)
def hb_h111 : px_Hd := (⟨"HalfBoats$Soundings", "add", "(IIII)I"⟩, prog_11_method_4_code, 6, (some .int), 4)
def hb_h112 : px_Hd := (⟨"HalfBoats$Soundings", "explain", "(LHalfBoats$Hull;LHalfBoats$Hull;)V"⟩, prog_11_method_5_code, 6, none, 2)
def hb_h113 : px_Hd := (⟨"HalfBoats$Soundings", "holds", "(LHalfBoats$Hull;II)Z"⟩, prog_11_method_6_code, 7, (some .boolean), 3)
def hb_h114 : px_Hd := (⟨"HalfBoats$Words", "<init>", "()V"⟩, prog_12_method_1_code, 1, none, 0)
def hb_h115 : px_Hd := (⟨"HalfBoats$Words", "copyFrom", "(LHalfBoats$Words;)V"⟩, prog_12_method_2_code, 2, none, 1)
def hb_h116 : px_Hd := (⟨"HalfBoats$Words", "onTwoLists", "()I"⟩, prog_12_method_3_code, 1, (some .int), 0)
def hb_h117 : px_Hd := (⟨"HalfBoats$Words", "onOneList", "()I"⟩, prog_12_method_4_code, 1, (some .int), 0)
def hb_h118 : px_Hd := (⟨"HalfBoats$Words", "add", "(II)I"⟩, prog_12_method_5_code, 3, (some .int), 2)
def hb_h119 : px_Hd := (⟨"HalfBoats$Words", "standAt", "(I)I"⟩, prog_12_method_6_code, 5, (some .int), 1)
def hb_h120 : px_Hd := (⟨"HalfBoats", "<init>", "()V"⟩, prog_1_method_1_code, 1, none, 0)
def hb_h121 : px_Hd := (⟨"HalfBoats", "minutes", "(I)I"⟩, prog_1_method_2_code, 3, (some .int), 1)
def hb_h122 : px_Hd := (⟨"HalfBoats", "set", "(III)I"⟩, prog_1_method_3_code, 4, (some .int), 3)
def hb_h123 : px_Hd := (⟨"HalfBoats", "wall", "(II)I"⟩, prog_1_method_4_code, 4, (some .int), 2)
def hb_h124 : px_Hd := (⟨"HalfBoats", "door", "(IZ)I"⟩, prog_1_method_5_code, 4, (some .int), 2)
def hb_h125 : px_Hd := (⟨"HalfBoats", "cell", "(II)I"⟩, prog_1_method_6_code, 3, (some .int), 2)
def hb_h126 : px_Hd := (⟨"HalfBoats", "sunk", "()I"⟩, prog_1_method_7_code, 1, (some .int), 0)
def hb_h127 : px_Hd := (⟨"HalfBoats", "sinks", "(II)I"⟩, prog_1_method_8_code, 5, (some .int), 2)
def hb_h128 : px_Hd := (⟨"HalfBoats", "sounding", "(IIII)I"⟩, prog_1_method_9_code, 5, (some .int), 4)
def hb_h129 : px_Hd := (⟨"HalfBoats", "explained", "(I)I"⟩, prog_1_method_10_code, 2, (some .int), 1)
def hb_h130 : px_Hd := (⟨"HalfBoats", "way", "(IIII)I"⟩, prog_1_method_11_code, 5, (some .int), 4)
def hb_h131 : px_Hd := (⟨"HalfBoats", "group", "(IIII)I"⟩, prog_1_method_12_code, 5, (some .int), 4)
def hb_h132 : px_Hd := (⟨"HalfBoats", "reach", "(II)I"⟩, prog_1_method_13_code, 3, (some .int), 2)
def hb_h133 : px_Hd := (⟨"HalfBoats", "boat", "(IIII)I"⟩, prog_1_method_14_code, 5, (some .int), 4)
def hb_h134 : px_Hd := (⟨"HalfBoats", "can", "(I)I"⟩, prog_1_method_15_code, 2, (some .int), 1)
def hb_h135 : px_Hd := (⟨"HalfBoats", "most", "()I"⟩, prog_1_method_16_code, 1, (some .int), 0)
def hb_h136 : px_Hd := (⟨"HalfBoats", "seat", "()I"⟩, prog_1_method_17_code, 1, (some .int), 0)
def hb_h137 : px_Hd := (⟨"HalfBoats", "row", "(II)I"⟩, prog_1_method_18_code, 3, (some .int), 2)
def hb_h138 : px_Hd := (⟨"HalfBoats", "alterRow", "(III)I"⟩, prog_1_method_19_code, 5, (some .int), 3)
def hb_h139 : px_Hd := (⟨"HalfBoats", "judge", "()I"⟩, prog_1_method_20_code, 1, (some .int), 0)
def hb_h140 : px_Hd := (⟨"HalfBoats", "order", "(III)I"⟩, prog_1_method_21_code, 5, (some .int), 3)
def hb_h141 : px_Hd := (⟨"HalfBoats", "ship", "(IIII)I"⟩, prog_1_method_22_code, 5, (some .int), 4)
def hb_h142 : px_Hd := (⟨"HalfBoats", "ready", "(I)I"⟩, prog_1_method_23_code, 3, (some .int), 1)
def hb_h143 : px_Hd := (⟨"HalfBoats", "call", "(I)I"⟩, prog_1_method_24_code, 2, (some .int), 1)
def hb_h144 : px_Hd := (⟨"HalfBoats", "hears", "(I)I"⟩, prog_1_method_25_code, 2, (some .int), 1)
def hb_h145 : px_Hd := (⟨"HalfBoats", "comes", "(I)I"⟩, prog_1_method_26_code, 2, (some .int), 1)
def hb_h146 : px_Hd := (⟨"HalfBoats", "light", "(III)I"⟩, prog_1_method_27_code, 4, (some .int), 3)
def hb_h147 : px_Hd := (⟨"HalfBoats", "mayBe", "(I)I"⟩, prog_1_method_28_code, 2, (some .int), 1)
def hb_h148 : px_Hd := (⟨"HalfBoats", "sure", "(I)I"⟩, prog_1_method_29_code, 3, (some .int), 1)
def hb_h149 : px_Hd := (⟨"HalfBoats", "list", "(II)I"⟩, prog_1_method_30_code, 4, (some .int), 2)
def hb_h150 : px_Hd := (⟨"HalfBoats", "names", "(I)I"⟩, prog_1_method_31_code, 2, (some .int), 1)
def hb_h151 : px_Hd := (⟨"HalfBoats", "sworn", "(I)I"⟩, prog_1_method_32_code, 2, (some .int), 1)
def hb_h152 : px_Hd := (⟨"HalfBoats", "takeBack", "(I)I"⟩, prog_1_method_33_code, 2, (some .int), 1)
def hb_h153 : px_Hd := (⟨"HalfBoats", "standing", "(I)I"⟩, prog_1_method_34_code, 2, (some .int), 1)
def hb_h154 : px_Hd := (⟨"HalfBoats", "feed", "(JI)I"⟩, prog_1_method_35_code, 4, (some .int), 2)
def hb_h155 : px_Hd := (⟨"HalfBoats", "read", "()I"⟩, prog_1_method_36_code, 2, (some .int), 0)
def hb_h156 : px_Hd := (⟨"HalfBoats", "version", "(II)I"⟩, prog_1_method_37_code, 3, (some .int), 2)
def hb_h157 : px_Hd := (⟨"HalfBoats", "lack", "(I)I"⟩, prog_1_method_38_code, 3, (some .int), 1)
def hb_h158 : px_Hd := (⟨"HalfBoats", "rank", "(II)I"⟩, prog_1_method_39_code, 3, (some .int), 2)
def hb_h159 : px_Hd := (⟨"HalfBoats", "must", "(II)I"⟩, prog_1_method_40_code, 3, (some .int), 2)
def hb_h160 : px_Hd := (⟨"HalfBoats", "leg", "(II)I"⟩, prog_1_method_41_code, 3, (some .int), 2)
def hb_h161 : px_Hd := (⟨"HalfBoats", "run", "(II)I"⟩, prog_1_method_42_code, 3, (some .int), 2)
def hb_h162 : px_Hd := (⟨"HalfBoats", "sheet", "(III)I"⟩, prog_1_method_43_code, 4, (some .int), 3)
def hb_h163 : px_Hd := (⟨"HalfBoats", "put", "(III)I"⟩, prog_1_method_44_code, 4, (some .int), 3)
def hb_h164 : px_Hd := (⟨"HalfBoats", "item", "(III)I"⟩, prog_1_method_45_code, 5, (some .int), 3)
def hb_h165 : px_Hd := (⟨"HalfBoats", "sound", "(IIIII)I"⟩, prog_1_method_46_code, 11, (some .int), 5)
def hb_h166 : px_Hd := (⟨"HalfBoats", "shelf", "(III)I"⟩, prog_1_method_47_code, 4, (some .int), 3)
def hb_h167 : px_Hd := (⟨"HalfBoats", "taken", "(II)I"⟩, prog_1_method_48_code, 4, (some .int), 2)
def hb_h168 : px_Hd := (⟨"HalfBoats", "act", "(III)I"⟩, prog_1_method_49_code, 6, (some .int), 3)
def hb_h169 : px_Hd := (⟨"HalfBoats", "trace", "(I)I"⟩, prog_1_method_50_code, 2, (some .int), 1)
def hb_h170 : px_Hd := (⟨"HalfBoats", "many", "(I)I"⟩, prog_1_method_51_code, 2, (some .int), 1)
def hb_h171 : px_Hd := (⟨"HalfBoats", "keep", "()I"⟩, prog_1_method_52_code, 1, (some .int), 0)
def hb_h172 : px_Hd := (⟨"HalfBoats", "again", "()I"⟩, prog_1_method_53_code, 1, (some .int), 0)
def hb_h173 : px_Hd := (⟨"HalfBoats", "within", "(III)Z"⟩, prog_1_method_54_code, 3, (some .boolean), 3)
def hb_h174 : px_Hd := (⟨"HalfBoats", "isMinute", "(I)Z"⟩, prog_1_method_55_code, 1, (some .boolean), 1)
def hb_h175 : px_Hd := (⟨"HalfBoats", "lowestBit", "(I)I"⟩, prog_1_method_56_code, 2, (some .int), 1)
def hb_h176 : px_Hd := (⟨"HalfBoats", "copy", "([I[I)V"⟩, prog_1_method_57_code, 2, none, 2)
def hb_h177 : px_Hd := (⟨"HalfBoats", "howManyOf", "(I)I"⟩, prog_1_method_58_code, 2, (some .int), 1)
def hb_h178 : px_Hd := (⟨"HalfBoats", "kindOn", "(I)I"⟩, prog_1_method_59_code, 4, (some .int), 1)
def hb_h179 : px_Hd := (⟨"HalfBoats", "answerOf", "(II)I"⟩, prog_1_method_60_code, 4, (some .int), 2)
def hb_h180 : px_Hd := (⟨"HalfBoats", "amountOf", "(II)I"⟩, prog_1_method_61_code, 3, (some .int), 2)
def hb_h181 : px_Hd := (⟨"HalfBoatsModel", "<init>", "()V"⟩, prog_14_method_1_code, 2, none, 0)
def hb_h182 : px_Hd := (⟨"HalfBoatsModel", "in", "(III)Z"⟩, prog_14_method_2_code, 3, (some .boolean), 3)
def hb_h183 : px_Hd := (⟨"HalfBoatsModel", "isMinute", "(I)Z"⟩, prog_14_method_3_code, 1, (some .boolean), 1)
def hb_h184 : px_Hd := (⟨"HalfBoatsModel", "isCell", "(I)Z"⟩, prog_14_method_4_code, 1, (some .boolean), 1)
def hb_h185 : px_Hd := (⟨"HalfBoatsModel", "within", "(III)I"⟩, prog_14_method_5_code, 3, (some .int), 3)
def hb_h186 : px_Hd := (⟨"HalfBoatsModel", "layOut", "()V"⟩, prog_14_method_6_code, 2, none, 0)
def hb_h187 : px_Hd := (⟨"HalfBoatsModel", "findTrim", "()V"⟩, prog_14_method_7_code, 4, none, 0)
def hb_h188 : px_Hd := (⟨"HalfBoatsModel", "outside", "(I)I"⟩, prog_14_method_8_code, 2, (some .int), 1)
def hb_h189 : px_Hd := (⟨"HalfBoatsModel", "level", "(I)I"⟩, prog_14_method_9_code, 2, (some .int), 1)
def hb_h190 : px_Hd := (⟨"HalfBoatsModel", "passes", "()Z"⟩, prog_14_method_10_code, 9, (some .boolean), 0)
def hb_h191 : px_Hd := (⟨"HalfBoatsModel", "minutes", "(I)I"⟩, prog_14_method_11_code, 4, (some .int), 1)
def hb_h192 : px_Hd := (⟨"HalfBoatsModel", "set", "(III)I"⟩, prog_14_method_12_code, 6, (some .int), 3)
def hb_h193 : px_Hd := (⟨"HalfBoatsModel", "isWall", "(I)Z"⟩, prog_14_method_13_code, 1, (some .boolean), 1)
def hb_h194 : px_Hd := (⟨"HalfBoatsModel", "wall", "(II)I"⟩, prog_14_method_14_code, 4, (some .int), 2)
def hb_h195 : px_Hd := (⟨"HalfBoatsModel", "door", "(IZ)I"⟩, prog_14_method_15_code, 4, (some .int), 2)
def hb_h196 : px_Hd := (⟨"HalfBoatsModel", "cell", "(II)I"⟩, prog_14_method_16_code, 3, (some .int), 2)
def hb_h197 : px_Hd := (⟨"HalfBoatsModel", "sunk", "()I"⟩, prog_14_method_17_code, 1, (some .int), 0)
def hb_h198 : px_Hd := (⟨"HalfBoatsModel", "sinks", "(II)I"⟩, prog_14_method_18_code, 4, (some .int), 2)
def hb_h199 : px_Hd := (⟨"HalfBoatsModel", "sounding", "(IIII)I"⟩, prog_14_method_19_code, 6, (some .int), 4)
def hb_h200 : px_Hd := (⟨"HalfBoatsModel", "ones", "(I)I"⟩, prog_14_method_20_code, 3, (some .int), 1)
def hb_h201 : px_Hd := (⟨"HalfBoatsModel", "holdsAt", "(I)Z"⟩, prog_14_method_21_code, 5, (some .boolean), 1)
def hb_h202 : px_Hd := (⟨"HalfBoatsModel", "explains", "(II)Z"⟩, prog_14_method_22_code, 6, (some .boolean), 2)
def hb_h203 : px_Hd := (⟨"HalfBoatsModel", "findExplanation", "()Z"⟩, prog_14_method_23_code, 4, (some .boolean), 0)
def hb_h204 : px_Hd := (⟨"HalfBoatsModel", "explained", "(I)I"⟩, prog_14_method_24_code, 2, (some .int), 1)
def hb_h205 : px_Hd := (⟨"HalfBoatsModel", "isPlace", "(I)Z"⟩, prog_14_method_25_code, 1, (some .boolean), 1)
def hb_h206 : px_Hd := (⟨"HalfBoatsModel", "way", "(IIII)I"⟩, prog_14_method_26_code, 6, (some .int), 4)
def hb_h207 : px_Hd := (⟨"HalfBoatsModel", "group", "(IIII)I"⟩, prog_14_method_27_code, 6, (some .int), 4)
def hb_h208 : px_Hd := (⟨"HalfBoatsModel", "isGroup", "(I)Z"⟩, prog_14_method_28_code, 2, (some .boolean), 1)
def hb_h209 : px_Hd := (⟨"HalfBoatsModel", "findReach", "(I)V"⟩, prog_14_method_29_code, 5, none, 1)
def hb_h210 : px_Hd := (⟨"HalfBoatsModel", "comes", "(IIII)V"⟩, prog_14_method_30_code, 6, none, 4)
def hb_h211 : px_Hd := (⟨"HalfBoatsModel", "reach", "(II)I"⟩, prog_14_method_31_code, 3, (some .int), 2)
def hb_h212 : px_Hd := (⟨"HalfBoatsModel", "boat", "(IIII)I"⟩, prog_14_method_32_code, 6, (some .int), 4)
def hb_h213 : px_Hd := (⟨"HalfBoatsModel", "isBoat", "(I)Z"⟩, prog_14_method_33_code, 2, (some .boolean), 1)
def hb_h214 : px_Hd := (⟨"HalfBoatsModel", "layBoats", "()V"⟩, prog_14_method_34_code, 2, none, 0)
def hb_h215 : px_Hd := (⟨"HalfBoatsModel", "findCan", "()V"⟩, prog_14_method_35_code, 4, none, 0)
def hb_h216 : px_Hd := (⟨"HalfBoatsModel", "can", "(I)I"⟩, prog_14_method_36_code, 2, (some .int), 1)
def hb_h217 : px_Hd := (⟨"HalfBoatsModel", "mostOf", "()I"⟩, prog_14_method_37_code, 7, (some .int), 0)
def hb_h218 : px_Hd := (⟨"HalfBoatsModel", "most", "()I"⟩, prog_14_method_38_code, 1, (some .int), 0)
def hb_h219 : px_Hd := (⟨"HalfBoatsModel", "mostIn", "(III)I"⟩, prog_14_method_39_code, 8, (some .int), 3)
def hb_h220 : px_Hd := (⟨"HalfBoatsModel", "seat", "()I"⟩, prog_14_method_40_code, 5, (some .int), 0)
def hb_h221 : px_Hd := (⟨"HalfBoatsModel", "isRow", "(II)Z"⟩, prog_14_method_41_code, 3, (some .boolean), 2)
def hb_h222 : px_Hd := (⟨"HalfBoatsModel", "row", "(II)I"⟩, prog_14_method_42_code, 3, (some .int), 2)
def hb_h223 : px_Hd := (⟨"HalfBoatsModel", "alterRow", "(III)I"⟩, prog_14_method_43_code, 5, (some .int), 3)
def hb_h224 : px_Hd := (⟨"HalfBoatsModel", "judge", "()I"⟩, prog_14_method_44_code, 7, (some .int), 0)
def hb_h225 : px_Hd := (⟨"HalfBoatsModel", "findOrder", "(II)V"⟩, prog_14_method_45_code, 9, none, 2)
def hb_h226 : px_Hd := (⟨"HalfBoatsModel", "order", "(III)I"⟩, prog_14_method_46_code, 11, (some .int), 3)
def hb_h227 : px_Hd := (⟨"HalfBoatsModel", "ship", "(IIII)I"⟩, prog_14_method_47_code, 6, (some .int), 4)
def hb_h228 : px_Hd := (⟨"HalfBoatsModel", "isShip", "(I)Z"⟩, prog_14_method_48_code, 2, (some .boolean), 1)
def hb_h229 : px_Hd := (⟨"HalfBoatsModel", "farOf", "(I)I"⟩, prog_14_method_49_code, 4, (some .int), 1)
def hb_h230 : px_Hd := (⟨"HalfBoatsModel", "ready", "(I)I"⟩, prog_14_method_50_code, 3, (some .int), 1)
def hb_h231 : px_Hd := (⟨"HalfBoatsModel", "call", "(I)I"⟩, prog_14_method_51_code, 2, (some .int), 1)
def hb_h232 : px_Hd := (⟨"HalfBoatsModel", "doesHear", "(II)Z"⟩, prog_14_method_52_code, 4, (some .boolean), 2)
def hb_h233 : px_Hd := (⟨"HalfBoatsModel", "hears", "(I)I"⟩, prog_14_method_53_code, 4, (some .int), 1)
def hb_h234 : px_Hd := (⟨"HalfBoatsModel", "earliest", "(I)I"⟩, prog_14_method_54_code, 5, (some .int), 1)
def hb_h235 : px_Hd := (⟨"HalfBoatsModel", "comes", "(I)I"⟩, prog_14_method_55_code, 4, (some .int), 1)
def hb_h236 : px_Hd := (⟨"HalfBoatsModel", "light", "(III)I"⟩, prog_14_method_56_code, 5, (some .int), 3)
def hb_h237 : px_Hd := (⟨"HalfBoatsModel", "isLight", "(I)Z"⟩, prog_14_method_57_code, 2, (some .boolean), 1)
def hb_h238 : px_Hd := (⟨"HalfBoatsModel", "shipsOf", "(I)I"⟩, prog_14_method_58_code, 6, (some .int), 1)
def hb_h239 : px_Hd := (⟨"HalfBoatsModel", "mayBe", "(I)I"⟩, prog_14_method_59_code, 2, (some .int), 1)
def hb_h240 : px_Hd := (⟨"HalfBoatsModel", "sure", "(I)I"⟩, prog_14_method_60_code, 4, (some .int), 1)
def hb_h241 : px_Hd := (⟨"HalfBoatsModel", "list", "(II)I"⟩, prog_14_method_61_code, 4, (some .int), 2)
def hb_h242 : px_Hd := (⟨"HalfBoatsModel", "names", "(I)I"⟩, prog_14_method_62_code, 6, (some .int), 1)
def hb_h243 : px_Hd := (⟨"HalfBoatsModel", "sworn", "(I)I"⟩, prog_14_method_63_code, 3, (some .int), 1)
def hb_h244 : px_Hd := (⟨"HalfBoatsModel", "standingAt", "(I)I"⟩, prog_14_method_64_code, 6, (some .int), 1)
def hb_h245 : px_Hd := (⟨"HalfBoatsModel", "takeBack", "(I)I"⟩, prog_14_method_65_code, 2, (some .int), 1)
def hb_h246 : px_Hd := (⟨"HalfBoatsModel", "standing", "(I)I"⟩, prog_14_method_66_code, 2, (some .int), 1)
def hb_h247 : px_Hd := (⟨"HalfBoatsModel", "feed", "(JI)I"⟩, prog_14_method_67_code, 5, (some .int), 2)
def hb_h248 : px_Hd := (⟨"HalfBoatsModel", "byteAt", "(I)I"⟩, prog_14_method_68_code, 2, (some .int), 1)
def hb_h249 : px_Hd := (⟨"HalfBoatsModel", "next", "()V"⟩, prog_14_method_69_code, 2, none, 0)
def hb_h250 : px_Hd := (⟨"HalfBoatsModel", "word", "()V"⟩, prog_14_method_70_code, 5, none, 0)
def hb_h251 : px_Hd := (⟨"HalfBoatsModel", "wrong", "()V"⟩, prog_14_method_71_code, 1, none, 0)
def hb_h252 : px_Hd := (⟨"HalfBoatsModel", "isWord", "(II)Z"⟩, prog_14_method_72_code, 3, (some .boolean), 2)
def hb_h253 : px_Hd := (⟨"HalfBoatsModel", "takes", "(I)V"⟩, prog_14_method_73_code, 2, none, 1)
def hb_h254 : px_Hd := (⟨"HalfBoatsModel", "number", "(I)I"⟩, prog_14_method_74_code, 3, (some .int), 1)
def hb_h255 : px_Hd := (⟨"HalfBoatsModel", "single", "()Z"⟩, prog_14_method_75_code, 6, (some .boolean), 0)
def hb_h256 : px_Hd := (⟨"HalfBoatsModel", "every", "()Z"⟩, prog_14_method_76_code, 3, (some .boolean), 0)
def hb_h257 : px_Hd := (⟨"HalfBoatsModel", "cond", "()Z"⟩, prog_14_method_77_code, 3, (some .boolean), 0)
def hb_h258 : px_Hd := (⟨"HalfBoatsModel", "first", "()V"⟩, prog_14_method_78_code, 5, none, 0)
def hb_h259 : px_Hd := (⟨"HalfBoatsModel", "line", "()V"⟩, prog_14_method_79_code, 3, none, 0)
def hb_h260 : px_Hd := (⟨"HalfBoatsModel", "reads", "(II)V"⟩, prog_14_method_80_code, 4, none, 2)
def hb_h261 : px_Hd := (⟨"HalfBoatsModel", "read", "()I"⟩, prog_14_method_81_code, 4, (some .int), 0)
def hb_h262 : px_Hd := (⟨"HalfBoatsModel", "version", "(II)I"⟩, prog_14_method_82_code, 3, (some .int), 2)
def hb_h263 : px_Hd := (⟨"HalfBoatsModel", "readsFor", "(I)V"⟩, prog_14_method_83_code, 4, none, 1)
def hb_h264 : px_Hd := (⟨"HalfBoatsModel", "sumOf", "(III)I"⟩, prog_14_method_84_code, 6, (some .int), 3)
def hb_h265 : px_Hd := (⟨"HalfBoatsModel", "lack", "(I)I"⟩, prog_14_method_85_code, 3, (some .int), 1)
def hb_h266 : px_Hd := (⟨"HalfBoatsModel", "rank", "(II)I"⟩, prog_14_method_86_code, 3, (some .int), 2)
def hb_h267 : px_Hd := (⟨"HalfBoatsModel", "must", "(II)I"⟩, prog_14_method_87_code, 3, (some .int), 2)
def hb_h268 : px_Hd := (⟨"HalfBoatsModel", "leg", "(II)I"⟩, prog_14_method_88_code, 3, (some .int), 2)
def hb_h269 : px_Hd := (⟨"HalfBoatsModel", "run", "(II)I"⟩, prog_14_method_89_code, 14, (some .int), 2)
def hb_h270 : px_Hd := (⟨"HalfBoatsModel", "speedOn", "(III)I"⟩, prog_14_method_90_code, 3, (some .int), 3)
def hb_h271 : px_Hd := (⟨"HalfBoatsModel", "isFour", "(I)Z"⟩, prog_14_method_91_code, 1, (some .boolean), 1)
def hb_h272 : px_Hd := (⟨"HalfBoatsModel", "freeRow", "()I"⟩, prog_14_method_92_code, 4, (some .int), 0)
def hb_h273 : px_Hd := (⟨"HalfBoatsModel", "sheet", "(III)I"⟩, prog_14_method_93_code, 6, (some .int), 3)
def hb_h274 : px_Hd := (⟨"HalfBoatsModel", "put", "(III)I"⟩, prog_14_method_94_code, 5, (some .int), 3)
def hb_h275 : px_Hd := (⟨"HalfBoatsModel", "item", "(III)I"⟩, prog_14_method_95_code, 5, (some .int), 3)
def hb_h276 : px_Hd := (⟨"HalfBoatsModel", "sound", "(IIIII)I"⟩, prog_14_method_96_code, 11, (some .int), 5)
def hb_h277 : px_Hd := (⟨"HalfBoatsModel", "shelf", "(III)I"⟩, prog_14_method_97_code, 6, (some .int), 3)
def hb_h278 : px_Hd := (⟨"HalfBoatsModel", "kindOn", "(I)I"⟩, prog_14_method_98_code, 3, (some .int), 1)
def hb_h279 : px_Hd := (⟨"HalfBoatsModel", "taken", "(II)I"⟩, prog_14_method_99_code, 5, (some .int), 2)
def hb_h280 : px_Hd := (⟨"HalfBoatsModel", "begins", "(I)V"⟩, prog_14_method_100_code, 2, none, 1)
def hb_h281 : px_Hd := (⟨"HalfBoatsModel", "thingFills", "(I)I"⟩, prog_14_method_101_code, 2, (some .int), 1)
def hb_h282 : px_Hd := (⟨"HalfBoatsModel", "fills", "(I)I"⟩, prog_14_method_102_code, 2, (some .int), 1)
def hb_h283 : px_Hd := (⟨"HalfBoatsModel", "thingCarries", "(I)I"⟩, prog_14_method_103_code, 2, (some .int), 1)
def hb_h284 : px_Hd := (⟨"HalfBoatsModel", "carries", "(I)I"⟩, prog_14_method_104_code, 3, (some .int), 1)
def hb_h285 : px_Hd := (⟨"HalfBoatsModel", "thingFits", "(I)I"⟩, prog_14_method_105_code, 2, (some .int), 1)
def hb_h286 : px_Hd := (⟨"HalfBoatsModel", "fits", "(I)I"⟩, prog_14_method_106_code, 3, (some .int), 1)
def hb_h287 : px_Hd := (⟨"HalfBoatsModel", "thingTells", "(I)I"⟩, prog_14_method_107_code, 2, (some .int), 1)
def hb_h288 : px_Hd := (⟨"HalfBoatsModel", "tells", "(I)I"⟩, prog_14_method_108_code, 3, (some .int), 1)
def hb_h289 : px_Hd := (⟨"HalfBoatsModel", "act", "(III)I"⟩, prog_14_method_109_code, 5, (some .int), 3)
def hb_h290 : px_Hd := (⟨"HalfBoatsModel", "trace", "(I)I"⟩, prog_14_method_110_code, 2, (some .int), 1)
def hb_h291 : px_Hd := (⟨"HalfBoatsModel", "many", "(I)I"⟩, prog_14_method_111_code, 2, (some .int), 1)
def hb_h292 : px_Hd := (⟨"HalfBoatsModel", "keep", "()I"⟩, prog_14_method_112_code, 2, (some .int), 0)
def hb_h293 : px_Hd := (⟨"HalfBoatsModel", "again", "()I"⟩, prog_14_method_113_code, 2, (some .int), 0)
def hb_h294 : px_Hd := (⟨"java/lang/Integer", "bitCount", "(I)I"⟩, prog_15_method_49_code, 1, (some .int), 1)
def hb_h295 : px_Hd := (⟨"java/lang/String", "length", "()I"⟩, prog_17_method_54_code, 1, (some .int), 0)
def hb_h296 : px_Hd := (⟨"java/lang/String", "charAt", "(I)C"⟩, prog_17_method_56_code, 2, (some .char), 1)
def hb_h297 : px_Hd := (⟨"java/lang/String", "coder", "()B"⟩, prog_17_method_152_code, 1, (some .byte), 0)
def hb_h298 : px_Hd := (⟨"java/lang/String", "isLatin1", "()Z"⟩, prog_17_method_154_code, 1, (some .boolean), 0)
def hb_h299 : px_Hd := (⟨"java/lang/String", "checkIndex", "(II)V"⟩, prog_17_method_155_code, 2, none, 2)
def hb_h300 : px_Hd := (⟨"java/lang/StringLatin1", "charAt", "([BI)C"⟩, prog_18_method_2_code, 2, (some .char), 2)
def hb_h301 : px_Hd := (⟨"jdk/internal/util/Preconditions", "checkIndex", "(IILjava/util/function/BiFunction;)I"⟩, prog_21_method_11_code, 3, (some .int), 3)
def hb_h302 : px_Hd := (⟨"HalfBoatsLaw", "law", "([I)Z"⟩, code, 4, (some .boolean), 1)
def hb_c0_0 : List (Nat × Instr × Nat) := [(0, .aload_n 0, 1), (1, .invokespecial 1, 3), (4, .aload_n 0, 1), (5, .iconst 0, 1), (6, .putfield 7, 3), (9, .aload_n 0, 1), (10, .bipush 30, 2), (12, .newarray .int, 2), (14, .putfield 13, 3), (17, .aload_n 0, 1), (18, .iconst 0, 1), (19, .putfield 17, 3), (22, .aload_n 0, 1), (23, .iconst 0, 1), (24, .putfield 21, 3), (27, .aload_n 0, 1), (28, .iconst 0, 1), (29, .putfield 24, 3), (32, .aload_n 0, 1), (33, .iconst 0, 1), (34, .putfield 27, 3), (37, .return_, 1)]
def hb_m0 : px_M := (hb_h0, hb_c0_0, hb_L0)
def hb_c1_0 : List (Nat × Instr × Nat) := [(0, .iload_n 0, 1), (1, .iload_n 1, 1), (2, .if_icmp .ne 5, 3), (5, .iconst 1, 1), (6, .ireturn, 1), (7, .iload_n 1, 1), (8, .ifCond .ne 15, 3), (11, .iload_n 0, 1), (12, .bipush 10, 2), (14, .if_icmp .ge 7, 3), (17, .iconst 1, 1), (18, .goto 4, 3), (21, .iconst 0, 1), (22, .ireturn, 1), (23, .iload_n 0, 1), (24, .iconst 3, 1), (25, .if_icmp .ne 8, 3), (28, .iload_n 1, 1), (29, .iconst 2, 1), (30, .if_icmp .eq 13, 3), (33, .iload_n 0, 1), (34, .iconst 5, 1), (35, .if_icmp .ne 12, 3), (38, .iload_n 1, 1), (39, .iconst 4, 1), (40, .if_icmp .ne 7, 3), (43, .iconst 1, 1), (44, .goto 4, 3), (47, .iconst 0, 1), (48, .ireturn, 1)]
def hb_m1 : px_M := (hb_h1, hb_c1_0, hb_L0)
def hb_c2_0 : List (Nat × Instr × Nat) := [(0, .aload_n 0, 1), (1, .iconst 0, 1), (2, .putfield 7, 3), (5, .aload_n 0, 1), (6, .iconst 0, 1), (7, .putfield 17, 3), (10, .return_, 1)]
def hb_m2 : px_M := (hb_h2, hb_c2_0, hb_L0)
def hb_c3_0 : List (Nat × Instr × Nat) := [(0, .aload_n 0, 1), (1, .iload_n 1, 1), (2, .putfield 21, 3), (5, .aload_n 0, 1), (6, .iload_n 2, 1), (7, .putfield 24, 3), (10, .aload_n 0, 1), (11, .iload_n 3, 1), (12, .putfield 27, 3), (15, .return_, 1)]
def hb_m3 : px_M := (hb_h3, hb_c3_0, hb_L0)
def hb_c4_0 : List (Nat × Instr × Nat) := [(0, .aload_n 0, 1), (1, .getfield 7, 3), (4, .bipush 30, 2), (6, .if_icmp .ge 23, 3), (9, .aload_n 0, 1), (10, .getfield 13, 3), (13, .aload_n 0, 1), (14, .getfield 7, 3), (17, .iload_n 1, 1), (18, .iastore, 1), (19, .aload_n 0, 1), (20, .dup, 1), (21, .getfield 7, 3), (24, .iconst 1, 1), (25, .iadd, 1), (26, .putfield 7, 3), (29, .return_, 1)]
def hb_m4 : px_M := (hb_h4, hb_c4_0, hb_L0)
def hb_c5_0 : List (Nat × Instr × Nat) := [(0, .aload_n 0, 1), (1, .getfield 21, 3), (4, .iconst 1, 1), (5, .if_icmp .ne 12, 3), (8, .aload_n 0, 1), (9, .bipush 20, 2), (11, .invokevirtual 30, 3), (14, .goto 17, 3), (17, .aload_n 0, 1), (18, .getfield 21, 3), (21, .iconst 3, 1), (22, .if_icmp .ne 9, 3), (25, .aload_n 0, 1), (26, .bipush 40, 2), (28, .invokevirtual 30, 3), (31, .aload_n 0, 1), (32, .bipush 10, 2), (34, .invokevirtual 30, 3), (37, .iload_n 1, 1), (38, .aload_n 0, 1), (39, .getfield 27, 3), (42, .iadd, 1), (43, .istore_n 2, 1), (44, .aload_n 0, 1), (45, .getfield 21, 3), (48, .iconst 1, 1), (49, .if_icmp .ne 10, 3), (52, .iload_n 2, 1), (53, .bipush 40, 2), (55, .isub, 1), (56, .goto 18, 3), (59, .aload_n 0, 1), (60, .getfield 21, 3), (63, .iconst 3, 1), (64, .if_icmp .ne 9, 3), (67, .iload_n 2, 1), (68, .iconst 3, 1), (69, .imul, 1), (70, .goto 4, 3), (73, .iload_n 2, 1)]
def hb_c5_1 : List (Nat × Instr × Nat) := [(74, .ireturn, 1)]
def hb_m5 : px_M := (hb_h5, hb_c5_0 ++ (hb_c5_1), hb_L0)
def hb_c6_0 : List (Nat × Instr × Nat) := [(0, .aload_n 0, 1), (1, .getfield 21, 3), (4, .iconst 2, 1), (5, .if_icmp .eq 11, 3), (8, .aload_n 0, 1), (9, .getfield 21, 3), (12, .iconst 3, 1), (13, .if_icmp .ne 20, 3), (16, .aload_n 0, 1), (17, .bipush 30, 2), (19, .invokevirtual 30, 3), (22, .aload_n 0, 1), (23, .iload_n 1, 1), (24, .invokevirtual 34, 3), (27, .aload_n 0, 1), (28, .getfield 27, 3), (31, .iadd, 1), (32, .ireturn, 1), (33, .aload_n 0, 1), (34, .getfield 21, 3), (37, .iconst 5, 1), (38, .if_icmp .ne 17, 3), (41, .aload_n 0, 1), (42, .bipush 60, 2), (44, .invokevirtual 30, 3), (47, .iconst 0, 1), (48, .aload_n 0, 1), (49, .iload_n 1, 1), (50, .invokevirtual 34, 3), (53, .isub, 1), (54, .ireturn, 1), (55, .aload_n 0, 1), (56, .getfield 21, 3), (59, .bipush 6, 2), (61, .if_icmp .ne 23, 3), (64, .aload_n 0, 1), (65, .bipush 71, 2), (67, .invokevirtual 30, 3), (70, .aload_n 0, 1), (71, .iload_n 1, 1)]
def hb_c6_1 : List (Nat × Instr × Nat) := [(72, .invokevirtual 34, 3), (75, .istore_n 2, 1), (76, .iload_n 2, 1), (77, .aload_n 0, 1), (78, .iconst 0, 1), (79, .invokevirtual 38, 3), (82, .iadd, 1), (83, .ireturn, 1), (84, .aload_n 0, 1), (85, .iload_n 1, 1), (86, .invokevirtual 34, 3), (89, .ireturn, 1)]
def hb_m6 : px_M := (hb_h6, hb_c6_0 ++ (hb_c6_1), hb_L0)
def hb_c7_0 : List (Nat × Instr × Nat) := [(0, .aload_n 0, 1), (1, .getfield 21, 3), (4, .iconst 1, 1), (5, .if_icmp .ne 34, 3), (8, .aload_n 0, 1), (9, .bipush 21, 2), (11, .invokevirtual 30, 3), (14, .aload_n 0, 1), (15, .iload_n 1, 1), (16, .invokevirtual 41, 3), (19, .istore_n 2, 1), (20, .aload_n 0, 1), (21, .getfield 17, 3), (24, .ifCond .eq 7, 3), (27, .iconst 0, 1), (28, .goto 10, 3), (31, .iload_n 2, 1), (32, .aload_n 0, 1), (33, .iconst 1, 1), (34, .invokevirtual 38, 3), (37, .iadd, 1), (38, .ireturn, 1), (39, .aload_n 0, 1), (40, .getfield 21, 3), (43, .bipush 6, 2), (45, .if_icmp .ne 17, 3), (48, .aload_n 0, 1), (49, .bipush 70, 2), (51, .invokevirtual 30, 3), (54, .aload_n 0, 1), (55, .iload_n 1, 1), (56, .iconst 2, 1), (57, .imul, 1), (58, .invokevirtual 41, 3), (61, .ireturn, 1), (62, .aload_n 0, 1), (63, .iload_n 1, 1), (64, .invokevirtual 41, 3), (67, .ireturn, 1)]
def hb_m7 : px_M := (hb_h7, hb_c7_0, hb_L0)
def hb_c8_0 : List (Nat × Instr × Nat) := [(0, .aload_n 0, 1), (1, .getfield 21, 3), (4, .iconst 3, 1), (5, .if_icmp .ne 17, 3), (8, .aload_n 0, 1), (9, .bipush 41, 2), (11, .invokevirtual 30, 3), (14, .aload_n 0, 1), (15, .iload_n 1, 1), (16, .invokevirtual 44, 3), (19, .iconst 1, 1), (20, .isub, 1), (21, .ireturn, 1), (22, .aload_n 0, 1), (23, .getfield 21, 3), (26, .iconst 4, 1), (27, .if_icmp .eq 11, 3), (30, .aload_n 0, 1), (31, .getfield 21, 3), (34, .iconst 5, 1), (35, .if_icmp .ne 23, 3), (38, .aload_n 0, 1), (39, .bipush 50, 2), (41, .invokevirtual 30, 3), (44, .aload_n 0, 1), (45, .iload_n 1, 1), (46, .invokevirtual 44, 3), (49, .istore_n 2, 1), (50, .iload_n 2, 1), (51, .aload_n 0, 1), (52, .iload_n 1, 1), (53, .invokevirtual 38, 3), (56, .ixor, 1), (57, .ireturn, 1), (58, .aload_n 0, 1), (59, .iload_n 1, 1), (60, .invokevirtual 44, 3), (63, .ireturn, 1)]
def hb_m8 : px_M := (hb_h8, hb_c8_0, hb_L0)
def hb_c9_0 : List (Nat × Instr × Nat) := [(0, .aload_n 0, 1), (1, .bipush 11, 2), (3, .invokevirtual 30, 3), (6, .aload_n 0, 1), (7, .iload_n 1, 1), (8, .invokevirtual 38, 3), (11, .iconst 2, 1), (12, .imul, 1), (13, .aload_n 0, 1), (14, .getfield 24, 3), (17, .isub, 1), (18, .ireturn, 1)]
def hb_m9 : px_M := (hb_h9, hb_c9_0, hb_L0)
def hb_c10_0 : List (Nat × Instr × Nat) := [(0, .aload_n 0, 1), (1, .bipush 12, 2), (3, .invokevirtual 30, 3), (6, .aload_n 0, 1), (7, .getfield 27, 3), (10, .aload_n 0, 1), (11, .getfield 24, 3), (14, .isub, 1), (15, .istore_n 2, 1), (16, .iload_n 2, 1), (17, .ifCond .ne 10, 3), (20, .aload_n 0, 1), (21, .iconst 1, 1), (22, .putfield 17, 3), (25, .iconst 0, 1), (26, .ireturn, 1), (27, .iload_n 1, 1), (28, .iload_n 2, 1), (29, .idiv, 1), (30, .ireturn, 1)]
def hb_m10 : px_M := (hb_h10, hb_c10_0, hb_L0)
def hb_c11_0 : List (Nat × Instr × Nat) := [(0, .aload_n 0, 1), (1, .bipush 13, 2), (3, .invokevirtual 30, 3), (6, .aload_n 0, 1), (7, .iload_n 1, 1), (8, .invokevirtual 47, 3), (11, .aload_n 0, 1), (12, .getfield 27, 3), (15, .ixor, 1), (16, .ireturn, 1)]
def hb_m11 : px_M := (hb_h11, hb_c11_0, hb_L0)
def hb_c12_0 : List (Nat × Instr × Nat) := [(0, .aload_n 0, 1), (1, .invokespecial 1, 3), (4, .aload_n 0, 1), (5, .iconst 0, 1), (6, .putfield 7, 3), (9, .aload_n 0, 1), (10, .bipush 12, 2), (12, .newarray .int, 2), (14, .putfield 13, 3), (17, .aload_n 0, 1), (18, .bipush 12, 2), (20, .newarray .int, 2), (22, .putfield 17, 3), (25, .aload_n 0, 1), (26, .bipush 12, 2), (28, .newarray .int, 2), (30, .putfield 20, 3), (33, .aload_n 0, 1), (34, .bipush 12, 2), (36, .newarray .int, 2), (38, .putfield 23, 3), (41, .aload_n 0, 1), (42, .iconst 0, 1), (43, .putfield 26, 3), (46, .aload_n 0, 1), (47, .bipush 10, 2), (49, .newarray .int, 2), (51, .putfield 29, 3), (54, .aload_n 0, 1), (55, .bipush 10, 2), (57, .newarray .int, 2), (59, .putfield 32, 3), (62, .aload_n 0, 1), (63, .bipush 10, 2), (65, .newarray .int, 2), (67, .putfield 35, 3), (70, .aload_n 0, 1), (71, .bipush 10, 2), (73, .newarray .int, 2), (75, .putfield 38, 3)]
def hb_c12_1 : List (Nat × Instr × Nat) := [(78, .aload_n 0, 1), (79, .iconst 0, 1), (80, .putfield 41, 3), (83, .aload_n 0, 1), (84, .bipush 8, 2), (86, .newarray .int, 2), (88, .putfield 44, 3), (91, .aload_n 0, 1), (92, .bipush 8, 2), (94, .newarray .int, 2), (96, .putfield 47, 3), (99, .aload_n 0, 1), (100, .bipush 8, 2), (102, .newarray .int, 2), (104, .putfield 50, 3), (107, .aload_n 0, 1), (108, .bipush 8, 2), (110, .newarray .int, 2), (112, .putfield 53, 3), (115, .aload_n 0, 1), (116, .bipush 8, 2), (118, .newarray .int, 2), (120, .putfield 56, 3), (123, .return_, 1)]
def hb_m12 : px_M := (hb_h12, hb_c12_0 ++ (hb_c12_1), hb_L1)
def hb_c13_0 : List (Nat × Instr × Nat) := [(0, .iload_n 0, 1), (1, .ifCond .lt 13, 3), (4, .iload_n 0, 1), (5, .bipush 8, 2), (7, .if_icmp .ge 7, 3), (10, .iconst 1, 1), (11, .goto 4, 3), (14, .iconst 0, 1), (15, .ireturn, 1)]
def hb_m13 : px_M := (hb_h13, hb_c13_0, hb_L1)
def hb_c14_0 : List (Nat × Instr × Nat) := [(0, .aload_n 0, 1), (1, .aload_n 1, 1), (2, .getfield 7, 3), (5, .putfield 7, 3), (8, .aload_n 1, 1), (9, .getfield 13, 3), (12, .aload_n 0, 1), (13, .getfield 13, 3), (16, .invokestatic 59, 3), (19, .aload_n 1, 1), (20, .getfield 17, 3), (23, .aload_n 0, 1), (24, .getfield 17, 3), (27, .invokestatic 59, 3), (30, .aload_n 1, 1), (31, .getfield 20, 3), (34, .aload_n 0, 1), (35, .getfield 20, 3), (38, .invokestatic 59, 3), (41, .aload_n 1, 1), (42, .getfield 23, 3), (45, .aload_n 0, 1), (46, .getfield 23, 3), (49, .invokestatic 59, 3), (52, .aload_n 0, 1), (53, .aload_n 1, 1), (54, .getfield 26, 3), (57, .putfield 26, 3), (60, .aload_n 1, 1), (61, .getfield 29, 3), (64, .aload_n 0, 1), (65, .getfield 29, 3), (68, .invokestatic 59, 3), (71, .aload_n 1, 1), (72, .getfield 32, 3), (75, .aload_n 0, 1), (76, .getfield 32, 3), (79, .invokestatic 59, 3), (82, .aload_n 1, 1), (83, .getfield 35, 3)]
def hb_c14_1 : List (Nat × Instr × Nat) := [(86, .aload_n 0, 1), (87, .getfield 35, 3), (90, .invokestatic 59, 3), (93, .aload_n 1, 1), (94, .getfield 38, 3), (97, .aload_n 0, 1), (98, .getfield 38, 3), (101, .invokestatic 59, 3), (104, .aload_n 0, 1), (105, .aload_n 1, 1), (106, .getfield 41, 3), (109, .putfield 41, 3), (112, .aload_n 1, 1), (113, .getfield 44, 3), (116, .aload_n 0, 1), (117, .getfield 44, 3), (120, .invokestatic 59, 3), (123, .aload_n 1, 1), (124, .getfield 47, 3), (127, .aload_n 0, 1), (128, .getfield 47, 3), (131, .invokestatic 59, 3), (134, .aload_n 1, 1), (135, .getfield 50, 3), (138, .aload_n 0, 1), (139, .getfield 50, 3), (142, .invokestatic 59, 3), (145, .aload_n 1, 1), (146, .getfield 53, 3), (149, .aload_n 0, 1), (150, .getfield 53, 3), (153, .invokestatic 59, 3), (156, .return_, 1)]
def hb_m14 : px_M := (hb_h14, hb_c14_0 ++ (hb_c14_1), hb_L1)
def hb_c15_0 : List (Nat × Instr × Nat) := [(0, .aload_n 0, 1), (1, .getfield 13, 3), (4, .aload_n 0, 1), (5, .getfield 7, 3), (8, .iload_n 1, 1), (9, .iastore, 1), (10, .aload_n 0, 1), (11, .getfield 17, 3), (14, .aload_n 0, 1), (15, .getfield 7, 3), (18, .iload_n 2, 1), (19, .iastore, 1), (20, .aload_n 0, 1), (21, .getfield 20, 3), (24, .aload_n 0, 1), (25, .getfield 7, 3), (28, .iload_n 3, 1), (29, .iastore, 1), (30, .aload_n 0, 1), (31, .getfield 23, 3), (34, .aload_n 0, 1), (35, .getfield 7, 3), (38, .iload 4, 2), (40, .iastore, 1), (41, .aload_n 0, 1), (42, .dup, 1), (43, .getfield 7, 3), (46, .dup_x1, 1), (47, .iconst 1, 1), (48, .iadd, 1), (49, .putfield 7, 3), (52, .ireturn, 1)]
def hb_m15 : px_M := (hb_h15, hb_c15_0, hb_L1)
def hb_c16_0 : List (Nat × Instr × Nat) := [(0, .aload_n 0, 1), (1, .getfield 29, 3), (4, .aload_n 0, 1), (5, .getfield 26, 3), (8, .iload_n 1, 1), (9, .iastore, 1), (10, .aload_n 0, 1), (11, .getfield 32, 3), (14, .aload_n 0, 1), (15, .getfield 26, 3), (18, .iload_n 2, 1), (19, .iastore, 1), (20, .aload_n 0, 1), (21, .getfield 35, 3), (24, .aload_n 0, 1), (25, .getfield 26, 3), (28, .iload_n 3, 1), (29, .iastore, 1), (30, .aload_n 0, 1), (31, .getfield 38, 3), (34, .aload_n 0, 1), (35, .getfield 26, 3), (38, .iload 4, 2), (40, .iastore, 1), (41, .aload_n 0, 1), (42, .dup, 1), (43, .getfield 26, 3), (46, .dup_x1, 1), (47, .iconst 1, 1), (48, .iadd, 1), (49, .putfield 26, 3), (52, .ireturn, 1)]
def hb_m16 : px_M := (hb_h16, hb_c16_0, hb_L1)
def hb_c17_0 : List (Nat × Instr × Nat) := [(0, .aload_n 0, 1), (1, .getfield 44, 3), (4, .aload_n 0, 1), (5, .getfield 41, 3), (8, .iload_n 1, 1), (9, .iastore, 1), (10, .aload_n 0, 1), (11, .getfield 47, 3), (14, .aload_n 0, 1), (15, .getfield 41, 3), (18, .iload_n 2, 1), (19, .iastore, 1), (20, .aload_n 0, 1), (21, .getfield 50, 3), (24, .aload_n 0, 1), (25, .getfield 41, 3), (28, .iload_n 3, 1), (29, .iastore, 1), (30, .aload_n 0, 1), (31, .getfield 53, 3), (34, .aload_n 0, 1), (35, .getfield 41, 3), (38, .iload 4, 2), (40, .iastore, 1), (41, .aload_n 0, 1), (42, .dup, 1), (43, .getfield 41, 3), (46, .dup_x1, 1), (47, .iconst 1, 1), (48, .iadd, 1), (49, .putfield 41, 3), (52, .ireturn, 1)]
def hb_m17 : px_M := (hb_h17, hb_c17_0, hb_L1)
def hb_c18_0 : List (Nat × Instr × Nat) := [(0, .iconst 0, 1), (1, .istore_n 1, 1), (2, .iconst 0, 1), (3, .istore_n 2, 1), (4, .iload_n 2, 1), (5, .aload_n 0, 1), (6, .getfield 41, 3), (9, .if_icmp .ge 18, 3), (12, .iload_n 1, 1), (13, .aload_n 0, 1), (14, .getfield 44, 3), (17, .iload_n 2, 1), (18, .iaload, 1), (19, .iadd, 1), (20, .istore_n 1, 1), (21, .iinc 2 1, 3), (24, .goto (-20), 3), (27, .iload_n 1, 1), (28, .ireturn, 1)]
def hb_m18 : px_M := (hb_h18, hb_c18_0, hb_L1)
def hb_c19_0 : List (Nat × Instr × Nat) := [(0, .iconst 0, 1), (1, .istore_n 1, 1), (2, .iconst 0, 1), (3, .istore_n 2, 1), (4, .iload_n 2, 1), (5, .aload_n 0, 1), (6, .getfield 26, 3), (9, .if_icmp .ge 18, 3), (12, .iload_n 1, 1), (13, .aload_n 0, 1), (14, .getfield 29, 3), (17, .iload_n 2, 1), (18, .iaload, 1), (19, .iadd, 1), (20, .istore_n 1, 1), (21, .iinc 2 1, 3), (24, .goto (-20), 3), (27, .iload_n 1, 1), (28, .ireturn, 1)]
def hb_m19 : px_M := (hb_h19, hb_c19_0, hb_L1)
def hb_c20_0 : List (Nat × Instr × Nat) := [(0, .iconst 0, 1), (1, .istore_n 2, 1), (2, .iload_n 2, 1), (3, .bipush 8, 2), (5, .if_icmp .ge 17, 3), (8, .aload_n 0, 1), (9, .getfield 56, 3), (12, .iload_n 2, 1), (13, .ldc 65, 2), (15, .iastore, 1), (16, .iinc 2 1, 3), (19, .goto (-17), 3), (22, .aload_n 0, 1), (23, .getfield 56, 3), (26, .aload_n 0, 1), (27, .getfield 35, 3), (30, .iload_n 1, 1), (31, .iaload, 1), (32, .aload_n 0, 1), (33, .getfield 38, 3), (36, .iload_n 1, 1), (37, .iaload, 1), (38, .iastore, 1), (39, .iconst 1, 1), (40, .istore_n 2, 1), (41, .iconst 0, 1), (42, .istore_n 3, 1), (43, .iload_n 3, 1), (44, .bipush 8, 2), (46, .if_icmp .ge 97, 3), (49, .iload_n 2, 1), (50, .ifCond .eq 93, 3), (53, .iconst 0, 1), (54, .istore_n 2, 1), (55, .iconst 0, 1), (56, .istore 4, 2), (58, .iload 4, 2), (60, .aload_n 0, 1), (61, .getfield 7, 3), (64, .if_icmp .ge 73, 3)]
def hb_c20_1 : List (Nat × Instr × Nat) := [(67, .aload_n 0, 1), (68, .iload 4, 2), (70, .aload_n 0, 1), (71, .getfield 13, 3), (74, .iload 4, 2), (76, .iaload, 1), (77, .aload_n 0, 1), (78, .getfield 17, 3), (81, .iload 4, 2), (83, .iaload, 1), (84, .invokevirtual 66, 3), (87, .istore 5, 2), (89, .aload_n 0, 1), (90, .iload 4, 2), (92, .aload_n 0, 1), (93, .getfield 17, 3), (96, .iload 4, 2), (98, .iaload, 1), (99, .aload_n 0, 1), (100, .getfield 13, 3), (103, .iload 4, 2), (105, .iaload, 1), (106, .invokevirtual 66, 3), (109, .istore 6, 2), (111, .iload_n 2, 1), (112, .ifCond .ne 13, 3), (115, .iload 5, 2), (117, .ifCond .ne 8, 3), (120, .iload 6, 2), (122, .ifCond .eq 7, 3), (125, .iconst 1, 1), (126, .goto 4, 3), (129, .iconst 0, 1), (130, .istore_n 2, 1), (131, .iinc 4 1, 3), (134, .goto (-76), 3), (137, .iinc 3 1, 3), (140, .goto (-97), 3), (143, .return_, 1)]
def hb_m20 : px_M := (hb_h20, hb_c20_0 ++ (hb_c20_1), hb_L1)
def hb_c21_0 : List (Nat × Instr × Nat) := [(0, .aload_n 0, 1), (1, .getfield 56, 3), (4, .iload_n 2, 1), (5, .iaload, 1), (6, .ldc 65, 2), (8, .if_icmp .ne 5, 3), (11, .iconst 0, 1), (12, .ireturn, 1), (13, .aload_n 0, 1), (14, .getfield 56, 3), (17, .iload_n 2, 1), (18, .iaload, 1), (19, .aload_n 0, 1), (20, .getfield 23, 3), (23, .iload_n 1, 1), (24, .iaload, 1), (25, .invokestatic 70, 3), (28, .aload_n 0, 1), (29, .getfield 20, 3), (32, .iload_n 1, 1), (33, .iaload, 1), (34, .iadd, 1), (35, .istore 4, 2), (37, .iload 4, 2), (39, .aload_n 0, 1), (40, .getfield 56, 3), (43, .iload_n 3, 1), (44, .iaload, 1), (45, .if_icmp .lt 5, 3), (48, .iconst 0, 1), (49, .ireturn, 1), (50, .aload_n 0, 1), (51, .getfield 56, 3), (54, .iload_n 3, 1), (55, .iload 4, 2), (57, .iastore, 1), (58, .iconst 1, 1), (59, .ireturn, 1)]
def hb_m21 : px_M := (hb_h21, hb_c21_0, hb_L1)
def hb_c22_0 : List (Nat × Instr × Nat) := [(0, .aload_n 0, 1), (1, .invokespecial 3, 3), (4, .aload_n 0, 1), (5, .iconst 4, 1), (6, .newarray .int, 2), (8, .putfield 11, 3), (11, .aload_n 0, 1), (12, .iconst 4, 1), (13, .newarray .int, 2), (15, .putfield 15, 3), (18, .aload_n 0, 1), (19, .iconst 4, 1), (20, .newarray .int, 2), (22, .putfield 18, 3), (25, .aload_n 0, 1), (26, .iconst 4, 1), (27, .newarray .int, 2), (29, .putfield 21, 3), (32, .aload_n 0, 1), (33, .iconst 4, 1), (34, .newarray .int, 2), (36, .putfield 24, 3), (39, .aload_n 0, 1), (40, .sipush 160, 3), (43, .newarray .long, 2), (45, .putfield 27, 3), (48, .iconst 0, 1), (49, .istore_n 1, 1), (50, .iload_n 1, 1), (51, .iconst 4, 1), (52, .if_icmp .ge 24, 3), (55, .aload_n 0, 1), (56, .getfield 11, 3), (59, .iload_n 1, 1), (60, .iconst (-1), 1), (61, .iastore, 1), (62, .aload_n 0, 1), (63, .getfield 15, 3), (66, .iload_n 1, 1), (67, .bipush 6, 2)]
def hb_c22_1 : List (Nat × Instr × Nat) := [(69, .iastore, 1), (70, .iinc 1 1, 3), (73, .goto (-23), 3), (76, .return_, 1)]
def hb_m22 : px_M := (hb_h22, hb_c22_0 ++ (hb_c22_1), hb_L2)
def hb_c23_0 : List (Nat × Instr × Nat) := [(0, .iload_n 0, 1), (1, .ifCond .lt 12, 3), (4, .iload_n 0, 1), (5, .iconst 4, 1), (6, .if_icmp .ge 7, 3), (9, .iconst 1, 1), (10, .goto 4, 3), (13, .iconst 0, 1), (14, .ireturn, 1)]
def hb_m23 : px_M := (hb_h23, hb_c23_0, hb_L2)
def hb_c24_0 : List (Nat × Instr × Nat) := [(0, .aload_n 0, 1), (1, .getfield 11, 3), (4, .iload_n 1, 1), (5, .iload_n 2, 1), (6, .iastore, 1), (7, .aload_n 0, 1), (8, .getfield 24, 3), (11, .iload_n 1, 1), (12, .iload_n 2, 1), (13, .iconst (-1), 1), (14, .if_icmp .ne 7, 3), (17, .iconst 0, 1), (18, .goto 4, 3), (21, .iload_n 3, 1), (22, .iastore, 1), (23, .iconst 0, 1), (24, .istore 4, 2), (26, .iload 4, 2), (28, .bipush 40, 2), (30, .if_icmp .ge 22, 3), (33, .aload_n 0, 1), (34, .getfield 27, 3), (37, .iload_n 1, 1), (38, .bipush 40, 2), (40, .imul, 1), (41, .iload 4, 2), (43, .iadd, 1), (44, .lconst 0, 1), (45, .lastore, 1), (46, .iinc 4 1, 3), (49, .goto (-23), 3), (52, .return_, 1)]
def hb_m24 : px_M := (hb_h24, hb_c24_0, hb_L2)
def hb_c25_0 : List (Nat × Instr × Nat) := [(0, .iload_n 2, 1), (1, .ifCond .lt 17, 3), (4, .iload_n 2, 1), (5, .aload_n 0, 1), (6, .getfield 24, 3), (9, .iload_n 1, 1), (10, .iaload, 1), (11, .if_icmp .ge 7, 3), (14, .iconst 1, 1), (15, .goto 4, 3), (18, .iconst 0, 1), (19, .ireturn, 1)]
def hb_m25 : px_M := (hb_h25, hb_c25_0, hb_L2)
def hb_c26_0 : List (Nat × Instr × Nat) := [(0, .aload_n 0, 1), (1, .getfield 11, 3), (4, .iload_n 1, 1), (5, .iaload, 1), (6, .iconst (-1), 1), (7, .if_icmp .ne 6, 3), (10, .bipush (-11), 2), (12, .ireturn, 1), (13, .aload_n 0, 1), (14, .getfield 11, 3), (17, .iload_n 1, 1), (18, .iaload, 1), (19, .iload_n 2, 1), (20, .if_icmp .ne 7, 3), (23, .iconst 0, 1), (24, .goto 5, 3), (27, .bipush (-13), 2), (29, .ireturn, 1)]
def hb_m26 : px_M := (hb_h26, hb_c26_0, hb_L2)
def hb_c27_0 : List (Nat × Instr × Nat) := [(0, .aload_n 0, 1), (1, .getfield 27, 3), (4, .iload_n 1, 1), (5, .bipush 40, 2), (7, .imul, 1), (8, .iload_n 2, 1), (9, .iadd, 1), (10, .aload_n 0, 1), (11, .getfield 11, 3), (14, .iload_n 1, 1), (15, .iaload, 1), (16, .iload_n 3, 1), (17, .invokestatic 31, 3), (20, .lastore, 1), (21, .return_, 1)]
def hb_m27 : px_M := (hb_h27, hb_c27_0, hb_L2)
def hb_c28_0 : List (Nat × Instr × Nat) := [(0, .aload_n 0, 1), (1, .getfield 27, 3), (4, .iload_n 1, 1), (5, .bipush 40, 2), (7, .imul, 1), (8, .iload_n 2, 1), (9, .iadd, 1), (10, .laload, 1), (11, .l2i, 1), (12, .ireturn, 1)]
def hb_m28 : px_M := (hb_h28, hb_c28_0, hb_L2)
def hb_c29_0 : List (Nat × Instr × Nat) := [(0, .iload_n 0, 1), (1, .tableswitch 53 0 4 #[35, 39, 53, 53, 43], 35), (36, .iload_n 1, 1), (37, .i2b, 1), (38, .i2l, 1), (39, .lreturn, 1), (40, .iload_n 1, 1), (41, .i2s, 1), (42, .i2l, 1), (43, .lreturn, 1), (44, .iload_n 1, 1), (45, .ifCond .eq 7, 3), (48, .lconst 1, 1), (49, .goto 4, 3), (52, .lconst 0, 1), (53, .lreturn, 1), (54, .iload_n 1, 1), (55, .i2l, 1), (56, .lreturn, 1)]
def hb_m29 : px_M := (hb_h29, hb_c29_0, hb_L2)
def hb_c30_0 : List (Nat × Instr × Nat) := [(0, .iload_n 2, 1), (1, .iconst 5, 1), (2, .if_icmp .ne 17, 3), (5, .aload_n 0, 1), (6, .getfield 11, 3), (9, .iload_n 3, 1), (10, .iaload, 1), (11, .iconst (-1), 1), (12, .if_icmp .ne 7, 3), (15, .iconst 1, 1), (16, .goto 4, 3), (19, .iconst 0, 1), (20, .istore 4, 2), (22, .aload_n 0, 1), (23, .getfield 15, 3), (26, .iload_n 1, 1), (27, .iload 4, 2), (29, .ifCond .eq 8, 3), (32, .bipush 6, 2), (34, .goto 4, 3), (37, .iload_n 2, 1), (38, .iastore, 1), (39, .aload_n 0, 1), (40, .getfield 18, 3), (43, .iload_n 1, 1), (44, .iload_n 2, 1), (45, .iconst 5, 1), (46, .if_icmp .ne 12, 3), (49, .aload_n 0, 1), (50, .getfield 24, 3), (53, .iload_n 3, 1), (54, .iaload, 1), (55, .goto 4, 3), (58, .iload_n 3, 1), (59, .iastore, 1), (60, .aload_n 0, 1), (61, .getfield 21, 3), (64, .iload_n 1, 1), (65, .iload_n 2, 1), (66, .iconst 5, 1)]
def hb_c30_1 : List (Nat × Instr × Nat) := [(67, .if_icmp .ne 12, 3), (70, .aload_n 0, 1), (71, .getfield 11, 3), (74, .iload_n 3, 1), (75, .iaload, 1), (76, .goto 4, 3), (79, .iconst 0, 1), (80, .iastore, 1), (81, .return_, 1)]
def hb_m30 : px_M := (hb_h30, hb_c30_0 ++ (hb_c30_1), hb_L2)
def hb_c31_0 : List (Nat × Instr × Nat) := [(0, .aload_n 0, 1), (1, .invokespecial 3, 3), (4, .aload_n 0, 1), (5, .iconst 0, 1), (6, .putfield 9, 3), (9, .aload_n 0, 1), (10, .bipush (-3), 2), (12, .putfield 15, 3), (15, .aload_n 0, 1), (16, .bipush 8, 2), (18, .newarray .int, 2), (20, .putfield 18, 3), (23, .aload_n 0, 1), (24, .bipush 8, 2), (26, .newarray .int, 2), (28, .putfield 22, 3), (31, .aload_n 0, 1), (32, .bipush 8, 2), (34, .newarray .int, 2), (36, .putfield 25, 3), (39, .aload_n 0, 1), (40, .bipush 8, 2), (42, .newarray .int, 2), (44, .putfield 28, 3), (47, .aload_n 0, 1), (48, .bipush 7, 2), (50, .newarray .int, 2), (52, .putfield 31, 3), (55, .aload_n 0, 1), (56, .bipush 7, 2), (58, .newarray .int, 2), (60, .putfield 34, 3), (63, .aload_n 0, 1), (64, .iconst 0, 1), (65, .putfield 37, 3), (68, .aload_n 0, 1), (69, .iconst 0, 1), (70, .putfield 40, 3), (73, .aload_n 0, 1), (74, .bipush 8, 2)]
def hb_c31_1 : List (Nat × Instr × Nat) := [(76, .newarray .int, 2), (78, .putfield 43, 3), (81, .aload_n 0, 1), (82, .bipush 8, 2), (84, .newarray .int, 2), (86, .putfield 46, 3), (89, .iconst 0, 1), (90, .istore_n 1, 1), (91, .iload_n 1, 1), (92, .bipush 8, 2), (94, .if_icmp .ge 17, 3), (97, .aload_n 0, 1), (98, .getfield 18, 3), (101, .iload_n 1, 1), (102, .bipush 100, 2), (104, .iastore, 1), (105, .iinc 1 1, 3), (108, .goto (-17), 3), (111, .iconst 0, 1), (112, .istore_n 1, 1), (113, .iload_n 1, 1), (114, .bipush 7, 2), (116, .if_icmp .ge 17, 3), (119, .aload_n 0, 1), (120, .getfield 31, 3), (123, .iload_n 1, 1), (124, .bipush 100, 2), (126, .iastore, 1), (127, .iinc 1 1, 3), (130, .goto (-17), 3), (133, .return_, 1)]
def hb_m31 : px_M := (hb_h31, hb_c31_0 ++ (hb_c31_1), hb_L3)
def hb_c32_0 : List (Nat × Instr × Nat) := [(0, .aload_n 0, 1), (1, .aload_n 1, 1), (2, .getfield 9, 3), (5, .putfield 9, 3), (8, .aload_n 0, 1), (9, .aload_n 1, 1), (10, .getfield 15, 3), (13, .putfield 15, 3), (16, .aload_n 1, 1), (17, .getfield 18, 3), (20, .aload_n 0, 1), (21, .getfield 18, 3), (24, .invokestatic 49, 3), (27, .aload_n 1, 1), (28, .getfield 22, 3), (31, .aload_n 0, 1), (32, .getfield 22, 3), (35, .invokestatic 49, 3), (38, .aload_n 1, 1), (39, .getfield 25, 3), (42, .aload_n 0, 1), (43, .getfield 25, 3), (46, .invokestatic 49, 3), (49, .aload_n 1, 1), (50, .getfield 28, 3), (53, .aload_n 0, 1), (54, .getfield 28, 3), (57, .invokestatic 49, 3), (60, .aload_n 1, 1), (61, .getfield 31, 3), (64, .aload_n 0, 1), (65, .getfield 31, 3), (68, .invokestatic 49, 3), (71, .aload_n 1, 1), (72, .getfield 34, 3), (75, .aload_n 0, 1), (76, .getfield 34, 3), (79, .invokestatic 49, 3), (82, .aload_n 0, 1), (83, .invokevirtual 53, 3)]
def hb_c32_1 : List (Nat × Instr × Nat) := [(86, .return_, 1)]
def hb_m32 : px_M := (hb_h32, hb_c32_0 ++ (hb_c32_1), hb_L3)
def hb_c33_0 : List (Nat × Instr × Nat) := [(0, .iload_n 0, 1), (1, .ifCond .ne 13, 3), (4, .iload_n 1, 1), (5, .bipush 10, 2), (7, .sipush 999, 3), (10, .invokestatic 56, 3), (13, .ireturn, 1), (14, .iload_n 0, 1), (15, .iconst 1, 1), (16, .iconst 2, 1), (17, .invokestatic 56, 3), (20, .ifCond .eq 17, 3), (23, .iload_n 1, 1), (24, .iconst 0, 1), (25, .bipush 9, 2), (27, .invokestatic 56, 3), (30, .ifCond .eq 7, 3), (33, .iconst 1, 1), (34, .goto 4, 3), (37, .iconst 0, 1), (38, .ireturn, 1)]
def hb_m33 : px_M := (hb_h33, hb_c33_0, hb_L3)
def hb_c34_0 : List (Nat × Instr × Nat) := [(0, .iload_n 2, 1), (1, .ifCond .ne 10, 3), (4, .aload_n 0, 1), (5, .getfield 18, 3), (8, .goto 19, 3), (11, .iload_n 2, 1), (12, .iconst 1, 1), (13, .if_icmp .ne 10, 3), (16, .aload_n 0, 1), (17, .getfield 25, 3), (20, .goto 7, 3), (23, .aload_n 0, 1), (24, .getfield 28, 3), (27, .astore 4, 2), (29, .aload 4, 2), (31, .iload_n 1, 1), (32, .iaload, 1), (33, .istore 5, 2), (35, .aload 4, 2), (37, .iload_n 1, 1), (38, .iload_n 3, 1), (39, .iastore, 1), (40, .aload_n 0, 1), (41, .getfield 22, 3), (44, .iload_n 1, 1), (45, .aload_n 0, 1), (46, .getfield 22, 3), (49, .iload_n 1, 1), (50, .iaload, 1), (51, .aload_n 0, 1), (52, .getfield 18, 3), (55, .iload_n 1, 1), (56, .iaload, 1), (57, .invokestatic 60, 3), (60, .iastore, 1), (61, .aload_n 0, 1), (62, .invokevirtual 53, 3), (65, .iload 5, 2), (67, .ireturn, 1)]
def hb_m34 : px_M := (hb_h34, hb_c34_0, hb_L3)
def hb_c35_0 : List (Nat × Instr × Nat) := [(0, .aload_n 0, 1), (1, .iconst 0, 1), (2, .putfield 9, 3), (5, .aload_n 0, 1), (6, .bipush (-3), 2), (8, .putfield 15, 3), (11, .iconst 0, 1), (12, .istore_n 3, 1), (13, .iload_n 3, 1), (14, .bipush 8, 2), (16, .if_icmp .ge 36, 3), (19, .aload_n 0, 1), (20, .getfield 22, 3), (23, .iload_n 3, 1), (24, .iconst 0, 1), (25, .iastore, 1), (26, .aload_n 0, 1), (27, .getfield 25, 3), (30, .iload_n 3, 1), (31, .iload_n 1, 1), (32, .iload_n 3, 1), (33, .ishr, 1), (34, .iconst 1, 1), (35, .iand, 1), (36, .iconst 1, 1), (37, .if_icmp .ne 7, 3), (40, .iload_n 2, 1), (41, .goto 4, 3), (44, .iconst 0, 1), (45, .iastore, 1), (46, .iinc 3 1, 3), (49, .goto (-36), 3), (52, .aload_n 0, 1), (53, .invokevirtual 53, 3), (56, .return_, 1)]
def hb_m35 : px_M := (hb_h35, hb_c35_0, hb_L3)
def hb_c36_0 : List (Nat × Instr × Nat) := [(0, .aload_n 0, 1), (1, .getfield 18, 3), (4, .iload_n 1, 1), (5, .iaload, 1), (6, .ifCond .ne 7, 3), (9, .iconst 0, 1), (10, .goto 19, 3), (13, .bipush 100, 2), (15, .aload_n 0, 1), (16, .getfield 22, 3), (19, .iload_n 1, 1), (20, .iaload, 1), (21, .imul, 1), (22, .aload_n 0, 1), (23, .getfield 18, 3), (26, .iload_n 1, 1), (27, .iaload, 1), (28, .idiv, 1), (29, .ireturn, 1)]
def hb_m36 : px_M := (hb_h36, hb_c36_0, hb_L3)
def hb_c37_0 : List (Nat × Instr × Nat) := [(0, .bipush 40, 2), (2, .aload_n 0, 1), (3, .getfield 37, 3), (6, .bipush 20, 2), (8, .idiv, 1), (9, .iadd, 1), (10, .aload_n 0, 1), (11, .getfield 40, 3), (14, .bipush 7, 2), (16, .iconst 2, 1), (17, .iload_n 1, 1), (18, .imul, 1), (19, .isub, 1), (20, .imul, 1), (21, .bipush 7, 2), (23, .idiv, 1), (24, .iadd, 1), (25, .istore_n 2, 1), (26, .iconst 0, 1), (27, .bipush 100, 2), (29, .iload_n 2, 1), (30, .invokestatic 60, 3), (33, .invokestatic 66, 3), (36, .ireturn, 1)]
def hb_m37 : px_M := (hb_h37, hb_c37_0, hb_L3)
def hb_c38_0 : List (Nat × Instr × Nat) := [(0, .iconst 0, 1), (1, .istore_n 1, 1), (2, .iconst 0, 1), (3, .istore_n 2, 1), (4, .iload_n 2, 1), (5, .bipush 8, 2), (7, .if_icmp .ge 18, 3), (10, .iload_n 1, 1), (11, .aload_n 0, 1), (12, .getfield 18, 3), (15, .iload_n 2, 1), (16, .iaload, 1), (17, .iadd, 1), (18, .istore_n 1, 1), (19, .iinc 2 1, 3), (22, .goto (-18), 3), (25, .iload_n 1, 1), (26, .ireturn, 1)]
def hb_m38 : px_M := (hb_h38, hb_c38_0, hb_L3)
def hb_c39_0 : List (Nat × Instr × Nat) := [(0, .aload_n 0, 1), (1, .dup, 1), (2, .getfield 9, 3), (5, .iconst 1, 1), (6, .iadd, 1), (7, .putfield 9, 3), (10, .aload_n 0, 1), (11, .getfield 15, 3), (14, .bipush (-3), 2), (16, .if_icmp .eq 5, 3), (19, .iconst 0, 1), (20, .ireturn, 1), (21, .aload_n 0, 1), (22, .invokevirtual 69, 3), (25, .aload_n 0, 1), (26, .invokevirtual 72, 3), (29, .istore_n 1, 1), (30, .aload_n 0, 1), (31, .iconst 0, 1), (32, .invokevirtual 76, 3), (35, .bipush 100, 2), (37, .if_icmp .eq 14, 3), (40, .aload_n 0, 1), (41, .bipush 7, 2), (43, .invokevirtual 76, 3), (46, .bipush 100, 2), (48, .if_icmp .ne 11, 3), (51, .aload_n 0, 1), (52, .aload_n 0, 1), (53, .getfield 9, 3), (56, .putfield 15, 3), (59, .iload_n 1, 1), (60, .ireturn, 1)]
def hb_m39 : px_M := (hb_h39, hb_c39_0, hb_L3)
def hb_c40_0 : List (Nat × Instr × Nat) := [(0, .iconst 0, 1), (1, .istore_n 1, 1), (2, .aload_n 0, 1), (3, .iconst 0, 1), (4, .putfield 37, 3), (7, .iconst 0, 1), (8, .istore_n 2, 1), (9, .iload_n 2, 1), (10, .bipush 8, 2), (12, .if_icmp .ge 40, 3), (15, .aload_n 0, 1), (16, .dup, 1), (17, .getfield 37, 3), (20, .aload_n 0, 1), (21, .getfield 22, 3), (24, .iload_n 2, 1), (25, .iaload, 1), (26, .iadd, 1), (27, .putfield 37, 3), (30, .iload_n 1, 1), (31, .aload_n 0, 1), (32, .getfield 22, 3), (35, .iload_n 2, 1), (36, .iaload, 1), (37, .bipush 7, 2), (39, .iconst 2, 1), (40, .iload_n 2, 1), (41, .imul, 1), (42, .isub, 1), (43, .imul, 1), (44, .iadd, 1), (45, .istore_n 1, 1), (46, .iinc 2 1, 3), (49, .goto (-40), 3), (52, .aload_n 0, 1), (53, .iload_n 1, 1), (54, .bipush 100, 2), (56, .idiv, 1), (57, .putfield 40, 3), (60, .return_, 1)]
def hb_m40 : px_M := (hb_h40, hb_c40_0, hb_L3)
def hb_c41_0 : List (Nat × Instr × Nat) := [(0, .iconst 0, 1), (1, .istore_n 1, 1), (2, .iload_n 1, 1), (3, .bipush 8, 2), (5, .if_icmp .ge 77, 3), (8, .aload_n 0, 1), (9, .getfield 43, 3), (12, .iload_n 1, 1), (13, .aload_n 0, 1), (14, .iload_n 1, 1), (15, .invokevirtual 80, 3), (18, .iastore, 1), (19, .aload_n 0, 1), (20, .getfield 46, 3), (23, .iload_n 1, 1), (24, .aload_n 0, 1), (25, .getfield 28, 3), (28, .iload_n 1, 1), (29, .iaload, 1), (30, .ineg, 1), (31, .iastore, 1), (32, .aload_n 0, 1), (33, .getfield 25, 3), (36, .iload_n 1, 1), (37, .iaload, 1), (38, .ifCond .le 38, 3), (41, .aload_n 0, 1), (42, .getfield 46, 3), (45, .iload_n 1, 1), (46, .dup2, 1), (47, .iaload, 1), (48, .iconst 0, 1), (49, .aload_n 0, 1), (50, .getfield 25, 3), (53, .iload_n 1, 1), (54, .iaload, 1), (55, .aload_n 0, 1), (56, .iload_n 1, 1), (57, .invokevirtual 76, 3), (60, .aload_n 0, 1)]
def hb_c41_1 : List (Nat × Instr × Nat) := [(61, .getfield 43, 3), (64, .iload_n 1, 1), (65, .iaload, 1), (66, .isub, 1), (67, .imul, 1), (68, .bipush 10, 2), (70, .idiv, 1), (71, .invokestatic 66, 3), (74, .iadd, 1), (75, .iastore, 1), (76, .iinc 1 1, 3), (79, .goto (-77), 3), (82, .iconst 0, 1), (83, .istore_n 1, 1), (84, .iload_n 1, 1), (85, .bipush 7, 2), (87, .if_icmp .ge 31, 3), (90, .aload_n 0, 1), (91, .getfield 43, 3), (94, .iload_n 1, 1), (95, .iaload, 1), (96, .aload_n 0, 1), (97, .getfield 43, 3), (100, .iload_n 1, 1), (101, .iconst 1, 1), (102, .iadd, 1), (103, .iaload, 1), (104, .if_icmp .eq 8, 3), (107, .aload_n 0, 1), (108, .iload_n 1, 1), (109, .invokevirtual 83, 3), (112, .iinc 1 1, 3), (115, .goto (-31), 3), (118, .return_, 1)]
def hb_m41 : px_M := (hb_h41, hb_c41_0 ++ (hb_c41_1), hb_L3)
def hb_c42_0 : List (Nat × Instr × Nat) := [(0, .aload_n 0, 1), (1, .getfield 34, 3), (4, .iload_n 1, 1), (5, .iaload, 1), (6, .iconst 1, 1), (7, .if_icmp .ne 7, 3), (10, .iconst 0, 1), (11, .goto 9, 3), (14, .aload_n 0, 1), (15, .getfield 31, 3), (18, .iload_n 1, 1), (19, .iaload, 1), (20, .istore_n 2, 1), (21, .aload_n 0, 1), (22, .getfield 43, 3), (25, .iload_n 1, 1), (26, .iaload, 1), (27, .aload_n 0, 1), (28, .getfield 43, 3), (31, .iload_n 1, 1), (32, .iconst 1, 1), (33, .iadd, 1), (34, .iaload, 1), (35, .invokestatic 66, 3), (38, .iload_n 2, 1), (39, .aload_n 0, 1), (40, .getfield 43, 3), (43, .iload_n 1, 1), (44, .iaload, 1), (45, .aload_n 0, 1), (46, .getfield 43, 3), (49, .iload_n 1, 1), (50, .iconst 1, 1), (51, .iadd, 1), (52, .iaload, 1), (53, .invokestatic 60, 3), (56, .invokestatic 66, 3), (59, .isub, 1), (60, .istore_n 3, 1), (61, .iload_n 3, 1)]
def hb_c42_1 : List (Nat × Instr × Nat) := [(62, .ifCond .gt 4, 3), (65, .return_, 1), (66, .aload_n 0, 1), (67, .getfield 43, 3), (70, .iload_n 1, 1), (71, .iaload, 1), (72, .aload_n 0, 1), (73, .getfield 43, 3), (76, .iload_n 1, 1), (77, .iconst 1, 1), (78, .iadd, 1), (79, .iaload, 1), (80, .if_icmp .le 9, 3), (83, .iload_n 3, 1), (84, .iconst 4, 1), (85, .idiv, 1), (86, .goto 7, 3), (89, .iload_n 3, 1), (90, .iconst 4, 1), (91, .idiv, 1), (92, .ineg, 1), (93, .istore 4, 2), (95, .aload_n 0, 1), (96, .getfield 46, 3), (99, .iload_n 1, 1), (100, .dup2, 1), (101, .iaload, 1), (102, .iload 4, 2), (104, .isub, 1), (105, .iastore, 1), (106, .aload_n 0, 1), (107, .getfield 46, 3), (110, .iload_n 1, 1), (111, .iconst 1, 1), (112, .iadd, 1), (113, .dup2, 1), (114, .iaload, 1), (115, .iload 4, 2), (117, .iadd, 1), (118, .iastore, 1)]
def hb_c42_2 : List (Nat × Instr × Nat) := [(119, .return_, 1)]
def hb_m42 : px_M := (hb_h42, hb_c42_0 ++ (hb_c42_1 ++ (hb_c42_2)), hb_L3)
def hb_c43_0 : List (Nat × Instr × Nat) := [(0, .iconst 0, 1), (1, .istore_n 1, 1), (2, .iconst 0, 1), (3, .istore_n 2, 1), (4, .iload_n 2, 1), (5, .bipush 8, 2), (7, .if_icmp .ge 72, 3), (10, .aload_n 0, 1), (11, .getfield 46, 3), (14, .iload_n 2, 1), (15, .iaload, 1), (16, .ifCond .eq 57, 3), (19, .iconst 0, 1), (20, .aload_n 0, 1), (21, .getfield 18, 3), (24, .iload_n 2, 1), (25, .iaload, 1), (26, .aload_n 0, 1), (27, .getfield 22, 3), (30, .iload_n 2, 1), (31, .iaload, 1), (32, .aload_n 0, 1), (33, .getfield 46, 3), (36, .iload_n 2, 1), (37, .iaload, 1), (38, .iadd, 1), (39, .invokestatic 60, 3), (42, .invokestatic 66, 3), (45, .istore_n 3, 1), (46, .iload_n 1, 1), (47, .ifCond .ne 13, 3), (50, .iload_n 3, 1), (51, .aload_n 0, 1), (52, .getfield 22, 3), (55, .iload_n 2, 1), (56, .iaload, 1), (57, .if_icmp .eq 7, 3), (60, .iconst 1, 1), (61, .goto 4, 3), (64, .iconst 0, 1)]
def hb_c43_1 : List (Nat × Instr × Nat) := [(65, .istore_n 1, 1), (66, .aload_n 0, 1), (67, .getfield 22, 3), (70, .iload_n 2, 1), (71, .iload_n 3, 1), (72, .iastore, 1), (73, .iinc 2 1, 3), (76, .goto (-72), 3), (79, .iload_n 1, 1), (80, .ifCond .eq 7, 3), (83, .aload_n 0, 1), (84, .invokevirtual 53, 3), (87, .iload_n 1, 1), (88, .ireturn, 1)]
def hb_m43 : px_M := (hb_h43, hb_c43_0 ++ (hb_c43_1), hb_L3)
def hb_c44_0 : List (Nat × Instr × Nat) := [(0, .aload_n 0, 1), (1, .invokespecial 1, 3), (4, .aload_n 0, 1), (5, .iconst 0, 1), (6, .putfield 7, 3), (9, .aload_n 0, 1), (10, .iconst 0, 1), (11, .putfield 13, 3), (14, .aload_n 0, 1), (15, .iconst 0, 1), (16, .putfield 16, 3), (19, .aload_n 0, 1), (20, .bipush 7, 2), (22, .newarray .int, 2), (24, .putfield 19, 3), (27, .aload_n 0, 1), (28, .bipush 7, 2), (30, .newarray .int, 2), (32, .putfield 23, 3), (35, .aload_n 0, 1), (36, .bipush 7, 2), (38, .newarray .int, 2), (40, .putfield 26, 3), (43, .aload_n 0, 1), (44, .bipush 7, 2), (46, .newarray .int, 2), (48, .putfield 29, 3), (51, .aload_n 0, 1), (52, .bipush 8, 2), (54, .newarray .int, 2), (56, .putfield 32, 3), (59, .aload_n 0, 1), (60, .bipush 8, 2), (62, .newarray .int, 2), (64, .putfield 35, 3), (67, .aload_n 0, 1), (68, .iconst 0, 1), (69, .putfield 38, 3), (72, .aload_n 0, 1), (73, .iconst 0, 1)]
def hb_c44_1 : List (Nat × Instr × Nat) := [(74, .putfield 42, 3), (77, .return_, 1)]
def hb_m44 : px_M := (hb_h44, hb_c44_0 ++ (hb_c44_1), hb_L4)
def hb_c45_0 : List (Nat × Instr × Nat) := [(0, .aload_n 0, 1), (1, .aload_n 1, 1), (2, .getfield 7, 3), (5, .putfield 7, 3), (8, .aload_n 1, 1), (9, .getfield 23, 3), (12, .aload_n 0, 1), (13, .getfield 23, 3), (16, .invokestatic 45, 3), (19, .aload_n 1, 1), (20, .getfield 26, 3), (23, .aload_n 0, 1), (24, .getfield 26, 3), (27, .invokestatic 45, 3), (30, .return_, 1)]
def hb_m45 : px_M := (hb_h45, hb_c45_0, hb_L4)
def hb_c46_0 : List (Nat × Instr × Nat) := [(0, .aload_n 0, 1), (1, .getfield 23, 3), (4, .aload_n 0, 1), (5, .getfield 7, 3), (8, .iload_n 1, 1), (9, .iastore, 1), (10, .aload_n 0, 1), (11, .getfield 26, 3), (14, .aload_n 0, 1), (15, .getfield 7, 3), (18, .iload_n 2, 1), (19, .iastore, 1), (20, .aload_n 0, 1), (21, .dup, 1), (22, .getfield 7, 3), (25, .iconst 1, 1), (26, .iadd, 1), (27, .putfield 7, 3), (30, .aload_n 0, 1), (31, .getfield 7, 3), (34, .ireturn, 1)]
def hb_m46 : px_M := (hb_h46, hb_c46_0, hb_L4)
def hb_c47_0 : List (Nat × Instr × Nat) := [(0, .aload_n 0, 1), (1, .iconst 0, 1), (2, .putfield 38, 3), (5, .aload_n 0, 1), (6, .iload_n 1, 1), (7, .putfield 42, 3), (10, .aload_n 0, 1), (11, .getfield 32, 3), (14, .aload_n 0, 1), (15, .getfield 7, 3), (18, .iconst 0, 1), (19, .iastore, 1), (20, .aload_n 0, 1), (21, .getfield 35, 3), (24, .aload_n 0, 1), (25, .getfield 7, 3), (28, .iconst 0, 1), (29, .iastore, 1), (30, .aload_n 0, 1), (31, .getfield 7, 3), (34, .iconst 1, 1), (35, .isub, 1), (36, .istore_n 2, 1), (37, .iload_n 2, 1), (38, .ifCond .lt 51, 3), (41, .aload_n 0, 1), (42, .getfield 32, 3), (45, .iload_n 2, 1), (46, .aload_n 0, 1), (47, .getfield 32, 3), (50, .iload_n 2, 1), (51, .iconst 1, 1), (52, .iadd, 1), (53, .iaload, 1), (54, .aload_n 0, 1), (55, .iload_n 2, 1), (56, .iconst 4, 1), (57, .invokevirtual 51, 3), (60, .iadd, 1), (61, .iastore, 1)]
def hb_c47_1 : List (Nat × Instr × Nat) := [(62, .aload_n 0, 1), (63, .getfield 35, 3), (66, .iload_n 2, 1), (67, .aload_n 0, 1), (68, .getfield 35, 3), (71, .iload_n 2, 1), (72, .iconst 1, 1), (73, .iadd, 1), (74, .iaload, 1), (75, .aload_n 0, 1), (76, .iload_n 2, 1), (77, .iconst 1, 1), (78, .invokevirtual 55, 3), (81, .iadd, 1), (82, .iastore, 1), (83, .iinc 2 (-1), 3), (86, .goto (-49), 3), (89, .aload_n 0, 1), (90, .iconst 0, 1), (91, .iconst 0, 1), (92, .iconst 0, 1), (93, .invokevirtual 58, 3), (96, .aload_n 0, 1), (97, .getfield 38, 3), (100, .ireturn, 1)]
def hb_m47 : px_M := (hb_h47, hb_c47_0 ++ (hb_c47_1), hb_L4)
def hb_c48_0 : List (Nat × Instr × Nat) := [(0, .iload_n 2, 1), (1, .ifCond .gt 7, 3), (4, .iconst 0, 1), (5, .goto 18, 3), (8, .bipush 12, 2), (10, .aload_n 0, 1), (11, .getfield 23, 3), (14, .iload_n 1, 1), (15, .iaload, 1), (16, .imul, 1), (17, .iload_n 2, 1), (18, .iadd, 1), (19, .iconst 1, 1), (20, .isub, 1), (21, .iload_n 2, 1), (22, .idiv, 1), (23, .ireturn, 1)]
def hb_m48 : px_M := (hb_h48, hb_c48_0, hb_L4)
def hb_c49_0 : List (Nat × Instr × Nat) := [(0, .aload_n 0, 1), (1, .getfield 26, 3), (4, .iload_n 1, 1), (5, .iaload, 1), (6, .aload_n 0, 1), (7, .getfield 23, 3), (10, .iload_n 1, 1), (11, .iaload, 1), (12, .imul, 1), (13, .iload_n 2, 1), (14, .imul, 1), (15, .iload_n 2, 1), (16, .imul, 1), (17, .ireturn, 1)]
def hb_m49 : px_M := (hb_h49, hb_c49_0, hb_L4)
def hb_c50_0 : List (Nat × Instr × Nat) := [(0, .iload_n 3, 1), (1, .aload_n 0, 1), (2, .getfield 35, 3), (5, .iload_n 1, 1), (6, .iaload, 1), (7, .iadd, 1), (8, .istore 4, 2), (10, .iload_n 2, 1), (11, .aload_n 0, 1), (12, .getfield 32, 3), (15, .iload_n 1, 1), (16, .iaload, 1), (17, .iadd, 1), (18, .istore 5, 2), (20, .iload 5, 2), (22, .aload_n 0, 1), (23, .getfield 42, 3), (26, .if_icmp .le 4, 3), (29, .return_, 1), (30, .aload_n 0, 1), (31, .getfield 38, 3), (34, .ifCond .eq 31, 3), (37, .iload 4, 2), (39, .aload_n 0, 1), (40, .getfield 13, 3), (43, .if_icmp .gt 21, 3), (46, .iload 4, 2), (48, .aload_n 0, 1), (49, .getfield 13, 3), (52, .if_icmp .ne 13, 3), (55, .iload 5, 2), (57, .aload_n 0, 1), (58, .getfield 16, 3), (61, .if_icmp .lt 4, 3), (64, .return_, 1), (65, .iload_n 1, 1), (66, .aload_n 0, 1), (67, .getfield 7, 3), (70, .if_icmp .lt 30, 3), (73, .aload_n 0, 1)]
def hb_c50_1 : List (Nat × Instr × Nat) := [(74, .iconst 1, 1), (75, .putfield 38, 3), (78, .aload_n 0, 1), (79, .iload_n 3, 1), (80, .putfield 13, 3), (83, .aload_n 0, 1), (84, .iload_n 2, 1), (85, .putfield 16, 3), (88, .aload_n 0, 1), (89, .getfield 29, 3), (92, .aload_n 0, 1), (93, .getfield 19, 3), (96, .invokestatic 45, 3), (99, .return_, 1), (100, .iconst 1, 1), (101, .istore 6, 2), (103, .iload 6, 2), (105, .iconst 4, 1), (106, .if_icmp .gt 42, 3), (109, .aload_n 0, 1), (110, .getfield 29, 3), (113, .iload_n 1, 1), (114, .iload 6, 2), (116, .iastore, 1), (117, .aload_n 0, 1), (118, .iload_n 1, 1), (119, .iconst 1, 1), (120, .iadd, 1), (121, .iload_n 2, 1), (122, .aload_n 0, 1), (123, .iload_n 1, 1), (124, .iload 6, 2), (126, .invokevirtual 51, 3), (129, .iadd, 1), (130, .iload_n 3, 1), (131, .aload_n 0, 1), (132, .iload_n 1, 1), (133, .iload 6, 2), (135, .invokevirtual 55, 3), (138, .iadd, 1)]
def hb_c50_2 : List (Nat × Instr × Nat) := [(139, .invokevirtual 58, 3), (142, .iinc 6 1, 3), (145, .goto (-42), 3), (148, .return_, 1)]
def hb_m50 : px_M := (hb_h50, hb_c50_0 ++ (hb_c50_1 ++ (hb_c50_2)), hb_L4)
def hb_c51_0 : List (Nat × Instr × Nat) := [(0, .aload_n 0, 1), (1, .invokespecial 1, 3), (4, .aload_n 0, 1), (5, .iconst 0, 1), (6, .putfield 7, 3), (9, .aload_n 0, 1), (10, .sipush 200, 3), (13, .newarray .int, 2), (15, .putfield 13, 3), (18, .aload_n 0, 1), (19, .sipush 201, 3), (22, .newarray .int, 2), (24, .putfield 17, 3), (27, .aload_n 0, 1), (28, .sipush 201, 3), (31, .newarray .int, 2), (33, .putfield 20, 3), (36, .aload_n 0, 1), (37, .sipush 201, 3), (40, .newarray .int, 2), (42, .putfield 23, 3), (45, .aload_n 0, 1), (46, .iconst 0, 1), (47, .putfield 26, 3), (50, .aload_n 0, 1), (51, .iconst 0, 1), (52, .putfield 29, 3), (55, .aload_n 0, 1), (56, .iconst (-1), 1), (57, .putfield 32, 3), (60, .return_, 1)]
def hb_m51 : px_M := (hb_h51, hb_c51_0, hb_L5)
def hb_c52_0 : List (Nat × Instr × Nat) := [(0, .iconst 0, 1), (1, .istore 4, 2), (3, .iload 4, 2), (5, .iload_n 3, 1), (6, .if_icmp .ge 50, 3), (9, .aload_n 0, 1), (10, .getfield 7, 3), (13, .sipush 200, 3), (16, .if_icmp .ge 40, 3), (19, .aload_n 0, 1), (20, .getfield 13, 3), (23, .aload_n 0, 1), (24, .getfield 7, 3), (27, .lload_n 1, 1), (28, .bipush 8, 2), (30, .iload 4, 2), (32, .imul, 1), (33, .lshr, 1), (34, .ldc2_w 35, 3), (37, .land, 1), (38, .l2i, 1), (39, .iastore, 1), (40, .aload_n 0, 1), (41, .dup, 1), (42, .getfield 7, 3), (45, .iconst 1, 1), (46, .iadd, 1), (47, .putfield 7, 3), (50, .iinc 4 1, 3), (53, .goto (-50), 3), (56, .aload_n 0, 1), (57, .getfield 7, 3), (60, .ireturn, 1)]
def hb_m52 : px_M := (hb_h52, hb_c52_0, hb_L5)
def hb_c53_0 : List (Nat × Instr × Nat) := [(0, .aload_n 0, 1), (1, .invokevirtual 37, 3), (4, .aload_n 0, 1), (5, .iconst 0, 1), (6, .putfield 7, 3), (9, .aload_n 0, 1), (10, .iconst 0, 1), (11, .putfield 29, 3), (14, .aload_n 0, 1), (15, .iconst (-1), 1), (16, .putfield 32, 3), (19, .aload_n 1, 1), (20, .invokevirtual 40, 3), (23, .iconst 0, 1), (24, .istore_n 2, 1), (25, .iload_n 2, 1), (26, .bipush 8, 2), (28, .if_icmp .gt 104, 3), (31, .aload_n 0, 1), (32, .getfield 17, 3), (35, .aload_n 0, 1), (36, .getfield 29, 3), (39, .iaload, 1), (40, .sipush 300, 3), (43, .if_icmp .eq 89, 3), (46, .aload_n 0, 1), (47, .getfield 32, 3), (50, .iconst (-1), 1), (51, .if_icmp .ne 81, 3), (54, .iload_n 2, 1), (55, .bipush 8, 2), (57, .if_icmp .ge 15, 3), (60, .aload_n 0, 1), (61, .getfield 17, 3), (64, .aload_n 0, 1), (65, .getfield 29, 3), (68, .iaload, 1), (69, .goto 6, 3), (72, .sipush 302, 3), (75, .istore_n 3, 1)]
def hb_c53_1 : List (Nat × Instr × Nat) := [(76, .iload_n 3, 1), (77, .sipush 310, 3), (80, .if_icmp .ne 11, 3), (83, .aload_n 0, 1), (84, .aload_n 1, 1), (85, .invokevirtual 45, 3), (88, .goto 38, 3), (91, .iload_n 3, 1), (92, .sipush 312, 3), (95, .if_icmp .ne 11, 3), (98, .aload_n 0, 1), (99, .aload_n 1, 1), (100, .invokevirtual 49, 3), (103, .goto 23, 3), (106, .iload_n 3, 1), (107, .sipush 314, 3), (110, .if_icmp .ne 11, 3), (113, .aload_n 0, 1), (114, .aload_n 1, 1), (115, .invokevirtual 52, 3), (118, .goto 8, 3), (121, .aload_n 0, 1), (122, .invokevirtual 55, 3), (125, .pop, 1), (126, .iinc 2 1, 3), (129, .goto (-104), 3), (132, .aload_n 0, 1), (133, .getfield 32, 3), (136, .ireturn, 1)]
def hb_m53 : px_M := (hb_h53, hb_c53_0 ++ (hb_c53_1), hb_L5)
def hb_c54_0 : List (Nat × Instr × Nat) := [(0, .aload_n 0, 1), (1, .iconst 0, 1), (2, .putfield 26, 3), (5, .iconst 0, 1), (6, .istore_n 1, 1), (7, .iload_n 1, 1), (8, .aload_n 0, 1), (9, .getfield 7, 3), (12, .if_icmp .ge 143, 3), (15, .iload_n 1, 1), (16, .iconst 1, 1), (17, .iadd, 1), (18, .istore_n 2, 1), (19, .aload_n 0, 1), (20, .getfield 13, 3), (23, .iload_n 1, 1), (24, .iaload, 1), (25, .invokestatic 59, 3), (28, .ifCond .eq 44, 3), (31, .iload_n 2, 1), (32, .aload_n 0, 1), (33, .getfield 7, 3), (36, .if_icmp .ge 21, 3), (39, .aload_n 0, 1), (40, .getfield 13, 3), (43, .iload_n 2, 1), (44, .iaload, 1), (45, .invokestatic 59, 3), (48, .ifCond .eq 9, 3), (51, .iinc 2 1, 3), (54, .goto (-23), 3), (57, .aload_n 0, 1), (58, .aload_n 0, 1), (59, .iload_n 1, 1), (60, .iload_n 2, 1), (61, .invokevirtual 63, 3), (64, .iload_n 1, 1), (65, .iconst 0, 1), (66, .invokevirtual 67, 3), (69, .goto 81, 3)]
def hb_c54_1 : List (Nat × Instr × Nat) := [(72, .aload_n 0, 1), (73, .getfield 13, 3), (76, .iload_n 1, 1), (77, .iaload, 1), (78, .invokestatic 71, 3), (81, .ifCond .eq 46, 3), (84, .iload_n 2, 1), (85, .aload_n 0, 1), (86, .getfield 7, 3), (89, .if_icmp .ge 21, 3), (92, .aload_n 0, 1), (93, .getfield 13, 3), (96, .iload_n 2, 1), (97, .iaload, 1), (98, .invokestatic 71, 3), (101, .ifCond .eq 9, 3), (104, .iinc 2 1, 3), (107, .goto (-23), 3), (110, .aload_n 0, 1), (111, .sipush 301, 3), (114, .iload_n 1, 1), (115, .aload_n 0, 1), (116, .iload_n 1, 1), (117, .iload_n 2, 1), (118, .invokevirtual 74, 3), (121, .invokevirtual 67, 3), (124, .goto 26, 3), (127, .aload_n 0, 1), (128, .getfield 13, 3), (131, .iload_n 1, 1), (132, .iaload, 1), (133, .bipush 32, 2), (135, .if_icmp .eq 15, 3), (138, .aload_n 0, 1), (139, .aload_n 0, 1), (140, .getfield 13, 3), (143, .iload_n 1, 1), (144, .iaload, 1), (145, .iload_n 1, 1), (146, .iconst 0, 1)]
def hb_c54_2 : List (Nat × Instr × Nat) := [(147, .invokevirtual 67, 3), (150, .iload_n 2, 1), (151, .istore_n 1, 1), (152, .goto (-145), 3), (155, .aload_n 0, 1), (156, .sipush 300, 3), (159, .aload_n 0, 1), (160, .getfield 7, 3), (163, .iconst 0, 1), (164, .invokevirtual 67, 3), (167, .return_, 1)]
def hb_m54 : px_M := (hb_h54, hb_c54_0 ++ (hb_c54_1 ++ (hb_c54_2)), hb_L5)
def hb_c55_0 : List (Nat × Instr × Nat) := [(0, .aload_n 0, 1), (1, .getfield 26, 3), (4, .sipush 200, 3), (7, .if_icmp .gt 43, 3), (10, .aload_n 0, 1), (11, .getfield 17, 3), (14, .aload_n 0, 1), (15, .getfield 26, 3), (18, .iload_n 1, 1), (19, .iastore, 1), (20, .aload_n 0, 1), (21, .getfield 20, 3), (24, .aload_n 0, 1), (25, .getfield 26, 3), (28, .iload_n 2, 1), (29, .iastore, 1), (30, .aload_n 0, 1), (31, .getfield 23, 3), (34, .aload_n 0, 1), (35, .getfield 26, 3), (38, .iload_n 3, 1), (39, .iastore, 1), (40, .aload_n 0, 1), (41, .dup, 1), (42, .getfield 26, 3), (45, .iconst 1, 1), (46, .iadd, 1), (47, .putfield 26, 3), (50, .return_, 1)]
def hb_m55 : px_M := (hb_h55, hb_c55_0, hb_L5)
def hb_c56_0 : List (Nat × Instr × Nat) := [(0, .iload_n 0, 1), (1, .bipush 97, 2), (3, .if_icmp .lt 13, 3), (6, .iload_n 0, 1), (7, .bipush 122, 2), (9, .if_icmp .gt 7, 3), (12, .iconst 1, 1), (13, .goto 4, 3), (16, .iconst 0, 1), (17, .ireturn, 1)]
def hb_m56 : px_M := (hb_h56, hb_c56_0, hb_L5)
def hb_c57_0 : List (Nat × Instr × Nat) := [(0, .iload_n 0, 1), (1, .bipush 48, 2), (3, .if_icmp .lt 13, 3), (6, .iload_n 0, 1), (7, .bipush 57, 2), (9, .if_icmp .gt 7, 3), (12, .iconst 1, 1), (13, .goto 4, 3), (16, .iconst 0, 1), (17, .ireturn, 1)]
def hb_m57 : px_M := (hb_h57, hb_c57_0, hb_L5)
def hb_c58_0 : List (Nat × Instr × Nat) := [(0, .iload_n 2, 1), (1, .iload_n 1, 1), (2, .isub, 1), (3, .iconst 3, 1), (4, .if_icmp .le 5, 3), (7, .iconst (-1), 1), (8, .ireturn, 1), (9, .iconst 0, 1), (10, .istore_n 3, 1), (11, .iload_n 1, 1), (12, .istore 4, 2), (14, .iload 4, 2), (16, .iload_n 2, 1), (17, .if_icmp .ge 25, 3), (20, .iload_n 3, 1), (21, .bipush 10, 2), (23, .imul, 1), (24, .aload_n 0, 1), (25, .getfield 13, 3), (28, .iload 4, 2), (30, .iaload, 1), (31, .iadd, 1), (32, .bipush 48, 2), (34, .isub, 1), (35, .istore_n 3, 1), (36, .iinc 4 1, 3), (39, .goto (-25), 3), (42, .iload_n 3, 1), (43, .ireturn, 1)]
def hb_m58 : px_M := (hb_h58, hb_c58_0, hb_L5)
def hb_c59_0 : List (Nat × Instr × Nat) := [(0, .iload_n 2, 1), (1, .iload_n 1, 1), (2, .isub, 1), (3, .tableswitch 311 2 8 #[41, 77, 157, 193, 271, 311, 291], 41), (44, .aload_n 0, 1), (45, .ldc 77, 2), (47, .iload_n 1, 1), (48, .invokevirtual 79, 3), (51, .ifCond .eq 9, 3), (54, .sipush 315, 3), (57, .goto 22, 3), (60, .aload_n 0, 1), (61, .ldc 83, 2), (63, .iload_n 1, 1), (64, .invokevirtual 79, 3), (67, .ifCond .eq 9, 3), (70, .sipush 320, 3), (73, .goto 6, 3), (76, .sipush 302, 3), (79, .ireturn, 1), (80, .aload_n 0, 1), (81, .ldc 85, 2), (83, .iload_n 1, 1), (84, .invokevirtual 79, 3), (87, .ifCond .eq 7, 3), (90, .sipush 311, 3), (93, .ireturn, 1), (94, .aload_n 0, 1), (95, .ldc 87, 2), (97, .iload_n 1, 1), (98, .invokevirtual 79, 3), (101, .ifCond .eq 7, 3), (104, .sipush 332, 3), (107, .ireturn, 1), (108, .aload_n 0, 1), (109, .ldc 89, 2), (111, .iload_n 1, 1), (112, .invokevirtual 79, 3), (115, .ifCond .eq 9, 3), (118, .sipush 321, 3)]
def hb_c59_1 : List (Nat × Instr × Nat) := [(121, .goto 38, 3), (124, .aload_n 0, 1), (125, .ldc 91, 2), (127, .iload_n 1, 1), (128, .invokevirtual 79, 3), (131, .ifCond .eq 9, 3), (134, .sipush 322, 3), (137, .goto 22, 3), (140, .aload_n 0, 1), (141, .ldc 93, 2), (143, .iload_n 1, 1), (144, .invokevirtual 79, 3), (147, .ifCond .eq 9, 3), (150, .sipush 324, 3), (153, .goto 6, 3), (156, .sipush 302, 3), (159, .ireturn, 1), (160, .aload_n 0, 1), (161, .ldc 95, 2), (163, .iload_n 1, 1), (164, .invokevirtual 79, 3), (167, .ifCond .eq 9, 3), (170, .sipush 314, 3), (173, .goto 22, 3), (176, .aload_n 0, 1), (177, .ldc 97, 2), (179, .iload_n 1, 1), (180, .invokevirtual 79, 3), (183, .ifCond .eq 9, 3), (186, .sipush 313, 3), (189, .goto 6, 3), (192, .sipush 302, 3), (195, .ireturn, 1), (196, .aload_n 0, 1), (197, .ldc 99, 2), (199, .iload_n 1, 1), (200, .invokevirtual 79, 3), (203, .ifCond .eq 7, 3), (206, .sipush 310, 3), (209, .ireturn, 1)]
def hb_c59_2 : List (Nat × Instr × Nat) := [(210, .aload_n 0, 1), (211, .ldc 101, 2), (213, .iload_n 1, 1), (214, .invokevirtual 79, 3), (217, .ifCond .eq 7, 3), (220, .sipush 312, 3), (223, .ireturn, 1), (224, .aload_n 0, 1), (225, .ldc 103, 2), (227, .iload_n 1, 1), (228, .invokevirtual 79, 3), (231, .ifCond .eq 7, 3), (234, .sipush 331, 3), (237, .ireturn, 1), (238, .aload_n 0, 1), (239, .ldc 105, 2), (241, .iload_n 1, 1), (242, .invokevirtual 79, 3), (245, .ifCond .eq 9, 3), (248, .sipush 323, 3), (251, .goto 22, 3), (254, .aload_n 0, 1), (255, .ldc 107, 2), (257, .iload_n 1, 1), (258, .invokevirtual 79, 3), (261, .ifCond .eq 9, 3), (264, .sipush 325, 3), (267, .goto 6, 3), (270, .sipush 302, 3), (273, .ireturn, 1), (274, .aload_n 0, 1), (275, .ldc 109, 2), (277, .iload_n 1, 1), (278, .invokevirtual 79, 3), (281, .ifCond .eq 9, 3), (284, .sipush 326, 3), (287, .goto 6, 3), (290, .sipush 302, 3), (293, .ireturn, 1), (294, .aload_n 0, 1)]
def hb_c59_3 : List (Nat × Instr × Nat) := [(295, .ldc 111, 2), (297, .iload_n 1, 1), (298, .invokevirtual 79, 3), (301, .ifCond .eq 9, 3), (304, .sipush 330, 3), (307, .goto 6, 3), (310, .sipush 302, 3), (313, .ireturn, 1), (314, .sipush 302, 3), (317, .ireturn, 1)]
def hb_m59 : px_M := (hb_h59, hb_c59_0 ++ (hb_c59_1 ++ (hb_c59_2 ++ (hb_c59_3))), hb_L5)
def hb_c60_0 : List (Nat × Instr × Nat) := [(0, .iconst 0, 1), (1, .istore_n 3, 1), (2, .iload_n 3, 1), (3, .aload_n 1, 1), (4, .invokevirtual 113, 3), (7, .if_icmp .ge 37, 3), (10, .iload_n 2, 1), (11, .iload_n 3, 1), (12, .iadd, 1), (13, .aload_n 0, 1), (14, .getfield 7, 3), (17, .if_icmp .ge 19, 3), (20, .aload_n 0, 1), (21, .getfield 13, 3), (24, .iload_n 2, 1), (25, .iload_n 3, 1), (26, .iadd, 1), (27, .iaload, 1), (28, .aload_n 1, 1), (29, .iload_n 3, 1), (30, .invokevirtual 119, 3), (33, .if_icmp .eq 5, 3), (36, .iconst 0, 1), (37, .ireturn, 1), (38, .iinc 3 1, 3), (41, .goto (-39), 3), (44, .iconst 1, 1), (45, .ireturn, 1)]
def hb_m60 : px_M := (hb_h60, hb_c60_0, hb_L5)
def hb_c61_0 : List (Nat × Instr × Nat) := [(0, .aload_n 0, 1), (1, .aload_n 0, 1), (2, .getfield 20, 3), (5, .aload_n 0, 1), (6, .getfield 29, 3), (9, .iaload, 1), (10, .putfield 32, 3), (13, .iconst 0, 1), (14, .ireturn, 1)]
def hb_m61 : px_M := (hb_h61, hb_c61_0, hb_L5)
def hb_c62_0 : List (Nat × Instr × Nat) := [(0, .aload_n 0, 1), (1, .getfield 17, 3), (4, .aload_n 0, 1), (5, .getfield 29, 3), (8, .iaload, 1), (9, .iload_n 1, 1), (10, .if_icmp .ne 10, 3), (13, .iload_n 1, 1), (14, .sipush 300, 3), (17, .if_icmp .ne 18, 3), (20, .aload_n 0, 1), (21, .aload_n 0, 1), (22, .getfield 20, 3), (25, .aload_n 0, 1), (26, .getfield 29, 3), (29, .iaload, 1), (30, .putfield 32, 3), (33, .iconst 0, 1), (34, .ireturn, 1), (35, .aload_n 0, 1), (36, .dup, 1), (37, .getfield 29, 3), (40, .iconst 1, 1), (41, .iadd, 1), (42, .putfield 29, 3), (45, .iconst 1, 1), (46, .ireturn, 1)]
def hb_m62 : px_M := (hb_h62, hb_c62_0, hb_L5)
def hb_c63_0 : List (Nat × Instr × Nat) := [(0, .aload_n 0, 1), (1, .getfield 17, 3), (4, .aload_n 0, 1), (5, .getfield 29, 3), (8, .iaload, 1), (9, .sipush 301, 3), (12, .if_icmp .ne 16, 3), (15, .aload_n 0, 1), (16, .getfield 23, 3), (19, .aload_n 0, 1), (20, .getfield 29, 3), (23, .iaload, 1), (24, .iload_n 1, 1), (25, .if_icmp .ge 18, 3), (28, .aload_n 0, 1), (29, .aload_n 0, 1), (30, .getfield 20, 3), (33, .aload_n 0, 1), (34, .getfield 29, 3), (37, .iaload, 1), (38, .putfield 32, 3), (41, .iconst (-1), 1), (42, .ireturn, 1), (43, .aload_n 0, 1), (44, .dup, 1), (45, .getfield 29, 3), (48, .iconst 1, 1), (49, .iadd, 1), (50, .putfield 29, 3), (53, .aload_n 0, 1), (54, .getfield 23, 3), (57, .aload_n 0, 1), (58, .getfield 29, 3), (61, .iconst 1, 1), (62, .isub, 1), (63, .iaload, 1), (64, .ireturn, 1)]
def hb_m63 : px_M := (hb_h63, hb_c63_0, hb_L5)
def hb_c64_0 : List (Nat × Instr × Nat) := [(0, .aload_n 0, 1), (1, .dup, 1), (2, .getfield 29, 3), (5, .iconst 1, 1), (6, .iadd, 1), (7, .putfield 29, 3), (10, .aload_n 0, 1), (11, .iconst 0, 1), (12, .invokevirtual 123, 3), (15, .istore_n 2, 1), (16, .iload_n 2, 1), (17, .iconst (-1), 1), (18, .if_icmp .eq 13, 3), (21, .aload_n 0, 1), (22, .sipush 311, 3), (25, .invokevirtual 127, 3), (28, .ifCond .ne 4, 3), (31, .return_, 1), (32, .aload_n 0, 1), (33, .iconst 1, 1), (34, .invokevirtual 123, 3), (37, .istore_n 3, 1), (38, .iload_n 3, 1), (39, .iconst (-1), 1), (40, .if_icmp .eq 19, 3), (43, .aload_n 0, 1), (44, .bipush 59, 2), (46, .invokevirtual 127, 3), (49, .ifCond .eq 10, 3), (52, .aload_n 1, 1), (53, .iconst 0, 1), (54, .iload_n 2, 1), (55, .iload_n 3, 1), (56, .invokevirtual 130, 3), (59, .return_, 1)]
def hb_m64 : px_M := (hb_h64, hb_c64_0, hb_L5)
def hb_c65_0 : List (Nat × Instr × Nat) := [(0, .aload_n 0, 1), (1, .dup, 1), (2, .getfield 29, 3), (5, .iconst 1, 1), (6, .iadd, 1), (7, .putfield 29, 3), (10, .iconst 0, 1), (11, .istore_n 2, 1), (12, .sipush 999, 3), (15, .istore_n 3, 1), (16, .iconst 0, 1), (17, .istore 4, 2), (19, .iload 4, 2), (21, .iconst 3, 1), (22, .if_icmp .gt 130, 3), (25, .aload_n 0, 1), (26, .getfield 17, 3), (29, .aload_n 0, 1), (30, .getfield 29, 3), (33, .iaload, 1), (34, .sipush 330, 3), (37, .isub, 1), (38, .istore 5, 2), (40, .iload 5, 2), (42, .iconst 0, 1), (43, .iconst 2, 1), (44, .invokestatic 133, 3), (47, .ifCond .eq 13, 3), (50, .iload_n 2, 1), (51, .iload 5, 2), (53, .ishr, 1), (54, .iconst 1, 1), (55, .iand, 1), (56, .iconst 1, 1), (57, .if_icmp .ne 9, 3), (60, .aload_n 0, 1), (61, .invokevirtual 55, 3), (64, .pop, 1), (65, .return_, 1), (66, .aload_n 0, 1)]
def hb_c65_1 : List (Nat × Instr × Nat) := [(67, .dup, 1), (68, .getfield 29, 3), (71, .iconst 1, 1), (72, .iadd, 1), (73, .putfield 29, 3), (76, .iload_n 2, 1), (77, .iconst 1, 1), (78, .iload 5, 2), (80, .ishl, 1), (81, .ior, 1), (82, .istore_n 2, 1), (83, .iload 5, 2), (85, .ifCond .ne 7, 3), (88, .iconst 1, 1), (89, .goto 16, 3), (92, .iload 5, 2), (94, .iconst 1, 1), (95, .if_icmp .ne 8, 3), (98, .bipush 10, 2), (100, .goto 5, 3), (103, .bipush 100, 2), (105, .istore 6, 2), (107, .iload_n 3, 1), (108, .bipush 9, 2), (110, .iload 4, 2), (112, .isub, 1), (113, .iload 6, 2), (115, .imul, 1), (116, .isub, 1), (117, .istore_n 3, 1), (118, .aload_n 0, 1), (119, .getfield 17, 3), (122, .aload_n 0, 1), (123, .getfield 29, 3), (126, .iaload, 1), (127, .sipush 313, 3), (130, .if_icmp .eq 6, 3), (133, .goto 19, 3), (136, .aload_n 0, 1), (137, .dup, 1)]
def hb_c65_2 : List (Nat × Instr × Nat) := [(138, .getfield 29, 3), (141, .iconst 1, 1), (142, .iadd, 1), (143, .putfield 29, 3), (146, .iinc 4 1, 3), (149, .goto (-130), 3), (152, .aload_n 0, 1), (153, .bipush 59, 2), (155, .invokevirtual 127, 3), (158, .ifCond .eq 10, 3), (161, .aload_n 1, 1), (162, .iconst 1, 1), (163, .iload_n 3, 1), (164, .iconst 0, 1), (165, .invokevirtual 130, 3), (168, .return_, 1)]
def hb_m65 : px_M := (hb_h65, hb_c65_0 ++ (hb_c65_1 ++ (hb_c65_2)), hb_L5)
def hb_c66_0 : List (Nat × Instr × Nat) := [(0, .aload_n 0, 1), (1, .dup, 1), (2, .getfield 29, 3), (5, .iconst 1, 1), (6, .iadd, 1), (7, .putfield 29, 3), (10, .aload_n 1, 1), (11, .invokevirtual 139, 3), (14, .istore_n 2, 1), (15, .aload_n 0, 1), (16, .sipush 315, 3), (19, .invokevirtual 127, 3), (22, .ifCond .eq 31, 3), (25, .aload_n 0, 1), (26, .aload_n 1, 1), (27, .iconst 0, 1), (28, .invokevirtual 142, 3), (31, .ifCond .eq 22, 3), (34, .aload_n 0, 1), (35, .bipush 59, 2), (37, .invokevirtual 127, 3), (40, .ifCond .eq 13, 3), (43, .aload_n 1, 1), (44, .iconst 2, 1), (45, .iload_n 2, 1), (46, .aload_n 1, 1), (47, .invokevirtual 139, 3), (50, .invokevirtual 130, 3), (53, .return_, 1)]
def hb_m66 : px_M := (hb_h66, hb_c66_0, hb_L5)
def hb_c67_0 : List (Nat × Instr × Nat) := [(0, .aload_n 0, 1), (1, .aload_n 1, 1), (2, .iload_n 2, 1), (3, .invokevirtual 146, 3), (6, .ifCond .ne 5, 3), (9, .iconst 0, 1), (10, .ireturn, 1), (11, .iconst 0, 1), (12, .istore_n 3, 1), (13, .iload_n 3, 1), (14, .sipush 200, 3), (17, .if_icmp .ge 50, 3), (20, .aload_n 0, 1), (21, .getfield 17, 3), (24, .aload_n 0, 1), (25, .getfield 29, 3), (28, .iaload, 1), (29, .sipush 320, 3), (32, .if_icmp .ne 35, 3), (35, .aload_n 0, 1), (36, .dup, 1), (37, .getfield 29, 3), (40, .iconst 1, 1), (41, .iadd, 1), (42, .putfield 29, 3), (45, .aload_n 0, 1), (46, .aload_n 1, 1), (47, .iload_n 2, 1), (48, .invokevirtual 146, 3), (51, .ifCond .ne 5, 3), (54, .iconst 0, 1), (55, .ireturn, 1), (56, .aload_n 1, 1), (57, .iconst 5, 1), (58, .invokevirtual 149, 3), (61, .iinc 3 1, 3), (64, .goto (-51), 3), (67, .iconst 1, 1), (68, .ireturn, 1)]
def hb_m67 : px_M := (hb_h67, hb_c67_0, hb_L5)
def hb_c68_0 : List (Nat × Instr × Nat) := [(0, .aload_n 0, 1), (1, .aload_n 1, 1), (2, .iload_n 2, 1), (3, .invokevirtual 153, 3), (6, .ifCond .ne 5, 3), (9, .iconst 0, 1), (10, .ireturn, 1), (11, .iconst 0, 1), (12, .istore_n 3, 1), (13, .iload_n 3, 1), (14, .sipush 200, 3), (17, .if_icmp .ge 50, 3), (20, .aload_n 0, 1), (21, .getfield 17, 3), (24, .aload_n 0, 1), (25, .getfield 29, 3), (28, .iaload, 1), (29, .sipush 321, 3), (32, .if_icmp .ne 35, 3), (35, .aload_n 0, 1), (36, .dup, 1), (37, .getfield 29, 3), (40, .iconst 1, 1), (41, .iadd, 1), (42, .putfield 29, 3), (45, .aload_n 0, 1), (46, .aload_n 1, 1), (47, .iload_n 2, 1), (48, .invokevirtual 153, 3), (51, .ifCond .ne 5, 3), (54, .iconst 0, 1), (55, .ireturn, 1), (56, .aload_n 1, 1), (57, .iconst 4, 1), (58, .invokevirtual 149, 3), (61, .iinc 3 1, 3), (64, .goto (-51), 3), (67, .iconst 1, 1), (68, .ireturn, 1)]
def hb_m68 : px_M := (hb_h68, hb_c68_0, hb_L5)
def hb_c69_0 : List (Nat × Instr × Nat) := [(0, .iconst 0, 1), (1, .istore_n 3, 1), (2, .iconst 0, 1), (3, .istore 4, 2), (5, .iload 4, 2), (7, .sipush 200, 3), (10, .if_icmp .ge 44, 3), (13, .aload_n 0, 1), (14, .getfield 17, 3), (17, .aload_n 0, 1), (18, .getfield 29, 3), (21, .iaload, 1), (22, .sipush 322, 3), (25, .if_icmp .ne 29, 3), (28, .iload_n 3, 1), (29, .ifCond .ne 7, 3), (32, .iconst 1, 1), (33, .goto 4, 3), (36, .iconst 0, 1), (37, .istore_n 3, 1), (38, .aload_n 0, 1), (39, .dup, 1), (40, .getfield 29, 3), (43, .iconst 1, 1), (44, .iadd, 1), (45, .putfield 29, 3), (48, .iinc 4 1, 3), (51, .goto (-46), 3), (54, .aload_n 0, 1), (55, .getfield 17, 3), (58, .aload_n 0, 1), (59, .getfield 29, 3), (62, .iaload, 1), (63, .bipush 40, 2), (65, .if_icmp .ne 12, 3), (68, .aload_n 0, 1), (69, .aload_n 1, 1), (70, .iload_n 2, 1), (71, .invokevirtual 156, 3), (74, .goto 8, 3)]
def hb_c69_1 : List (Nat × Instr × Nat) := [(77, .aload_n 0, 1), (78, .aload_n 1, 1), (79, .invokevirtual 159, 3), (82, .istore 4, 2), (84, .iload 4, 2), (86, .ifCond .eq 13, 3), (89, .iload_n 3, 1), (90, .ifCond .eq 9, 3), (93, .aload_n 1, 1), (94, .bipush 6, 2), (96, .invokevirtual 149, 3), (99, .iload 4, 2), (101, .ireturn, 1)]
def hb_m69 : px_M := (hb_h69, hb_c69_0 ++ (hb_c69_1), hb_L5)
def hb_c70_0 : List (Nat × Instr × Nat) := [(0, .iload_n 2, 1), (1, .iconst 4, 1), (2, .if_icmp .lt 8, 3), (5, .aload_n 0, 1), (6, .invokevirtual 55, 3), (9, .ireturn, 1), (10, .aload_n 0, 1), (11, .dup, 1), (12, .getfield 29, 3), (15, .iconst 1, 1), (16, .iadd, 1), (17, .putfield 29, 3), (20, .aload_n 0, 1), (21, .aload_n 1, 1), (22, .iload_n 2, 1), (23, .iconst 1, 1), (24, .iadd, 1), (25, .invokevirtual 142, 3), (28, .ifCond .eq 16, 3), (31, .aload_n 0, 1), (32, .bipush 41, 2), (34, .invokevirtual 127, 3), (37, .ifCond .eq 7, 3), (40, .iconst 1, 1), (41, .goto 4, 3), (44, .iconst 0, 1), (45, .ireturn, 1)]
def hb_m70 : px_M := (hb_h70, hb_c70_0, hb_L5)
def hb_c71_0 : List (Nat × Instr × Nat) := [(0, .iconst 0, 1), (1, .aload_n 0, 1), (2, .getfield 17, 3), (5, .aload_n 0, 1), (6, .getfield 29, 3), (9, .iaload, 1), (10, .iadd, 1), (11, .sipush 323, 3), (14, .isub, 1), (15, .istore_n 2, 1), (16, .iload_n 2, 1), (17, .iconst 0, 1), (18, .iconst 3, 1), (19, .invokestatic 133, 3), (22, .ifCond .ne 8, 3), (25, .aload_n 0, 1), (26, .invokevirtual 55, 3), (29, .ireturn, 1), (30, .aload_n 0, 1), (31, .dup, 1), (32, .getfield 29, 3), (35, .iconst 1, 1), (36, .iadd, 1), (37, .putfield 29, 3), (40, .iload_n 2, 1), (41, .ifCond .ne 10, 3), (44, .aload_n 1, 1), (45, .iload_n 2, 1), (46, .invokevirtual 149, 3), (49, .iconst 1, 1), (50, .ireturn, 1), (51, .aload_n 0, 1), (52, .getfield 17, 3), (55, .aload_n 0, 1), (56, .getfield 29, 3), (59, .iaload, 1), (60, .bipush 60, 2), (62, .isub, 1), (63, .istore_n 3, 1), (64, .iload_n 3, 1)]
def hb_c71_1 : List (Nat × Instr × Nat) := [(65, .iconst 0, 1), (66, .iconst 2, 1), (67, .invokestatic 133, 3), (70, .ifCond .ne 8, 3), (73, .aload_n 0, 1), (74, .invokevirtual 55, 3), (77, .ireturn, 1), (78, .aload_n 0, 1), (79, .dup, 1), (80, .getfield 29, 3), (83, .iconst 1, 1), (84, .iadd, 1), (85, .putfield 29, 3), (88, .aload_n 0, 1), (89, .iconst 0, 1), (90, .invokevirtual 123, 3), (93, .istore 4, 2), (95, .iload 4, 2), (97, .iconst (-1), 1), (98, .if_icmp .ne 5, 3), (101, .iconst 0, 1), (102, .ireturn, 1), (103, .aload_n 1, 1), (104, .iload_n 2, 1), (105, .bipush 8, 2), (107, .iload_n 3, 1), (108, .imul, 1), (109, .iadd, 1), (110, .bipush 32, 2), (112, .iload 4, 2), (114, .imul, 1), (115, .iadd, 1), (116, .invokevirtual 149, 3), (119, .iconst 1, 1), (120, .ireturn, 1)]
def hb_m71 : px_M := (hb_h71, hb_c71_0 ++ (hb_c71_1), hb_L5)
def hb_c72_0 : List (Nat × Instr × Nat) := [(0, .aload_n 0, 1), (1, .invokespecial 5, 3), (4, .aload_n 0, 1), (5, .iconst 0, 1), (6, .putfield 11, 3), (9, .aload_n 0, 1), (10, .bipush 7, 2), (12, .newarray .int, 2), (14, .putfield 15, 3), (17, .aload_n 0, 1), (18, .bipush 7, 2), (20, .newarray .int, 2), (22, .putfield 19, 3), (25, .aload_n 0, 1), (26, .bipush 56, 2), (28, .newarray .int, 2), (30, .putfield 22, 3), (33, .aload_n 0, 1), (34, .bipush 56, 2), (36, .newarray .int, 2), (38, .putfield 25, 3), (41, .aload_n 0, 1), (42, .bipush 56, 2), (44, .newarray .int, 2), (46, .putfield 28, 3), (49, .aload_n 0, 1), (50, .sipush 448, 3), (53, .newarray .int, 2), (55, .putfield 31, 3), (58, .aload_n 0, 1), (59, .bipush 7, 2), (61, .newarray .int, 2), (63, .putfield 34, 3), (66, .return_, 1)]
def hb_m72 : px_M := (hb_h72, hb_c72_0, hb_L6)
def hb_c73_0 : List (Nat × Instr × Nat) := [(0, .aload_n 0, 1), (1, .aload_n 1, 1), (2, .getfield 11, 3), (5, .putfield 11, 3), (8, .aload_n 1, 1), (9, .getfield 15, 3), (12, .aload_n 0, 1), (13, .getfield 15, 3), (16, .invokestatic 37, 3), (19, .aload_n 1, 1), (20, .getfield 19, 3), (23, .aload_n 0, 1), (24, .getfield 19, 3), (27, .invokestatic 37, 3), (30, .aload_n 1, 1), (31, .getfield 22, 3), (34, .aload_n 0, 1), (35, .getfield 22, 3), (38, .invokestatic 37, 3), (41, .aload_n 1, 1), (42, .getfield 25, 3), (45, .aload_n 0, 1), (46, .getfield 25, 3), (49, .invokestatic 37, 3), (52, .aload_n 1, 1), (53, .getfield 28, 3), (56, .aload_n 0, 1), (57, .getfield 28, 3), (60, .invokestatic 37, 3), (63, .aload_n 1, 1), (64, .getfield 31, 3), (67, .aload_n 0, 1), (68, .getfield 31, 3), (71, .invokestatic 37, 3), (74, .aload_n 1, 1), (75, .getfield 34, 3), (78, .aload_n 0, 1), (79, .getfield 34, 3), (82, .invokestatic 37, 3), (85, .return_, 1)]
def hb_m73 : px_M := (hb_h73, hb_c73_0, hb_L6)
def hb_c74_0 : List (Nat × Instr × Nat) := [(0, .aload_n 0, 1), (1, .getfield 19, 3), (4, .aload_n 0, 1), (5, .getfield 11, 3), (8, .iconst 0, 1), (9, .iastore, 1), (10, .aload_n 0, 1), (11, .getfield 34, 3), (14, .aload_n 0, 1), (15, .getfield 11, 3), (18, .iconst 0, 1), (19, .iastore, 1), (20, .return_, 1)]
def hb_m74 : px_M := (hb_h74, hb_c74_0, hb_L6)
def hb_c75_0 : List (Nat × Instr × Nat) := [(0, .aload_n 0, 1), (1, .getfield 34, 3), (4, .aload_n 0, 1), (5, .getfield 11, 3), (8, .iaload, 1), (9, .ireturn, 1)]
def hb_m75 : px_M := (hb_h75, hb_c75_0, hb_L6)
def hb_c76_0 : List (Nat × Instr × Nat) := [(0, .aload_n 0, 1), (1, .getfield 34, 3), (4, .aload_n 0, 1), (5, .getfield 11, 3), (8, .iaload, 1), (9, .bipush 64, 2), (11, .if_icmp .ge 39, 3), (14, .aload_n 0, 1), (15, .getfield 31, 3), (18, .aload_n 0, 1), (19, .getfield 11, 3), (22, .bipush 64, 2), (24, .imul, 1), (25, .aload_n 0, 1), (26, .getfield 34, 3), (29, .aload_n 0, 1), (30, .getfield 11, 3), (33, .iaload, 1), (34, .iadd, 1), (35, .iload_n 1, 1), (36, .iastore, 1), (37, .aload_n 0, 1), (38, .getfield 34, 3), (41, .aload_n 0, 1), (42, .getfield 11, 3), (45, .dup2, 1), (46, .iaload, 1), (47, .iconst 1, 1), (48, .iadd, 1), (49, .iastore, 1), (50, .return_, 1)]
def hb_m76 : px_M := (hb_h76, hb_c76_0, hb_L6)
def hb_c77_0 : List (Nat × Instr × Nat) := [(0, .aload_n 0, 1), (1, .getfield 19, 3), (4, .aload_n 0, 1), (5, .getfield 11, 3), (8, .iaload, 1), (9, .bipush 8, 2), (11, .if_icmp .ge 59, 3), (14, .aload_n 0, 1), (15, .getfield 11, 3), (18, .bipush 8, 2), (20, .imul, 1), (21, .aload_n 0, 1), (22, .getfield 19, 3), (25, .aload_n 0, 1), (26, .getfield 11, 3), (29, .iaload, 1), (30, .iadd, 1), (31, .istore 4, 2), (33, .aload_n 0, 1), (34, .getfield 22, 3), (37, .iload 4, 2), (39, .iload_n 1, 1), (40, .iastore, 1), (41, .aload_n 0, 1), (42, .getfield 25, 3), (45, .iload 4, 2), (47, .iload_n 2, 1), (48, .iastore, 1), (49, .aload_n 0, 1), (50, .getfield 28, 3), (53, .iload 4, 2), (55, .iload_n 3, 1), (56, .iastore, 1), (57, .aload_n 0, 1), (58, .getfield 19, 3), (61, .aload_n 0, 1), (62, .getfield 11, 3), (65, .dup2, 1), (66, .iaload, 1), (67, .iconst 1, 1)]
def hb_c77_1 : List (Nat × Instr × Nat) := [(68, .iadd, 1), (69, .iastore, 1), (70, .return_, 1)]
def hb_m77 : px_M := (hb_h77, hb_c77_0 ++ (hb_c77_1), hb_L6)
def hb_c78_0 : List (Nat × Instr × Nat) := [(0, .aload_n 0, 1), (1, .getfield 15, 3), (4, .aload_n 0, 1), (5, .getfield 11, 3), (8, .iload_n 1, 1), (9, .iastore, 1), (10, .aload_n 0, 1), (11, .dup, 1), (12, .getfield 11, 3), (15, .dup_x1, 1), (16, .iconst 1, 1), (17, .iadd, 1), (18, .putfield 11, 3), (21, .ireturn, 1)]
def hb_m78 : px_M := (hb_h78, hb_c78_0, hb_L6)
def hb_c79_0 : List (Nat × Instr × Nat) := [(0, .aload_n 0, 1), (1, .iconst 0, 1), (2, .iload_n 1, 1), (3, .invokevirtual 41, 3), (6, .istore_n 3, 1), (7, .iload_n 3, 1), (8, .ifCond .lt 12, 3), (11, .aload_n 0, 1), (12, .getfield 28, 3), (15, .iload_n 3, 1), (16, .iaload, 1), (17, .ifCond .gt 5, 3), (20, .iconst 0, 1), (21, .ireturn, 1), (22, .aload_n 0, 1), (23, .getfield 25, 3), (26, .iload_n 3, 1), (27, .iaload, 1), (28, .iload_n 2, 1), (29, .aload_n 0, 1), (30, .getfield 28, 3), (33, .iload_n 3, 1), (34, .iaload, 1), (35, .idiv, 1), (36, .imul, 1), (37, .ireturn, 1)]
def hb_m79 : px_M := (hb_h79, hb_c79_0, hb_L6)
def hb_c80_0 : List (Nat × Instr × Nat) := [(0, .aload_n 0, 1), (1, .iconst 1, 1), (2, .iload_n 2, 1), (3, .invokevirtual 41, 3), (6, .istore_n 3, 1), (7, .iload_n 3, 1), (8, .ifCond .ge 6, 3), (11, .bipush 9, 2), (13, .ireturn, 1), (14, .aload_n 0, 1), (15, .getfield 25, 3), (18, .iload_n 3, 1), (19, .iaload, 1), (20, .istore 4, 2), (22, .iconst 0, 1), (23, .istore 5, 2), (25, .iload 5, 2), (27, .iload_n 1, 1), (28, .if_icmp .ge 16, 3), (31, .iload 4, 2), (33, .bipush 10, 2), (35, .idiv, 1), (36, .istore 4, 2), (38, .iinc 5 1, 3), (41, .goto (-16), 3), (44, .iload 4, 2), (46, .bipush 10, 2), (48, .irem, 1), (49, .ireturn, 1)]
def hb_m80 : px_M := (hb_h80, hb_c80_0, hb_L6)
def hb_c81_0 : List (Nat × Instr × Nat) := [(0, .aload_n 0, 1), (1, .iload_n 3, 1), (2, .invokevirtual 45, 3), (5, .istore 4, 2), (7, .iload 4, 2), (9, .ifCond .ge 5, 3), (12, .iconst 0, 1), (13, .ireturn, 1), (14, .iconst 0, 1), (15, .istore 5, 2), (17, .iload 5, 2), (19, .aload_n 0, 1), (20, .getfield 19, 3), (23, .iload 4, 2), (25, .iaload, 1), (26, .if_icmp .ge 42, 3), (29, .aload_n 0, 1), (30, .getfield 22, 3), (33, .iload 4, 2), (35, .bipush 8, 2), (37, .imul, 1), (38, .iload 5, 2), (40, .iadd, 1), (41, .iaload, 1), (42, .iconst 2, 1), (43, .if_icmp .ne 19, 3), (46, .aload_n 0, 1), (47, .iload 4, 2), (49, .iload 5, 2), (51, .aload_n 1, 1), (52, .iload_n 2, 1), (53, .iload_n 3, 1), (54, .invokevirtual 49, 3), (57, .ifCond .eq 5, 3), (60, .iconst 1, 1), (61, .ireturn, 1), (62, .iinc 5 1, 3), (65, .goto (-48), 3), (68, .iconst 0, 1), (69, .ireturn, 1)]
def hb_m81 : px_M := (hb_h81, hb_c81_0, hb_L6)
def hb_c82_0 : List (Nat × Instr × Nat) := [(0, .aload_n 0, 1), (1, .getfield 11, 3), (4, .iconst 1, 1), (5, .isub, 1), (6, .istore_n 2, 1), (7, .iload_n 2, 1), (8, .ifCond .lt 21, 3), (11, .aload_n 0, 1), (12, .getfield 15, 3), (15, .iload_n 2, 1), (16, .iaload, 1), (17, .iload_n 1, 1), (18, .if_icmp .gt 5, 3), (21, .iload_n 2, 1), (22, .ireturn, 1), (23, .iinc 2 (-1), 3), (26, .goto (-19), 3), (29, .iconst (-1), 1), (30, .ireturn, 1)]
def hb_m82 : px_M := (hb_h82, hb_c82_0, hb_L6)
def hb_c83_0 : List (Nat × Instr × Nat) := [(0, .aload_n 0, 1), (1, .iload_n 2, 1), (2, .invokevirtual 45, 3), (5, .istore_n 3, 1), (6, .iload_n 3, 1), (7, .ifCond .ge 5, 3), (10, .iconst (-1), 1), (11, .ireturn, 1), (12, .aload_n 0, 1), (13, .getfield 19, 3), (16, .iload_n 3, 1), (17, .iaload, 1), (18, .iconst 1, 1), (19, .isub, 1), (20, .istore 4, 2), (22, .iload 4, 2), (24, .ifCond .lt 33, 3), (27, .aload_n 0, 1), (28, .getfield 22, 3), (31, .iload_n 3, 1), (32, .bipush 8, 2), (34, .imul, 1), (35, .iload 4, 2), (37, .iadd, 1), (38, .iaload, 1), (39, .iload_n 1, 1), (40, .if_icmp .ne 11, 3), (43, .iload_n 3, 1), (44, .bipush 8, 2), (46, .imul, 1), (47, .iload 4, 2), (49, .iadd, 1), (50, .ireturn, 1), (51, .iinc 4 (-1), 3), (54, .goto (-32), 3), (57, .iconst (-1), 1), (58, .ireturn, 1)]
def hb_m83 : px_M := (hb_h83, hb_c83_0, hb_L6)
def hb_c84_0 : List (Nat × Instr × Nat) := [(0, .iconst 0, 1), (1, .istore 6, 2), (3, .aload_n 0, 1), (4, .getfield 28, 3), (7, .iload_n 1, 1), (8, .bipush 8, 2), (10, .imul, 1), (11, .iload_n 2, 1), (12, .iadd, 1), (13, .iaload, 1), (14, .istore 7, 2), (16, .aload_n 0, 1), (17, .getfield 25, 3), (20, .iload_n 1, 1), (21, .bipush 8, 2), (23, .imul, 1), (24, .iload_n 2, 1), (25, .iadd, 1), (26, .iaload, 1), (27, .istore 8, 2), (29, .iload 8, 2), (31, .iload 7, 2), (33, .if_icmp .ge 125, 3), (36, .aload_n 0, 1), (37, .getfield 31, 3), (40, .iload_n 1, 1), (41, .bipush 64, 2), (43, .imul, 1), (44, .iload 8, 2), (46, .iadd, 1), (47, .iaload, 1), (48, .istore 9, 2), (50, .iload 9, 2), (52, .bipush 8, 2), (54, .irem, 1), (55, .istore 10, 2), (57, .iload 10, 2), (59, .iconst 4, 1), (60, .if_icmp .ne 24, 3), (63, .iload 6, 2)]
def hb_c84_1 : List (Nat × Instr × Nat) := [(65, .iconst 2, 1), (66, .ishr, 1), (67, .iconst 1, 1), (68, .ishl, 1), (69, .iload 6, 2), (71, .iload 6, 2), (73, .iconst 1, 1), (74, .ishr, 1), (75, .iand, 1), (76, .iconst 1, 1), (77, .iand, 1), (78, .ior, 1), (79, .istore 6, 2), (81, .goto 71, 3), (84, .iload 10, 2), (86, .iconst 5, 1), (87, .if_icmp .ne 24, 3), (90, .iload 6, 2), (92, .iconst 2, 1), (93, .ishr, 1), (94, .iconst 1, 1), (95, .ishl, 1), (96, .iload 6, 2), (98, .iload 6, 2), (100, .iconst 1, 1), (101, .ishr, 1), (102, .ior, 1), (103, .iconst 1, 1), (104, .iand, 1), (105, .ior, 1), (106, .istore 6, 2), (108, .goto 44, 3), (111, .iload 10, 2), (113, .bipush 6, 2), (115, .if_icmp .ne 12, 3), (118, .iload 6, 2), (120, .iconst 1, 1), (121, .ixor, 1), (122, .istore 6, 2), (124, .goto 28, 3)]
def hb_c84_2 : List (Nat × Instr × Nat) := [(127, .iload 6, 2), (129, .iconst 1, 1), (130, .ishl, 1), (131, .iload 9, 2), (133, .aload_n 3, 1), (134, .iload 4, 2), (136, .iload 5, 2), (138, .invokestatic 53, 3), (141, .ifCond .eq 7, 3), (144, .iconst 1, 1), (145, .goto 4, 3), (148, .iconst 0, 1), (149, .ior, 1), (150, .istore 6, 2), (152, .iinc 8 1, 3), (155, .goto (-126), 3), (158, .iload 6, 2), (160, .iconst 1, 1), (161, .iand, 1), (162, .iconst 1, 1), (163, .if_icmp .ne 7, 3), (166, .iconst 1, 1), (167, .goto 4, 3), (170, .iconst 0, 1), (171, .ireturn, 1)]
def hb_m84 : px_M := (hb_h84, hb_c84_0 ++ (hb_c84_1 ++ (hb_c84_2)), hb_L6)
def hb_c85_0 : List (Nat × Instr × Nat) := [(0, .iload_n 0, 1), (1, .bipush 8, 2), (3, .irem, 1), (4, .istore 4, 2), (6, .iload 4, 2), (8, .ifCond .ne 29, 3), (11, .aload_n 1, 1), (12, .iload_n 2, 1), (13, .invokevirtual 57, 3), (16, .istore 5, 2), (18, .iload 5, 2), (20, .bipush (-3), 2), (22, .if_icmp .eq 13, 3), (25, .iload 5, 2), (27, .iload_n 3, 1), (28, .if_icmp .gt 7, 3), (31, .iconst 1, 1), (32, .goto 4, 3), (35, .iconst 0, 1), (36, .ireturn, 1), (37, .iload 4, 2), (39, .iconst 1, 1), (40, .if_icmp .ne 12, 3), (43, .aload_n 1, 1), (44, .getfield 62, 3), (47, .iload_n 2, 1), (48, .iaload, 1), (49, .goto 19, 3), (52, .iload 4, 2), (54, .iconst 2, 1), (55, .if_icmp .ne 12, 3), (58, .aload_n 1, 1), (59, .getfield 65, 3), (62, .iload_n 2, 1), (63, .iaload, 1), (64, .goto 4, 3), (67, .iload_n 3, 1), (68, .istore 5, 2), (70, .iload_n 0, 1), (71, .bipush 8, 2)]
def hb_c85_1 : List (Nat × Instr × Nat) := [(73, .idiv, 1), (74, .iconst 4, 1), (75, .irem, 1), (76, .istore 6, 2), (78, .iload_n 0, 1), (79, .bipush 32, 2), (81, .idiv, 1), (82, .istore 7, 2), (84, .iload 6, 2), (86, .ifCond .ne 16, 3), (89, .iload 5, 2), (91, .iload 7, 2), (93, .if_icmp .ge 7, 3), (96, .iconst 1, 1), (97, .goto 4, 3), (100, .iconst 0, 1), (101, .ireturn, 1), (102, .iload 6, 2), (104, .iconst 1, 1), (105, .if_icmp .ne 18, 3), (108, .iload 5, 2), (110, .iload 7, 2), (112, .if_icmp .ne 7, 3), (115, .iconst 1, 1), (116, .goto 19, 3), (119, .iconst 0, 1), (120, .goto 15, 3), (123, .iload 5, 2), (125, .iload 7, 2), (127, .if_icmp .le 7, 3), (130, .iconst 1, 1), (131, .goto 4, 3), (134, .iconst 0, 1), (135, .ireturn, 1)]
def hb_m85 : px_M := (hb_h85, hb_c85_0 ++ (hb_c85_1), hb_L6)
def hb_c86_0 : List (Nat × Instr × Nat) := [(0, .aload_n 0, 1), (1, .invokespecial 3, 3), (4, .aload_n 0, 1), (5, .bipush 10, 2), (7, .putfield 9, 3), (10, .aload_n 0, 1), (11, .iconst 0, 1), (12, .putfield 15, 3), (15, .aload_n 0, 1), (16, .bipush 6, 2), (18, .newarray .int, 2), (20, .putfield 18, 3), (23, .aload_n 0, 1), (24, .bipush 6, 2), (26, .newarray .int, 2), (28, .putfield 22, 3), (31, .aload_n 0, 1), (32, .bipush 6, 2), (34, .newarray .int, 2), (36, .putfield 25, 3), (39, .aload_n 0, 1), (40, .bipush 6, 2), (42, .newarray .int, 2), (44, .putfield 28, 3), (47, .aload_n 0, 1), (48, .bipush 6, 2), (50, .newarray .int, 2), (52, .putfield 31, 3), (55, .aload_n 0, 1), (56, .iconst 0, 1), (57, .putfield 34, 3), (60, .aload_n 0, 1), (61, .bipush 10, 2), (63, .newarray .int, 2), (65, .putfield 37, 3), (68, .aload_n 0, 1), (69, .iconst 0, 1), (70, .putfield 40, 3), (73, .aload_n 0, 1), (74, .bipush 8, 2)]
def hb_c86_1 : List (Nat × Instr × Nat) := [(76, .newarray .int, 2), (78, .putfield 43, 3), (81, .aload_n 0, 1), (82, .bipush 8, 2), (84, .newarray .int, 2), (86, .putfield 46, 3), (89, .aload_n 0, 1), (90, .bipush 8, 2), (92, .newarray .int, 2), (94, .putfield 49, 3), (97, .return_, 1)]
def hb_m86 : px_M := (hb_h86, hb_c86_0 ++ (hb_c86_1), hb_L7)
def hb_c87_0 : List (Nat × Instr × Nat) := [(0, .aload_n 0, 1), (1, .aload_n 1, 1), (2, .getfield 9, 3), (5, .putfield 9, 3), (8, .aload_n 0, 1), (9, .aload_n 1, 1), (10, .getfield 15, 3), (13, .putfield 15, 3), (16, .aload_n 1, 1), (17, .getfield 18, 3), (20, .aload_n 0, 1), (21, .getfield 18, 3), (24, .invokestatic 52, 3), (27, .aload_n 1, 1), (28, .getfield 22, 3), (31, .aload_n 0, 1), (32, .getfield 22, 3), (35, .invokestatic 52, 3), (38, .aload_n 1, 1), (39, .getfield 25, 3), (42, .aload_n 0, 1), (43, .getfield 25, 3), (46, .invokestatic 52, 3), (49, .aload_n 1, 1), (50, .getfield 28, 3), (53, .aload_n 0, 1), (54, .getfield 28, 3), (57, .invokestatic 52, 3), (60, .aload_n 1, 1), (61, .getfield 31, 3), (64, .aload_n 0, 1), (65, .getfield 31, 3), (68, .invokestatic 52, 3), (71, .aload_n 0, 1), (72, .aload_n 1, 1), (73, .getfield 34, 3), (76, .putfield 34, 3), (79, .aload_n 1, 1), (80, .getfield 37, 3), (83, .aload_n 0, 1)]
def hb_c87_1 : List (Nat × Instr × Nat) := [(84, .getfield 37, 3), (87, .invokestatic 52, 3), (90, .aload_n 0, 1), (91, .aload_n 1, 1), (92, .getfield 40, 3), (95, .putfield 40, 3), (98, .aload_n 1, 1), (99, .getfield 43, 3), (102, .aload_n 0, 1), (103, .getfield 43, 3), (106, .invokestatic 52, 3), (109, .aload_n 1, 1), (110, .getfield 46, 3), (113, .aload_n 0, 1), (114, .getfield 46, 3), (117, .invokestatic 52, 3), (120, .aload_n 1, 1), (121, .getfield 49, 3), (124, .aload_n 0, 1), (125, .getfield 49, 3), (128, .invokestatic 52, 3), (131, .return_, 1)]
def hb_m87 : px_M := (hb_h87, hb_c87_0 ++ (hb_c87_1), hb_L7)
def hb_c88_0 : List (Nat × Instr × Nat) := [(0, .aload_n 0, 1), (1, .getfield 18, 3), (4, .aload_n 0, 1), (5, .getfield 15, 3), (8, .iload_n 1, 1), (9, .bipush 100, 2), (11, .idiv, 1), (12, .bipush 50, 2), (14, .isub, 1), (15, .invokestatic 56, 3), (18, .iload_n 1, 1), (19, .bipush 100, 2), (21, .irem, 1), (22, .bipush 50, 2), (24, .isub, 1), (25, .invokestatic 56, 3), (28, .iadd, 1), (29, .iastore, 1), (30, .aload_n 0, 1), (31, .getfield 22, 3), (34, .aload_n 0, 1), (35, .getfield 15, 3), (38, .iload_n 2, 1), (39, .iastore, 1), (40, .aload_n 0, 1), (41, .getfield 25, 3), (44, .aload_n 0, 1), (45, .getfield 15, 3), (48, .iload_n 3, 1), (49, .sipush 1000, 3), (52, .idiv, 1), (53, .iastore, 1), (54, .aload_n 0, 1), (55, .getfield 28, 3), (58, .aload_n 0, 1), (59, .getfield 15, 3), (62, .iload_n 3, 1), (63, .sipush 1000, 3), (66, .irem, 1), (67, .iastore, 1)]
def hb_c88_1 : List (Nat × Instr × Nat) := [(68, .aload_n 0, 1), (69, .getfield 31, 3), (72, .aload_n 0, 1), (73, .getfield 15, 3), (76, .iload 4, 2), (78, .iastore, 1), (79, .aload_n 0, 1), (80, .dup, 1), (81, .getfield 15, 3), (84, .dup_x1, 1), (85, .iconst 1, 1), (86, .iadd, 1), (87, .putfield 15, 3), (90, .ireturn, 1)]
def hb_m88 : px_M := (hb_h88, hb_c88_0 ++ (hb_c88_1), hb_L7)
def hb_c89_0 : List (Nat × Instr × Nat) := [(0, .aload_n 0, 1), (1, .getfield 37, 3), (4, .aload_n 0, 1), (5, .getfield 34, 3), (8, .iload_n 1, 1), (9, .iastore, 1), (10, .aload_n 0, 1), (11, .dup, 1), (12, .getfield 34, 3), (15, .dup_x1, 1), (16, .iconst 1, 1), (17, .iadd, 1), (18, .putfield 34, 3), (21, .ireturn, 1)]
def hb_m89 : px_M := (hb_h89, hb_c89_0, hb_L7)
def hb_c90_0 : List (Nat × Instr × Nat) := [(0, .aload_n 0, 1), (1, .getfield 43, 3), (4, .aload_n 0, 1), (5, .getfield 40, 3), (8, .iload_n 1, 1), (9, .iastore, 1), (10, .aload_n 0, 1), (11, .getfield 46, 3), (14, .aload_n 0, 1), (15, .getfield 40, 3), (18, .iload_n 2, 1), (19, .iastore, 1), (20, .aload_n 0, 1), (21, .getfield 49, 3), (24, .aload_n 0, 1), (25, .getfield 40, 3), (28, .iload_n 3, 1), (29, .iastore, 1), (30, .aload_n 0, 1), (31, .dup, 1), (32, .getfield 40, 3), (35, .dup_x1, 1), (36, .iconst 1, 1), (37, .iadd, 1), (38, .putfield 40, 3), (41, .ireturn, 1)]
def hb_m90 : px_M := (hb_h90, hb_c90_0, hb_L7)
def hb_c91_0 : List (Nat × Instr × Nat) := [(0, .iconst 0, 1), (1, .istore_n 2, 1), (2, .iconst 0, 1), (3, .istore_n 3, 1), (4, .iload_n 3, 1), (5, .aload_n 0, 1), (6, .getfield 15, 3), (9, .if_icmp .ge 28, 3), (12, .iload_n 2, 1), (13, .aload_n 0, 1), (14, .iload_n 3, 1), (15, .iload_n 1, 1), (16, .invokevirtual 62, 3), (19, .ifCond .eq 9, 3), (22, .iconst 1, 1), (23, .iload_n 3, 1), (24, .ishl, 1), (25, .goto 4, 3), (28, .iconst 0, 1), (29, .ior, 1), (30, .istore_n 2, 1), (31, .iinc 3 1, 3), (34, .goto (-30), 3), (37, .iload_n 2, 1), (38, .ireturn, 1)]
def hb_m91 : px_M := (hb_h91, hb_c91_0, hb_L7)
def hb_c92_0 : List (Nat × Instr × Nat) := [(0, .aload_n 0, 1), (1, .getfield 37, 3), (4, .iload_n 2, 1), (5, .iaload, 1), (6, .aload_n 0, 1), (7, .getfield 25, 3), (10, .iload_n 1, 1), (11, .iaload, 1), (12, .aload_n 0, 1), (13, .getfield 28, 3), (16, .iload_n 1, 1), (17, .iaload, 1), (18, .invokestatic 66, 3), (21, .ifCond .eq 22, 3), (24, .aload_n 0, 1), (25, .getfield 18, 3), (28, .iload_n 1, 1), (29, .iaload, 1), (30, .aload_n 0, 1), (31, .getfield 31, 3), (34, .iload_n 1, 1), (35, .iaload, 1), (36, .if_icmp .gt 7, 3), (39, .iconst 1, 1), (40, .goto 4, 3), (43, .iconst 0, 1), (44, .ireturn, 1)]
def hb_m92 : px_M := (hb_h92, hb_c92_0, hb_L7)
def hb_c93_0 : List (Nat × Instr × Nat) := [(0, .bipush (-3), 2), (2, .istore_n 2, 1), (3, .iconst 0, 1), (4, .istore_n 3, 1), (5, .iload_n 3, 1), (6, .aload_n 0, 1), (7, .getfield 34, 3), (10, .if_icmp .ge 41, 3), (13, .aload_n 0, 1), (14, .iload_n 1, 1), (15, .iload_n 3, 1), (16, .invokevirtual 62, 3), (19, .ifCond .eq 26, 3), (22, .iload_n 2, 1), (23, .bipush (-3), 2), (25, .if_icmp .eq 13, 3), (28, .aload_n 0, 1), (29, .getfield 37, 3), (32, .iload_n 3, 1), (33, .iaload, 1), (34, .iload_n 2, 1), (35, .if_icmp .ge 10, 3), (38, .aload_n 0, 1), (39, .getfield 37, 3), (42, .iload_n 3, 1), (43, .iaload, 1), (44, .istore_n 2, 1), (45, .iinc 3 1, 3), (48, .goto (-43), 3), (51, .iload_n 2, 1), (52, .ireturn, 1)]
def hb_m93 : px_M := (hb_h93, hb_c93_0, hb_L7)
def hb_c94_0 : List (Nat × Instr × Nat) := [(0, .aload_n 0, 1), (1, .iload_n 1, 1), (2, .invokevirtual 70, 3), (5, .istore_n 2, 1), (6, .iload_n 2, 1), (7, .bipush (-3), 2), (9, .if_icmp .eq 12, 3), (12, .aload_n 0, 1), (13, .getfield 22, 3), (16, .iload_n 1, 1), (17, .iaload, 1), (18, .ifCond .gt 6, 3), (21, .bipush (-3), 2), (23, .ireturn, 1), (24, .iload_n 2, 1), (25, .aload_n 0, 1), (26, .getfield 9, 3), (29, .iadd, 1), (30, .bipush 10, 2), (32, .aload_n 0, 1), (33, .getfield 18, 3), (36, .iload_n 1, 1), (37, .iaload, 1), (38, .imul, 1), (39, .aload_n 0, 1), (40, .getfield 22, 3), (43, .iload_n 1, 1), (44, .iaload, 1), (45, .iadd, 1), (46, .iconst 1, 1), (47, .isub, 1), (48, .aload_n 0, 1), (49, .getfield 22, 3), (52, .iload_n 1, 1), (53, .iaload, 1), (54, .idiv, 1), (55, .iadd, 1), (56, .ireturn, 1)]
def hb_m94 : px_M := (hb_h94, hb_c94_0, hb_L7)
def hb_c95_0 : List (Nat × Instr × Nat) := [(0, .iconst 0, 1), (1, .istore_n 2, 1), (2, .iconst 0, 1), (3, .istore_n 3, 1), (4, .iload_n 3, 1), (5, .aload_n 0, 1), (6, .getfield 15, 3), (9, .if_icmp .ge 52, 3), (12, .aload_n 0, 1), (13, .iload_n 3, 1), (14, .aload_n 0, 1), (15, .getfield 43, 3), (18, .iload_n 1, 1), (19, .iaload, 1), (20, .invokevirtual 73, 3), (23, .istore 4, 2), (25, .iload_n 2, 1), (26, .iload 4, 2), (28, .aload_n 0, 1), (29, .getfield 46, 3), (32, .iload_n 1, 1), (33, .iaload, 1), (34, .aload_n 0, 1), (35, .getfield 49, 3), (38, .iload_n 1, 1), (39, .iaload, 1), (40, .invokestatic 66, 3), (43, .ifCond .eq 9, 3), (46, .iconst 1, 1), (47, .iload_n 3, 1), (48, .ishl, 1), (49, .goto 4, 3), (52, .iconst 0, 1), (53, .ior, 1), (54, .istore_n 2, 1), (55, .iinc 3 1, 3), (58, .goto (-54), 3), (61, .iload_n 2, 1), (62, .ireturn, 1)]
def hb_m95 : px_M := (hb_h95, hb_c95_0, hb_L7)
def hb_c96_0 : List (Nat × Instr × Nat) := [(0, .aload_n 0, 1), (1, .iload_n 1, 1), (2, .invokevirtual 70, 3), (5, .istore_n 3, 1), (6, .iload_n 3, 1), (7, .bipush (-3), 2), (9, .if_icmp .eq 13, 3), (12, .iload_n 2, 1), (13, .iload_n 3, 1), (14, .aload_n 0, 1), (15, .getfield 9, 3), (18, .iadd, 1), (19, .if_icmp .gt 10, 3), (22, .aload_n 0, 1), (23, .getfield 18, 3), (26, .iload_n 1, 1), (27, .iaload, 1), (28, .ireturn, 1), (29, .iconst 0, 1), (30, .aload_n 0, 1), (31, .getfield 18, 3), (34, .iload_n 1, 1), (35, .iaload, 1), (36, .aload_n 0, 1), (37, .getfield 22, 3), (40, .iload_n 1, 1), (41, .iaload, 1), (42, .iload_n 2, 1), (43, .iload_n 3, 1), (44, .isub, 1), (45, .aload_n 0, 1), (46, .getfield 9, 3), (49, .isub, 1), (50, .imul, 1), (51, .bipush 10, 2), (53, .idiv, 1), (54, .isub, 1), (55, .invokestatic 77, 3), (58, .ireturn, 1)]
def hb_m96 : px_M := (hb_h96, hb_c96_0, hb_L7)
def hb_c97_0 : List (Nat × Instr × Nat) := [(0, .aload_n 0, 1), (1, .invokespecial 1, 3), (4, .aload_n 0, 1), (5, .iconst 0, 1), (6, .putfield 7, 3), (9, .aload_n 0, 1), (10, .sipush 240, 3), (13, .newarray .int, 2), (15, .putfield 15, 3), (18, .aload_n 0, 1), (19, .bipush 10, 2), (21, .newarray .int, 2), (23, .putfield 19, 3), (26, .aload_n 0, 1), (27, .iconst 0, 1), (28, .putfield 22, 3), (31, .aload_n 0, 1), (32, .bipush 6, 2), (34, .newarray .int, 2), (36, .putfield 25, 3), (39, .aload_n 0, 1), (40, .iconst 0, 1), (41, .putfield 28, 3), (44, .aload_n 0, 1), (45, .iconst 0, 1), (46, .putfield 31, 3), (49, .aload_n 0, 1), (50, .bipush 10, 2), (52, .newarray .int, 2), (54, .putfield 34, 3), (57, .aload_n 0, 1), (58, .bipush 8, 2), (60, .newarray .int, 2), (62, .putfield 37, 3), (65, .aload_n 0, 1), (66, .bipush 8, 2), (68, .newarray .int, 2), (70, .putfield 40, 3), (73, .aload_n 0, 1), (74, .bipush 80, 2)]
def hb_c97_1 : List (Nat × Instr × Nat) := [(76, .newarray .int, 2), (78, .putfield 43, 3), (81, .aload_n 0, 1), (82, .sipush 256, 3), (85, .newarray .int, 2), (87, .putfield 46, 3), (90, .aload_n 0, 1), (91, .sipush 256, 3), (94, .newarray .int, 2), (96, .putfield 49, 3), (99, .aload_n 0, 1), (100, .bipush 6, 2), (102, .newarray .int, 2), (104, .putfield 52, 3), (107, .aload_n 0, 1), (108, .iconst 0, 1), (109, .putfield 55, 3), (112, .aload_n 0, 1), (113, .iconst 0, 1), (114, .putfield 58, 3), (117, .aload_n 0, 1), (118, .iconst 0, 1), (119, .putfield 61, 3), (122, .return_, 1)]
def hb_m97 : px_M := (hb_h97, hb_c97_0 ++ (hb_c97_1), hb_L8)
def hb_c98_0 : List (Nat × Instr × Nat) := [(0, .aload_n 0, 1), (1, .aload_n 1, 1), (2, .getfield 64, 3), (5, .putfield 28, 3), (8, .aload_n 0, 1), (9, .aload_n 1, 1), (10, .getfield 65, 3), (13, .putfield 31, 3), (16, .aload_n 1, 1), (17, .getfield 66, 3), (20, .aload_n 0, 1), (21, .getfield 34, 3), (24, .invokestatic 67, 3), (27, .aload_n 1, 1), (28, .getfield 73, 3), (31, .aload_n 0, 1), (32, .getfield 37, 3), (35, .invokestatic 67, 3), (38, .aload_n 1, 1), (39, .getfield 74, 3), (42, .aload_n 0, 1), (43, .getfield 40, 3), (46, .invokestatic 67, 3), (49, .iconst 0, 1), (50, .istore_n 2, 1), (51, .iload_n 2, 1), (52, .aload_n 0, 1), (53, .getfield 28, 3), (56, .if_icmp .ge 89, 3), (59, .aload_n 1, 1), (60, .iload_n 2, 1), (61, .invokevirtual 75, 3), (64, .iconst 0, 1), (65, .istore_n 3, 1), (66, .iload_n 3, 1), (67, .aload_n 0, 1), (68, .getfield 31, 3), (71, .if_icmp .ge 68, 3), (74, .aload_n 1, 1), (75, .getfield 79, 3)]
def hb_c98_1 : List (Nat × Instr × Nat) := [(78, .iload_n 3, 1), (79, .iaload, 1), (80, .iconst 1, 1), (81, .if_icmp .eq 13, 3), (84, .aload_n 1, 1), (85, .getfield 82, 3), (88, .iload_n 2, 1), (89, .iaload, 1), (90, .iconst 2, 1), (91, .if_icmp .eq 7, 3), (94, .iconst 1, 1), (95, .goto 4, 3), (98, .iconst 0, 1), (99, .istore 4, 2), (101, .aload_n 0, 1), (102, .getfield 43, 3), (105, .iload_n 2, 1), (106, .bipush 8, 2), (108, .imul, 1), (109, .iload_n 3, 1), (110, .iadd, 1), (111, .iload 4, 2), (113, .ifCond .eq 17, 3), (116, .aload_n 1, 1), (117, .getfield 85, 3), (120, .aload_n 1, 1), (121, .getfield 88, 3), (124, .iload_n 3, 1), (125, .iaload, 1), (126, .iaload, 1), (127, .goto 5, 3), (130, .ldc 91, 2), (132, .iastore, 1), (133, .iinc 3 1, 3), (136, .goto (-70), 3), (139, .iinc 2 1, 3), (142, .goto (-91), 3), (145, .iconst 0, 1), (146, .istore_n 2, 1), (147, .iload_n 2, 1)]
def hb_c98_2 : List (Nat × Instr × Nat) := [(148, .aload_n 0, 1), (149, .getfield 31, 3), (152, .if_icmp .ge 47, 3), (155, .iconst 0, 1), (156, .istore_n 3, 1), (157, .iload_n 3, 1), (158, .iconst 1, 1), (159, .iload_n 2, 1), (160, .ishl, 1), (161, .if_icmp .ge 32, 3), (164, .aload_n 0, 1), (165, .getfield 46, 3), (168, .iload_n 3, 1), (169, .iconst 1, 1), (170, .iload_n 2, 1), (171, .ishl, 1), (172, .ior, 1), (173, .aload_n 0, 1), (174, .getfield 46, 3), (177, .iload_n 3, 1), (178, .iaload, 1), (179, .aload_n 0, 1), (180, .getfield 37, 3), (183, .iload_n 2, 1), (184, .iaload, 1), (185, .iadd, 1), (186, .iastore, 1), (187, .iinc 3 1, 3), (190, .goto (-33), 3), (193, .iinc 2 1, 3), (196, .goto (-49), 3), (199, .aload_n 0, 1), (200, .invokevirtual 92, 3), (203, .return_, 1)]
def hb_m98 : px_M := (hb_h98, hb_c98_0 ++ (hb_c98_1 ++ (hb_c98_2)), hb_L8)
def hb_c99_0 : List (Nat × Instr × Nat) := [(0, .iconst 0, 1), (1, .istore_n 1, 1), (2, .iload_n 1, 1), (3, .aload_n 0, 1), (4, .getfield 28, 3), (7, .if_icmp .ge 60, 3), (10, .iconst 0, 1), (11, .istore_n 2, 1), (12, .iconst 0, 1), (13, .istore_n 3, 1), (14, .iload_n 3, 1), (15, .aload_n 0, 1), (16, .getfield 31, 3), (19, .if_icmp .ge 35, 3), (22, .aload_n 0, 1), (23, .getfield 43, 3), (26, .iload_n 1, 1), (27, .bipush 8, 2), (29, .imul, 1), (30, .iload_n 3, 1), (31, .iadd, 1), (32, .iaload, 1), (33, .aload_n 0, 1), (34, .getfield 40, 3), (37, .iload_n 3, 1), (38, .iaload, 1), (39, .if_icmp .gt 9, 3), (42, .iload_n 2, 1), (43, .iconst 1, 1), (44, .iload_n 3, 1), (45, .ishl, 1), (46, .ior, 1), (47, .istore_n 2, 1), (48, .iinc 3 1, 3), (51, .goto (-37), 3), (54, .aload_n 0, 1), (55, .getfield 19, 3), (58, .iload_n 1, 1), (59, .iload_n 2, 1), (60, .iastore, 1)]
def hb_c99_1 : List (Nat × Instr × Nat) := [(61, .iinc 1 1, 3), (64, .goto (-62), 3), (67, .return_, 1)]
def hb_m99 : px_M := (hb_h99, hb_c99_0 ++ (hb_c99_1), hb_L8)
def hb_c100_0 : List (Nat × Instr × Nat) := [(0, .aload_n 0, 1), (1, .getfield 46, 3), (4, .iconst 1, 1), (5, .aload_n 0, 1), (6, .getfield 31, 3), (9, .ishl, 1), (10, .iconst 1, 1), (11, .isub, 1), (12, .iaload, 1), (13, .istore_n 1, 1), (14, .iconst 0, 1), (15, .istore_n 2, 1), (16, .iload_n 2, 1), (17, .iconst 1, 1), (18, .aload_n 0, 1), (19, .getfield 31, 3), (22, .ishl, 1), (23, .if_icmp .ge 71, 3), (26, .aload_n 0, 1), (27, .getfield 46, 3), (30, .iload_n 2, 1), (31, .iaload, 1), (32, .istore_n 3, 1), (33, .iconst 0, 1), (34, .istore 4, 2), (36, .iload 4, 2), (38, .aload_n 0, 1), (39, .getfield 28, 3), (42, .if_icmp .ge 33, 3), (45, .aload_n 0, 1), (46, .getfield 19, 3), (49, .iload 4, 2), (51, .iaload, 1), (52, .iload_n 2, 1), (53, .iconst (-1), 1), (54, .ixor, 1), (55, .iand, 1), (56, .ifCond .eq 13, 3), (59, .iload_n 3, 1), (60, .aload_n 0, 1)]
def hb_c100_1 : List (Nat × Instr × Nat) := [(61, .getfield 34, 3), (64, .iload 4, 2), (66, .iaload, 1), (67, .iadd, 1), (68, .istore_n 3, 1), (69, .iinc 4 1, 3), (72, .goto (-36), 3), (75, .aload_n 0, 1), (76, .getfield 49, 3), (79, .iload_n 2, 1), (80, .iload_n 3, 1), (81, .iastore, 1), (82, .iload_n 1, 1), (83, .iload_n 3, 1), (84, .invokestatic 95, 3), (87, .istore_n 1, 1), (88, .iinc 2 1, 3), (91, .goto (-75), 3), (94, .iload_n 1, 1), (95, .ireturn, 1)]
def hb_m100 : px_M := (hb_h100, hb_c100_0 ++ (hb_c100_1), hb_L8)
def hb_c101_0 : List (Nat × Instr × Nat) := [(0, .aload_n 0, 1), (1, .invokevirtual 101, 3), (4, .istore_n 1, 1), (5, .aload_n 0, 1), (6, .iconst 0, 1), (7, .putfield 7, 3), (10, .iconst 0, 1), (11, .istore_n 2, 1), (12, .iload_n 2, 1), (13, .aload_n 0, 1), (14, .getfield 28, 3), (17, .if_icmp .ge 61, 3), (20, .iconst 0, 1), (21, .istore_n 3, 1), (22, .iload_n 3, 1), (23, .aload_n 0, 1), (24, .getfield 31, 3), (27, .if_icmp .ge 45, 3), (30, .aload_n 0, 1), (31, .getfield 19, 3), (34, .iload_n 2, 1), (35, .iaload, 1), (36, .iload_n 3, 1), (37, .ishr, 1), (38, .iconst 1, 1), (39, .iand, 1), (40, .iconst 1, 1), (41, .if_icmp .ne 25, 3), (44, .aload_n 0, 1), (45, .iload_n 2, 1), (46, .iload_n 3, 1), (47, .iload_n 1, 1), (48, .invokevirtual 105, 3), (51, .istore 4, 2), (53, .iload_n 1, 1), (54, .iload 4, 2), (56, .isub, 1), (57, .istore_n 1, 1), (58, .aload_n 0, 1), (59, .iload_n 2, 1)]
def hb_c101_1 : List (Nat × Instr × Nat) := [(60, .iload_n 3, 1), (61, .iload 4, 2), (63, .invokevirtual 109, 3), (66, .iinc 3 1, 3), (69, .goto (-47), 3), (72, .iinc 2 1, 3), (75, .goto (-63), 3), (78, .aload_n 0, 1), (79, .getfield 7, 3), (82, .ireturn, 1)]
def hb_m101 : px_M := (hb_h101, hb_c101_0 ++ (hb_c101_1), hb_L8)
def hb_c102_0 : List (Nat × Instr × Nat) := [(0, .aload_n 0, 1), (1, .getfield 34, 3), (4, .iload_n 1, 1), (5, .iaload, 1), (6, .aload_n 0, 1), (7, .getfield 37, 3), (10, .iload_n 2, 1), (11, .iaload, 1), (12, .invokestatic 95, 3), (15, .istore 4, 2), (17, .iconst 0, 1), (18, .istore 5, 2), (20, .iload 5, 2), (22, .iconst 1, 1), (23, .aload_n 0, 1), (24, .getfield 31, 3), (27, .ishl, 1), (28, .if_icmp .ge 49, 3), (31, .iload 5, 2), (33, .iload_n 2, 1), (34, .ishr, 1), (35, .iconst 1, 1), (36, .iand, 1), (37, .iconst 1, 1), (38, .if_icmp .ne 33, 3), (41, .aload_n 0, 1), (42, .getfield 19, 3), (45, .iload_n 1, 1), (46, .iaload, 1), (47, .iload 5, 2), (49, .iconst (-1), 1), (50, .ixor, 1), (51, .iand, 1), (52, .ifCond .eq 19, 3), (55, .iload 4, 2), (57, .aload_n 0, 1), (58, .getfield 49, 3), (61, .iload 5, 2), (63, .iaload, 1), (64, .iload_n 3, 1)]
def hb_c102_1 : List (Nat × Instr × Nat) := [(65, .isub, 1), (66, .invokestatic 95, 3), (69, .istore 4, 2), (71, .iinc 5 1, 3), (74, .goto (-54), 3), (77, .iload 4, 2), (79, .ireturn, 1)]
def hb_m102 : px_M := (hb_h102, hb_c102_0 ++ (hb_c102_1), hb_L8)
def hb_c103_0 : List (Nat × Instr × Nat) := [(0, .iload_n 3, 1), (1, .ifCond .gt 4, 3), (4, .return_, 1), (5, .aload_n 0, 1), (6, .getfield 34, 3), (9, .iload_n 1, 1), (10, .dup2, 1), (11, .iaload, 1), (12, .iload_n 3, 1), (13, .isub, 1), (14, .iastore, 1), (15, .aload_n 0, 1), (16, .getfield 37, 3), (19, .iload_n 2, 1), (20, .dup2, 1), (21, .iaload, 1), (22, .iload_n 3, 1), (23, .isub, 1), (24, .iastore, 1), (25, .iconst 0, 1), (26, .istore 4, 2), (28, .iload 4, 2), (30, .iconst 1, 1), (31, .aload_n 0, 1), (32, .getfield 31, 3), (35, .ishl, 1), (36, .if_icmp .ge 63, 3), (39, .aload_n 0, 1), (40, .getfield 49, 3), (43, .iload 4, 2), (45, .dup2, 1), (46, .iaload, 1), (47, .iload 4, 2), (49, .iload_n 2, 1), (50, .ishr, 1), (51, .iconst 1, 1), (52, .iand, 1), (53, .iconst 1, 1), (54, .if_icmp .ne 7, 3), (57, .iload_n 3, 1)]
def hb_c103_1 : List (Nat × Instr × Nat) := [(58, .goto 4, 3), (61, .iconst 0, 1), (62, .isub, 1), (63, .iastore, 1), (64, .aload_n 0, 1), (65, .getfield 49, 3), (68, .iload 4, 2), (70, .dup2, 1), (71, .iaload, 1), (72, .aload_n 0, 1), (73, .getfield 19, 3), (76, .iload_n 1, 1), (77, .iaload, 1), (78, .iload 4, 2), (80, .iconst (-1), 1), (81, .ixor, 1), (82, .iand, 1), (83, .ifCond .eq 7, 3), (86, .iload_n 3, 1), (87, .goto 4, 3), (90, .iconst 0, 1), (91, .isub, 1), (92, .iastore, 1), (93, .iinc 4 1, 3), (96, .goto (-68), 3), (99, .aload_n 0, 1), (100, .getfield 15, 3), (103, .aload_n 0, 1), (104, .getfield 7, 3), (107, .iconst 3, 1), (108, .imul, 1), (109, .iload_n 1, 1), (110, .iastore, 1), (111, .aload_n 0, 1), (112, .getfield 15, 3), (115, .aload_n 0, 1), (116, .getfield 7, 3), (119, .iconst 3, 1), (120, .imul, 1), (121, .iconst 1, 1)]
def hb_c103_2 : List (Nat × Instr × Nat) := [(122, .iadd, 1), (123, .iload_n 2, 1), (124, .iastore, 1), (125, .aload_n 0, 1), (126, .getfield 15, 3), (129, .aload_n 0, 1), (130, .getfield 7, 3), (133, .iconst 3, 1), (134, .imul, 1), (135, .iconst 2, 1), (136, .iadd, 1), (137, .iload_n 3, 1), (138, .iastore, 1), (139, .aload_n 0, 1), (140, .dup, 1), (141, .getfield 7, 3), (144, .iconst 1, 1), (145, .iadd, 1), (146, .putfield 7, 3), (149, .return_, 1)]
def hb_m103 : px_M := (hb_h103, hb_c103_0 ++ (hb_c103_1 ++ (hb_c103_2)), hb_L8)
def hb_c104_0 : List (Nat × Instr × Nat) := [(0, .iconst 0, 1), (1, .istore_n 1, 1), (2, .iconst 0, 1), (3, .istore_n 2, 1), (4, .iload_n 2, 1), (5, .aload_n 0, 1), (6, .getfield 7, 3), (9, .if_icmp .ge 73, 3), (12, .aload_n 0, 1), (13, .iload_n 2, 1), (14, .invokevirtual 113, 3), (17, .ifCond .ne 8, 3), (20, .bipush (-100), 2), (22, .iload_n 2, 1), (23, .isub, 1), (24, .ireturn, 1), (25, .aload_n 0, 1), (26, .getfield 15, 3), (29, .iload_n 2, 1), (30, .iconst 3, 1), (31, .imul, 1), (32, .iconst 2, 1), (33, .iadd, 1), (34, .iaload, 1), (35, .istore_n 3, 1), (36, .aload_n 0, 1), (37, .getfield 34, 3), (40, .aload_n 0, 1), (41, .getfield 15, 3), (44, .iload_n 2, 1), (45, .iconst 3, 1), (46, .imul, 1), (47, .iaload, 1), (48, .dup2, 1), (49, .iaload, 1), (50, .iload_n 3, 1), (51, .isub, 1), (52, .iastore, 1), (53, .aload_n 0, 1), (54, .getfield 37, 3)]
def hb_c104_1 : List (Nat × Instr × Nat) := [(57, .aload_n 0, 1), (58, .getfield 15, 3), (61, .iload_n 2, 1), (62, .iconst 3, 1), (63, .imul, 1), (64, .iconst 1, 1), (65, .iadd, 1), (66, .iaload, 1), (67, .dup2, 1), (68, .iaload, 1), (69, .iload_n 3, 1), (70, .isub, 1), (71, .iastore, 1), (72, .iload_n 1, 1), (73, .iload_n 3, 1), (74, .iadd, 1), (75, .istore_n 1, 1), (76, .iinc 2 1, 3), (79, .goto (-75), 3), (82, .iload_n 1, 1), (83, .ireturn, 1)]
def hb_m104 : px_M := (hb_h104, hb_c104_0 ++ (hb_c104_1), hb_L8)
def hb_c105_0 : List (Nat × Instr × Nat) := [(0, .aload_n 0, 1), (1, .getfield 15, 3), (4, .iload_n 1, 1), (5, .iconst 3, 1), (6, .imul, 1), (7, .iaload, 1), (8, .istore_n 2, 1), (9, .aload_n 0, 1), (10, .getfield 15, 3), (13, .iload_n 1, 1), (14, .iconst 3, 1), (15, .imul, 1), (16, .iconst 1, 1), (17, .iadd, 1), (18, .iaload, 1), (19, .istore_n 3, 1), (20, .aload_n 0, 1), (21, .getfield 15, 3), (24, .iload_n 1, 1), (25, .iconst 3, 1), (26, .imul, 1), (27, .iconst 2, 1), (28, .iadd, 1), (29, .iaload, 1), (30, .istore 4, 2), (32, .iload_n 2, 1), (33, .iconst 0, 1), (34, .aload_n 0, 1), (35, .getfield 28, 3), (38, .iconst 1, 1), (39, .isub, 1), (40, .invokestatic 117, 3), (43, .ifCond .eq 17, 3), (46, .iload_n 3, 1), (47, .iconst 0, 1), (48, .aload_n 0, 1), (49, .getfield 31, 3), (52, .iconst 1, 1), (53, .isub, 1), (54, .invokestatic 117, 3)]
def hb_c105_1 : List (Nat × Instr × Nat) := [(57, .ifCond .ne 5, 3), (60, .iconst 0, 1), (61, .ireturn, 1), (62, .iload_n 1, 1), (63, .ifCond .le 43, 3), (66, .aload_n 0, 1), (67, .getfield 15, 3), (70, .iload_n 1, 1), (71, .iconst 3, 1), (72, .imul, 1), (73, .iconst 3, 1), (74, .isub, 1), (75, .iaload, 1), (76, .istore 5, 2), (78, .iload_n 2, 1), (79, .iload 5, 2), (81, .if_icmp .lt 23, 3), (84, .iload_n 2, 1), (85, .iload 5, 2), (87, .if_icmp .ne 19, 3), (90, .iload_n 3, 1), (91, .aload_n 0, 1), (92, .getfield 15, 3), (95, .iload_n 1, 1), (96, .iconst 3, 1), (97, .imul, 1), (98, .iconst 2, 1), (99, .isub, 1), (100, .iaload, 1), (101, .if_icmp .gt 5, 3), (104, .iconst 0, 1), (105, .ireturn, 1), (106, .aload_n 0, 1), (107, .getfield 19, 3), (110, .iload_n 2, 1), (111, .iaload, 1), (112, .iload_n 3, 1), (113, .ishr, 1), (114, .iconst 1, 1), (115, .iand, 1)]
def hb_c105_2 : List (Nat × Instr × Nat) := [(116, .iconst 1, 1), (117, .if_icmp .ne 35, 3), (120, .iload 4, 2), (122, .iconst 1, 1), (123, .if_icmp .lt 29, 3), (126, .iload 4, 2), (128, .aload_n 0, 1), (129, .getfield 34, 3), (132, .iload_n 2, 1), (133, .iaload, 1), (134, .if_icmp .gt 18, 3), (137, .iload 4, 2), (139, .aload_n 0, 1), (140, .getfield 37, 3), (143, .iload_n 3, 1), (144, .iaload, 1), (145, .if_icmp .gt 7, 3), (148, .iconst 1, 1), (149, .goto 4, 3), (152, .iconst 0, 1), (153, .ireturn, 1)]
def hb_m105 : px_M := (hb_h105, hb_c105_0 ++ (hb_c105_1 ++ (hb_c105_2)), hb_L8)
def hb_c106_0 : List (Nat × Instr × Nat) := [(0, .aload_n 0, 1), (1, .iload_n 1, 1), (2, .invokestatic 121, 3), (5, .putfield 55, 3), (8, .aload_n 0, 1), (9, .iload_n 2, 1), (10, .putfield 58, 3), (13, .aload_n 0, 1), (14, .iload_n 3, 1), (15, .putfield 61, 3), (18, .aload_n 0, 1), (19, .iconst (-1), 1), (20, .putfield 22, 3), (23, .iconst 0, 1), (24, .istore 4, 2), (26, .iload 4, 2), (28, .aload_n 0, 1), (29, .getfield 31, 3), (32, .if_icmp .ge 34, 3), (35, .iload_n 1, 1), (36, .iload 4, 2), (38, .ishr, 1), (39, .iconst 1, 1), (40, .iand, 1), (41, .iconst 1, 1), (42, .if_icmp .ne 18, 3), (45, .aload_n 0, 1), (46, .getfield 40, 3), (49, .iload 4, 2), (51, .iload_n 2, 1), (52, .aload_n 0, 1), (53, .getfield 55, 3), (56, .iload_n 3, 1), (57, .imul, 1), (58, .iadd, 1), (59, .iastore, 1), (60, .iinc 4 1, 3), (63, .goto (-37), 3), (66, .aload_n 0, 1), (67, .iconst 0, 1)]
def hb_c106_1 : List (Nat × Instr × Nat) := [(68, .iload_n 1, 1), (69, .invokevirtual 127, 3), (72, .return_, 1)]
def hb_m106 : px_M := (hb_h106, hb_c106_0 ++ (hb_c106_1), hb_L8)
def hb_c107_0 : List (Nat × Instr × Nat) := [(0, .aload_n 0, 1), (1, .invokevirtual 92, 3), (4, .aload_n 0, 1), (5, .invokevirtual 101, 3), (8, .istore_n 3, 1), (9, .iload_n 3, 1), (10, .aload_n 0, 1), (11, .getfield 22, 3), (14, .if_icmp .le 11, 3), (17, .iload_n 1, 1), (18, .aload_n 0, 1), (19, .getfield 55, 3), (22, .if_icmp .lt 4, 3), (25, .return_, 1), (26, .iload_n 1, 1), (27, .aload_n 0, 1), (28, .getfield 55, 3), (31, .iconst 1, 1), (32, .isub, 1), (33, .if_icmp .ne 30, 3), (36, .aload_n 0, 1), (37, .getfield 52, 3), (40, .iload_n 1, 1), (41, .iload_n 2, 1), (42, .invokestatic 131, 3), (45, .iastore, 1), (46, .aload_n 0, 1), (47, .iload_n 3, 1), (48, .putfield 22, 3), (51, .aload_n 0, 1), (52, .getfield 52, 3), (55, .aload_n 0, 1), (56, .getfield 25, 3), (59, .invokestatic 67, 3), (62, .return_, 1), (63, .iconst 0, 1), (64, .istore 4, 2), (66, .iload 4, 2), (68, .aload_n 0, 1), (69, .getfield 31, 3)]
def hb_c107_1 : List (Nat × Instr × Nat) := [(72, .if_icmp .ge 91, 3), (75, .aload_n 0, 1), (76, .getfield 22, 3), (79, .iload_n 3, 1), (80, .if_icmp .ge 83, 3), (83, .iload_n 2, 1), (84, .iload 4, 2), (86, .ishr, 1), (87, .iconst 1, 1), (88, .iand, 1), (89, .iconst 1, 1), (90, .if_icmp .ne 67, 3), (93, .aload_n 0, 1), (94, .getfield 52, 3), (97, .iload_n 1, 1), (98, .iload 4, 2), (100, .iastore, 1), (101, .aload_n 0, 1), (102, .getfield 40, 3), (105, .iload 4, 2), (107, .aload_n 0, 1), (108, .getfield 58, 3), (111, .iload_n 1, 1), (112, .iconst 1, 1), (113, .iadd, 1), (114, .aload_n 0, 1), (115, .getfield 61, 3), (118, .imul, 1), (119, .iadd, 1), (120, .iastore, 1), (121, .aload_n 0, 1), (122, .iload_n 1, 1), (123, .iconst 1, 1), (124, .iadd, 1), (125, .iload_n 2, 1), (126, .iconst 1, 1), (127, .iload 4, 2), (129, .ishl, 1), (130, .iconst (-1), 1), (131, .ixor, 1)]
def hb_c107_2 : List (Nat × Instr × Nat) := [(132, .iand, 1), (133, .invokevirtual 127, 3), (136, .aload_n 0, 1), (137, .getfield 40, 3), (140, .iload 4, 2), (142, .aload_n 0, 1), (143, .getfield 58, 3), (146, .aload_n 0, 1), (147, .getfield 55, 3), (150, .aload_n 0, 1), (151, .getfield 61, 3), (154, .imul, 1), (155, .iadd, 1), (156, .iastore, 1), (157, .iinc 4 1, 3), (160, .goto (-94), 3), (163, .return_, 1)]
def hb_m107 : px_M := (hb_h107, hb_c107_0 ++ (hb_c107_1 ++ (hb_c107_2)), hb_L8)
def hb_c108_0 : List (Nat × Instr × Nat) := [(0, .aload_n 0, 1), (1, .invokespecial 3, 3), (4, .aload_n 0, 1), (5, .iconst 0, 1), (6, .putfield 9, 3), (9, .aload_n 0, 1), (10, .iconst 0, 1), (11, .putfield 15, 3), (14, .aload_n 0, 1), (15, .iconst 1, 1), (16, .putfield 18, 3), (19, .aload_n 0, 1), (20, .iconst 0, 1), (21, .putfield 21, 3), (24, .aload_n 0, 1), (25, .bipush 16, 2), (27, .newarray .int, 2), (29, .putfield 25, 3), (32, .aload_n 0, 1), (33, .bipush 16, 2), (35, .newarray .int, 2), (37, .putfield 29, 3), (40, .aload_n 0, 1), (41, .bipush 16, 2), (43, .newarray .int, 2), (45, .putfield 32, 3), (48, .aload_n 0, 1), (49, .bipush 16, 2), (51, .newarray .int, 2), (53, .putfield 35, 3), (56, .return_, 1)]
def hb_m108 : px_M := (hb_h108, hb_c108_0, hb_L9)
def hb_c109_0 : List (Nat × Instr × Nat) := [(0, .aload_n 0, 1), (1, .aload_n 1, 1), (2, .getfield 9, 3), (5, .putfield 9, 3), (8, .aload_n 0, 1), (9, .iconst 0, 1), (10, .putfield 21, 3), (13, .aload_n 1, 1), (14, .getfield 25, 3), (17, .aload_n 0, 1), (18, .getfield 25, 3), (21, .invokestatic 38, 3), (24, .aload_n 1, 1), (25, .getfield 29, 3), (28, .aload_n 0, 1), (29, .getfield 29, 3), (32, .invokestatic 38, 3), (35, .aload_n 1, 1), (36, .getfield 32, 3), (39, .aload_n 0, 1), (40, .getfield 32, 3), (43, .invokestatic 38, 3), (46, .aload_n 1, 1), (47, .getfield 35, 3), (50, .aload_n 0, 1), (51, .getfield 35, 3), (54, .invokestatic 38, 3), (57, .return_, 1)]
def hb_m109 : px_M := (hb_h109, hb_c109_0, hb_L9)
def hb_c110_0 : List (Nat × Instr × Nat) := [(0, .aload_n 0, 1), (1, .iconst 0, 1), (2, .putfield 21, 3), (5, .return_, 1)]
def hb_m110 : px_M := (hb_h110, hb_c110_0, hb_L9)
def hb_c111_0 : List (Nat × Instr × Nat) := [(0, .aload_n 0, 1), (1, .getfield 9, 3), (4, .istore 5, 2), (6, .iload 5, 2), (8, .ifCond .le 86, 3), (11, .aload_n 0, 1), (12, .getfield 29, 3), (15, .iload 5, 2), (17, .iconst 1, 1), (18, .isub, 1), (19, .iaload, 1), (20, .iload_n 2, 1), (21, .if_icmp .le 73, 3), (24, .aload_n 0, 1), (25, .getfield 25, 3), (28, .iload 5, 2), (30, .aload_n 0, 1), (31, .getfield 25, 3), (34, .iload 5, 2), (36, .iconst 1, 1), (37, .isub, 1), (38, .iaload, 1), (39, .iastore, 1), (40, .aload_n 0, 1), (41, .getfield 29, 3), (44, .iload 5, 2), (46, .aload_n 0, 1), (47, .getfield 29, 3), (50, .iload 5, 2), (52, .iconst 1, 1), (53, .isub, 1), (54, .iaload, 1), (55, .iastore, 1), (56, .aload_n 0, 1), (57, .getfield 32, 3), (60, .iload 5, 2), (62, .aload_n 0, 1), (63, .getfield 32, 3), (66, .iload 5, 2), (68, .iconst 1, 1)]
def hb_c111_1 : List (Nat × Instr × Nat) := [(69, .isub, 1), (70, .iaload, 1), (71, .iastore, 1), (72, .aload_n 0, 1), (73, .getfield 35, 3), (76, .iload 5, 2), (78, .aload_n 0, 1), (79, .getfield 35, 3), (82, .iload 5, 2), (84, .iconst 1, 1), (85, .isub, 1), (86, .iaload, 1), (87, .iastore, 1), (88, .iinc 5 (-1), 3), (91, .goto (-85), 3), (94, .aload_n 0, 1), (95, .getfield 25, 3), (98, .iload 5, 2), (100, .iload_n 1, 1), (101, .iastore, 1), (102, .aload_n 0, 1), (103, .getfield 29, 3), (106, .iload 5, 2), (108, .iload_n 2, 1), (109, .iastore, 1), (110, .aload_n 0, 1), (111, .getfield 32, 3), (114, .iload 5, 2), (116, .iload_n 3, 1), (117, .iastore, 1), (118, .aload_n 0, 1), (119, .getfield 35, 3), (122, .iload 5, 2), (124, .iload 4, 2), (126, .iastore, 1), (127, .aload_n 0, 1), (128, .iconst 0, 1), (129, .putfield 21, 3), (132, .aload_n 0, 1), (133, .dup, 1)]
def hb_c111_2 : List (Nat × Instr × Nat) := [(134, .getfield 9, 3), (137, .dup_x1, 1), (138, .iconst 1, 1), (139, .iadd, 1), (140, .putfield 9, 3), (143, .ireturn, 1)]
def hb_m111 : px_M := (hb_h111, hb_c111_0 ++ (hb_c111_1 ++ (hb_c111_2)), hb_L9)
def hb_c112_0 : List (Nat × Instr × Nat) := [(0, .aload_n 0, 1), (1, .getfield 21, 3), (4, .ifCond .eq 4, 3), (7, .return_, 1), (8, .aload_n 0, 1), (9, .iconst 1, 1), (10, .putfield 21, 3), (13, .aload_n 2, 1), (14, .aload_n 1, 1), (15, .invokevirtual 42, 3), (18, .iconst 0, 1), (19, .istore_n 3, 1), (20, .iload_n 3, 1), (21, .bipush 8, 2), (23, .if_icmp .gt 76, 3), (26, .iconst 1, 1), (27, .istore 4, 2), (29, .iload 4, 2), (31, .bipush 9, 2), (33, .if_icmp .gt 60, 3), (36, .iconst 0, 1), (37, .istore 5, 2), (39, .iload 5, 2), (41, .sipush 256, 3), (44, .if_icmp .ge 43, 3), (47, .iload 5, 2), (49, .invokestatic 48, 3), (52, .iload_n 3, 1), (53, .if_icmp .ne 28, 3), (56, .aload_n 0, 1), (57, .aload_n 2, 1), (58, .iload 5, 2), (60, .iload 4, 2), (62, .invokevirtual 54, 3), (65, .ifCond .eq 16, 3), (68, .aload_n 0, 1), (69, .iload 5, 2), (71, .putfield 15, 3), (74, .aload_n 0, 1), (75, .iload 4, 2)]
def hb_c112_1 : List (Nat × Instr × Nat) := [(77, .putfield 18, 3), (80, .return_, 1), (81, .iinc 5 1, 3), (84, .goto (-45), 3), (87, .iinc 4 1, 3), (90, .goto (-61), 3), (93, .iinc 3 1, 3), (96, .goto (-76), 3), (99, .aload_n 0, 1), (100, .bipush (-3), 2), (102, .putfield 15, 3), (105, .aload_n 0, 1), (106, .bipush (-3), 2), (108, .putfield 18, 3), (111, .return_, 1)]
def hb_m112 : px_M := (hb_h112, hb_c112_0 ++ (hb_c112_1), hb_L9)
def hb_c113_0 : List (Nat × Instr × Nat) := [(0, .aload_n 1, 1), (1, .iload_n 2, 1), (2, .iload_n 3, 1), (3, .invokevirtual 58, 3), (6, .iconst 1, 1), (7, .istore 4, 2), (9, .iconst 0, 1), (10, .istore 5, 2), (12, .iconst 0, 1), (13, .istore 6, 2), (15, .iload 6, 2), (17, .bipush 60, 2), (19, .if_icmp .gt 95, 3), (22, .iload 5, 2), (24, .aload_n 0, 1), (25, .getfield 9, 3), (28, .if_icmp .ge 86, 3), (31, .iload 6, 2), (33, .ifCond .le 14, 3), (36, .iload 4, 2), (38, .ifCond .eq 9, 3), (41, .aload_n 1, 1), (42, .invokevirtual 62, 3), (45, .istore 4, 2), (47, .iload 5, 2), (49, .aload_n 0, 1), (50, .getfield 9, 3), (53, .if_icmp .ge 55, 3), (56, .aload_n 0, 1), (57, .getfield 29, 3), (60, .iload 5, 2), (62, .iaload, 1), (63, .iload 6, 2), (65, .if_icmp .ne 43, 3), (68, .aload_n 1, 1), (69, .getfield 66, 3), (72, .aload_n 0, 1), (73, .getfield 25, 3), (76, .iload 5, 2), (78, .iaload, 1)]
def hb_c113_1 : List (Nat × Instr × Nat) := [(79, .iaload, 1), (80, .aload_n 0, 1), (81, .getfield 32, 3), (84, .iload 5, 2), (86, .iaload, 1), (87, .aload_n 0, 1), (88, .getfield 35, 3), (91, .iload 5, 2), (93, .iaload, 1), (94, .invokestatic 69, 3), (97, .ifCond .ne 5, 3), (100, .iconst 0, 1), (101, .ireturn, 1), (102, .iinc 5 1, 3), (105, .goto (-58), 3), (108, .iinc 6 1, 3), (111, .goto (-96), 3), (114, .iconst 1, 1), (115, .ireturn, 1)]
def hb_m113 : px_M := (hb_h113, hb_c113_0 ++ (hb_c113_1), hb_L9)
def hb_c114_0 : List (Nat × Instr × Nat) := [(0, .aload_n 0, 1), (1, .invokespecial 1, 3), (4, .aload_n 0, 1), (5, .iconst 3, 1), (6, .newarray .int, 2), (8, .putfield 7, 3), (11, .aload_n 0, 1), (12, .iconst 0, 1), (13, .putfield 13, 3), (16, .aload_n 0, 1), (17, .bipush 12, 2), (19, .newarray .int, 2), (21, .putfield 17, 3), (24, .aload_n 0, 1), (25, .bipush 12, 2), (27, .newarray .int, 2), (29, .putfield 20, 3), (32, .aload_n 0, 1), (33, .bipush 12, 2), (35, .newarray .int, 2), (37, .putfield 23, 3), (40, .return_, 1)]
def hb_m114 : px_M := (hb_h114, hb_c114_0, hb_L10)
def hb_c115_0 : List (Nat × Instr × Nat) := [(0, .aload_n 1, 1), (1, .getfield 7, 3), (4, .aload_n 0, 1), (5, .getfield 7, 3), (8, .invokestatic 26, 3), (11, .aload_n 0, 1), (12, .aload_n 1, 1), (13, .getfield 13, 3), (16, .putfield 13, 3), (19, .aload_n 1, 1), (20, .getfield 17, 3), (23, .aload_n 0, 1), (24, .getfield 17, 3), (27, .invokestatic 26, 3), (30, .aload_n 1, 1), (31, .getfield 20, 3), (34, .aload_n 0, 1), (35, .getfield 20, 3), (38, .invokestatic 26, 3), (41, .aload_n 1, 1), (42, .getfield 23, 3), (45, .aload_n 0, 1), (46, .getfield 23, 3), (49, .invokestatic 26, 3), (52, .return_, 1)]
def hb_m115 : px_M := (hb_h115, hb_c115_0, hb_L10)
def hb_c116_0 : List (Nat × Instr × Nat) := [(0, .aload_n 0, 1), (1, .getfield 7, 3), (4, .iconst 0, 1), (5, .iaload, 1), (6, .aload_n 0, 1), (7, .getfield 7, 3), (10, .iconst 1, 1), (11, .iaload, 1), (12, .iand, 1), (13, .aload_n 0, 1), (14, .getfield 7, 3), (17, .iconst 0, 1), (18, .iaload, 1), (19, .aload_n 0, 1), (20, .getfield 7, 3), (23, .iconst 2, 1), (24, .iaload, 1), (25, .iand, 1), (26, .ior, 1), (27, .aload_n 0, 1), (28, .getfield 7, 3), (31, .iconst 1, 1), (32, .iaload, 1), (33, .aload_n 0, 1), (34, .getfield 7, 3), (37, .iconst 2, 1), (38, .iaload, 1), (39, .iand, 1), (40, .ior, 1), (41, .ireturn, 1)]
def hb_m116 : px_M := (hb_h116, hb_c116_0, hb_L10)
def hb_c117_0 : List (Nat × Instr × Nat) := [(0, .aload_n 0, 1), (1, .getfield 7, 3), (4, .iconst 0, 1), (5, .iaload, 1), (6, .aload_n 0, 1), (7, .getfield 7, 3), (10, .iconst 1, 1), (11, .iaload, 1), (12, .ior, 1), (13, .aload_n 0, 1), (14, .getfield 7, 3), (17, .iconst 2, 1), (18, .iaload, 1), (19, .ior, 1), (20, .aload_n 0, 1), (21, .invokevirtual 32, 3), (24, .iconst (-1), 1), (25, .ixor, 1), (26, .iand, 1), (27, .ireturn, 1)]
def hb_m117 : px_M := (hb_h117, hb_c117_0, hb_L10)
def hb_c118_0 : List (Nat × Instr × Nat) := [(0, .aload_n 0, 1), (1, .getfield 17, 3), (4, .aload_n 0, 1), (5, .getfield 13, 3), (8, .iload_n 1, 1), (9, .iastore, 1), (10, .aload_n 0, 1), (11, .getfield 23, 3), (14, .aload_n 0, 1), (15, .getfield 13, 3), (18, .iload_n 2, 1), (19, .iastore, 1), (20, .aload_n 0, 1), (21, .getfield 20, 3), (24, .aload_n 0, 1), (25, .getfield 13, 3), (28, .iconst (-1), 1), (29, .iastore, 1), (30, .aload_n 0, 1), (31, .dup, 1), (32, .getfield 13, 3), (35, .dup_x1, 1), (36, .iconst 1, 1), (37, .iadd, 1), (38, .putfield 13, 3), (41, .ireturn, 1)]
def hb_m118 : px_M := (hb_h118, hb_c118_0, hb_L10)
def hb_c119_0 : List (Nat × Instr × Nat) := [(0, .iconst 0, 1), (1, .istore_n 2, 1), (2, .iconst 0, 1), (3, .istore_n 3, 1), (4, .iload_n 3, 1), (5, .aload_n 0, 1), (6, .getfield 13, 3), (9, .if_icmp .ge 70, 3), (12, .aload_n 0, 1), (13, .getfield 20, 3), (16, .iload_n 3, 1), (17, .iaload, 1), (18, .iconst (-1), 1), (19, .if_icmp .eq 17, 3), (22, .aload_n 0, 1), (23, .getfield 20, 3), (26, .iload_n 3, 1), (27, .iaload, 1), (28, .iload_n 1, 1), (29, .if_icmp .gt 7, 3), (32, .iconst 1, 1), (33, .goto 4, 3), (36, .iconst 0, 1), (37, .istore 4, 2), (39, .aload_n 0, 1), (40, .getfield 23, 3), (43, .iload_n 3, 1), (44, .iaload, 1), (45, .iload_n 1, 1), (46, .if_icmp .gt 27, 3), (49, .iload 4, 2), (51, .ifCond .ne 22, 3), (54, .aload_n 0, 1), (55, .getfield 17, 3), (58, .iload_n 3, 1), (59, .iaload, 1), (60, .iload_n 2, 1), (61, .iconst (-1), 1), (62, .ixor, 1), (63, .iand, 1)]
def hb_c119_1 : List (Nat × Instr × Nat) := [(64, .ifCond .ne 9, 3), (67, .iload_n 2, 1), (68, .iconst 1, 1), (69, .iload_n 3, 1), (70, .ishl, 1), (71, .ior, 1), (72, .istore_n 2, 1), (73, .iinc 3 1, 3), (76, .goto (-72), 3), (79, .iload_n 2, 1), (80, .ireturn, 1)]
def hb_m119 : px_M := (hb_h119, hb_c119_0 ++ (hb_c119_1), hb_L10)
def hb_c120_0 : List (Nat × Instr × Nat) := [(0, .aload_n 0, 1), (1, .invokespecial 1, 3), (4, .aload_n 0, 1), (5, .new 7, 3), (8, .dup, 1), (9, .invokespecial 9, 3), (12, .putfield 10, 3), (15, .aload_n 0, 1), (16, .new 16, 3), (19, .dup, 1), (20, .invokespecial 18, 3), (23, .putfield 19, 3), (26, .aload_n 0, 1), (27, .new 23, 3), (30, .dup, 1), (31, .invokespecial 25, 3), (34, .putfield 26, 3), (37, .aload_n 0, 1), (38, .new 30, 3), (41, .dup, 1), (42, .invokespecial 32, 3), (45, .putfield 33, 3), (48, .aload_n 0, 1), (49, .new 37, 3), (52, .dup, 1), (53, .invokespecial 39, 3), (56, .putfield 40, 3), (59, .aload_n 0, 1), (60, .new 44, 3), (63, .dup, 1), (64, .invokespecial 46, 3), (67, .putfield 47, 3), (70, .aload_n 0, 1), (71, .new 51, 3), (74, .dup, 1), (75, .invokespecial 53, 3), (78, .putfield 54, 3), (81, .aload_n 0, 1), (82, .new 7, 3), (85, .dup, 1)]
def hb_c120_1 : List (Nat × Instr × Nat) := [(86, .invokespecial 9, 3), (89, .putfield 58, 3), (92, .aload_n 0, 1), (93, .new 16, 3), (96, .dup, 1), (97, .invokespecial 18, 3), (100, .putfield 61, 3), (103, .aload_n 0, 1), (104, .new 23, 3), (107, .dup, 1), (108, .invokespecial 25, 3), (111, .putfield 64, 3), (114, .aload_n 0, 1), (115, .new 30, 3), (118, .dup, 1), (119, .invokespecial 32, 3), (122, .putfield 67, 3), (125, .aload_n 0, 1), (126, .new 37, 3), (129, .dup, 1), (130, .invokespecial 39, 3), (133, .putfield 70, 3), (136, .aload_n 0, 1), (137, .new 44, 3), (140, .dup, 1), (141, .invokespecial 46, 3), (144, .putfield 73, 3), (147, .aload_n 0, 1), (148, .new 51, 3), (151, .dup, 1), (152, .invokespecial 53, 3), (155, .putfield 76, 3), (158, .aload_n 0, 1), (159, .iconst 0, 1), (160, .putfield 79, 3), (163, .aload_n 0, 1), (164, .new 7, 3), (167, .dup, 1), (168, .invokespecial 9, 3), (171, .putfield 83, 3)]
def hb_c120_2 : List (Nat × Instr × Nat) := [(174, .aload_n 0, 1), (175, .new 86, 3), (178, .dup, 1), (179, .invokespecial 88, 3), (182, .putfield 89, 3), (185, .aload_n 0, 1), (186, .new 93, 3), (189, .dup, 1), (190, .invokespecial 95, 3), (193, .putfield 96, 3), (196, .aload_n 0, 1), (197, .new 100, 3), (200, .dup, 1), (201, .invokespecial 102, 3), (204, .putfield 103, 3), (207, .aload_n 0, 1), (208, .new 107, 3), (211, .dup, 1), (212, .invokespecial 109, 3), (215, .putfield 110, 3), (218, .return_, 1)]
def hb_m120 : px_M := (hb_h120, hb_c120_0 ++ (hb_c120_1 ++ (hb_c120_2)), hb_L11)
def hb_c121_0 : List (Nat × Instr × Nat) := [(0, .iload_n 1, 1), (1, .iconst 1, 1), (2, .sipush 200, 3), (5, .invokestatic 114, 3), (8, .ifCond .ne 5, 3), (11, .iconst (-1), 1), (12, .ireturn, 1), (13, .aload_n 0, 1), (14, .getfield 10, 3), (17, .getfield 118, 3), (20, .iload_n 1, 1), (21, .iadd, 1), (22, .sipush 999, 3), (25, .if_icmp .le 6, 3), (28, .bipush (-4), 2), (30, .ireturn, 1), (31, .iconst 0, 1), (32, .istore_n 2, 1), (33, .iload_n 2, 1), (34, .iload_n 1, 1), (35, .if_icmp .ge 17, 3), (38, .aload_n 0, 1), (39, .getfield 10, 3), (42, .invokevirtual 122, 3), (45, .pop, 1), (46, .iinc 2 1, 3), (49, .goto (-16), 3), (52, .aload_n 0, 1), (53, .getfield 10, 3), (56, .getfield 118, 3), (59, .ireturn, 1)]
def hb_m121 : px_M := (hb_h121, hb_c121_0, hb_L11)
def hb_c122_0 : List (Nat × Instr × Nat) := [(0, .iload_n 1, 1), (1, .iconst 0, 1), (2, .bipush 7, 2), (4, .invokestatic 114, 3), (7, .ifCond .eq 11, 3), (10, .iload_n 2, 1), (11, .iload_n 3, 1), (12, .invokestatic 126, 3), (15, .ifCond .ne 5, 3), (18, .iconst (-1), 1), (19, .ireturn, 1), (20, .aload_n 0, 1), (21, .getfield 19, 3), (24, .invokevirtual 130, 3), (27, .aload_n 0, 1), (28, .getfield 10, 3), (31, .iload_n 1, 1), (32, .iload_n 2, 1), (33, .iload_n 3, 1), (34, .invokevirtual 133, 3), (37, .ireturn, 1)]
def hb_m122 : px_M := (hb_h122, hb_c122_0, hb_L11)
def hb_c123_0 : List (Nat × Instr × Nat) := [(0, .iload_n 1, 1), (1, .iconst 0, 1), (2, .bipush 6, 2), (4, .invokestatic 114, 3), (7, .ifCond .eq 13, 3), (10, .iload_n 2, 1), (11, .iconst 0, 1), (12, .bipush 100, 2), (14, .invokestatic 114, 3), (17, .ifCond .ne 5, 3), (20, .iconst (-1), 1), (21, .ireturn, 1), (22, .aload_n 0, 1), (23, .getfield 10, 3), (26, .getfield 137, 3), (29, .iload_n 1, 1), (30, .iaload, 1), (31, .istore_n 3, 1), (32, .aload_n 0, 1), (33, .getfield 10, 3), (36, .getfield 137, 3), (39, .iload_n 1, 1), (40, .iload_n 2, 1), (41, .iastore, 1), (42, .aload_n 0, 1), (43, .getfield 19, 3), (46, .invokevirtual 130, 3), (49, .iload_n 3, 1), (50, .ireturn, 1)]
def hb_m123 : px_M := (hb_h123, hb_c123_0, hb_L11)
def hb_c124_0 : List (Nat × Instr × Nat) := [(0, .iload_n 1, 1), (1, .iconst 0, 1), (2, .bipush 6, 2), (4, .invokestatic 114, 3), (7, .ifCond .ne 5, 3), (10, .iconst (-1), 1), (11, .ireturn, 1), (12, .aload_n 0, 1), (13, .getfield 10, 3), (16, .getfield 141, 3), (19, .iload_n 1, 1), (20, .iaload, 1), (21, .istore_n 3, 1), (22, .aload_n 0, 1), (23, .getfield 10, 3), (26, .getfield 141, 3), (29, .iload_n 1, 1), (30, .iload_n 2, 1), (31, .ifCond .eq 7, 3), (34, .iconst 1, 1), (35, .goto 4, 3), (38, .iconst 0, 1), (39, .iastore, 1), (40, .aload_n 0, 1), (41, .getfield 19, 3), (44, .invokevirtual 130, 3), (47, .iload_n 3, 1), (48, .ireturn, 1)]
def hb_m124 : px_M := (hb_h124, hb_c124_0, hb_L11)
def hb_c125_0 : List (Nat × Instr × Nat) := [(0, .iload_n 1, 1), (1, .iconst 0, 1), (2, .bipush 7, 2), (4, .invokestatic 114, 3), (7, .ifCond .eq 12, 3), (10, .iload_n 2, 1), (11, .iconst 0, 1), (12, .iconst 2, 1), (13, .invokestatic 114, 3), (16, .ifCond .ne 5, 3), (19, .iconst (-1), 1), (20, .ireturn, 1), (21, .iload_n 2, 1), (22, .ifCond .ne 13, 3), (25, .aload_n 0, 1), (26, .getfield 10, 3), (29, .getfield 144, 3), (32, .iload_n 1, 1), (33, .iaload, 1), (34, .ireturn, 1), (35, .iload_n 2, 1), (36, .iconst 1, 1), (37, .if_icmp .ne 14, 3), (40, .aload_n 0, 1), (41, .getfield 10, 3), (44, .iload_n 1, 1), (45, .invokevirtual 147, 3), (48, .goto 11, 3), (51, .aload_n 0, 1), (52, .getfield 10, 3), (55, .iload_n 1, 1), (56, .invokevirtual 151, 3), (59, .ireturn, 1)]
def hb_m125 : px_M := (hb_h125, hb_c125_0, hb_L11)
def hb_c126_0 : List (Nat × Instr × Nat) := [(0, .aload_n 0, 1), (1, .getfield 10, 3), (4, .getfield 154, 3), (7, .ireturn, 1)]
def hb_m126 : px_M := (hb_h126, hb_c126_0, hb_L11)
def hb_c127_0 : List (Nat × Instr × Nat) := [(0, .iload_n 1, 1), (1, .iconst (-1), 1), (2, .bipush 6, 2), (4, .invokestatic 114, 3), (7, .ifCond .eq 13, 3), (10, .iload_n 2, 1), (11, .iconst 0, 1), (12, .bipush 100, 2), (14, .invokestatic 114, 3), (17, .ifCond .ne 5, 3), (20, .iconst (-1), 1), (21, .ireturn, 1), (22, .aload_n 0, 1), (23, .getfield 10, 3), (26, .getfield 154, 3), (29, .bipush (-3), 2), (31, .if_icmp .eq 6, 3), (34, .bipush (-4), 2), (36, .ireturn, 1), (37, .aload_n 0, 1), (38, .getfield 83, 3), (41, .aload_n 0, 1), (42, .getfield 10, 3), (45, .invokevirtual 157, 3), (48, .iload_n 1, 1), (49, .ifCond .lt 13, 3), (52, .aload_n 0, 1), (53, .getfield 83, 3), (56, .getfield 137, 3), (59, .iload_n 1, 1), (60, .iload_n 2, 1), (61, .iastore, 1), (62, .iconst 1, 1), (63, .istore_n 3, 1), (64, .aload_n 0, 1), (65, .getfield 10, 3), (68, .getfield 118, 3), (71, .istore 4, 2), (73, .iload 4, 2), (75, .sipush 999, 3)]
def hb_c127_1 : List (Nat × Instr × Nat) := [(78, .if_icmp .ge 33, 3), (81, .iload_n 3, 1), (82, .ifCond .eq 29, 3), (85, .aload_n 0, 1), (86, .getfield 83, 3), (89, .getfield 154, 3), (92, .bipush (-3), 2), (94, .if_icmp .ne 17, 3), (97, .aload_n 0, 1), (98, .getfield 83, 3), (101, .invokevirtual 122, 3), (104, .istore_n 3, 1), (105, .iinc 4 1, 3), (108, .goto (-35), 3), (111, .aload_n 0, 1), (112, .getfield 83, 3), (115, .getfield 154, 3), (118, .ireturn, 1)]
def hb_m127 : px_M := (hb_h127, hb_c127_0 ++ (hb_c127_1), hb_L11)
def hb_c128_0 : List (Nat × Instr × Nat) := [(0, .iload_n 1, 1), (1, .iconst 0, 1), (2, .bipush 7, 2), (4, .invokestatic 114, 3), (7, .ifCond .eq 13, 3), (10, .iload_n 2, 1), (11, .iconst 0, 1), (12, .bipush 60, 2), (14, .invokestatic 114, 3), (17, .ifCond .ne 5, 3), (20, .iconst (-1), 1), (21, .ireturn, 1), (22, .iload_n 3, 1), (23, .iconst 0, 1), (24, .sipush 999, 3), (27, .invokestatic 114, 3), (30, .ifCond .eq 15, 3), (33, .iload 4, 2), (35, .iload_n 3, 1), (36, .sipush 999, 3), (39, .invokestatic 114, 3), (42, .ifCond .ne 5, 3), (45, .iconst (-1), 1), (46, .ireturn, 1), (47, .aload_n 0, 1), (48, .getfield 19, 3), (51, .getfield 161, 3), (54, .bipush 16, 2), (56, .if_icmp .lt 6, 3), (59, .bipush (-2), 2), (61, .ireturn, 1), (62, .aload_n 0, 1), (63, .getfield 19, 3), (66, .iload_n 1, 1), (67, .iload_n 2, 1), (68, .iload_n 3, 1), (69, .iload 4, 2), (71, .invokevirtual 164, 3), (74, .ireturn, 1)]
def hb_m128 : px_M := (hb_h128, hb_c128_0, hb_L11)
def hb_c129_0 : List (Nat × Instr × Nat) := [(0, .iload_n 1, 1), (1, .iconst 0, 1), (2, .iconst 1, 1), (3, .invokestatic 114, 3), (6, .ifCond .ne 5, 3), (9, .iconst (-1), 1), (10, .ireturn, 1), (11, .aload_n 0, 1), (12, .getfield 19, 3), (15, .aload_n 0, 1), (16, .getfield 10, 3), (19, .aload_n 0, 1), (20, .getfield 83, 3), (23, .invokevirtual 168, 3), (26, .iload_n 1, 1), (27, .ifCond .ne 13, 3), (30, .aload_n 0, 1), (31, .getfield 19, 3), (34, .getfield 172, 3), (37, .goto 10, 3), (40, .aload_n 0, 1), (41, .getfield 19, 3), (44, .getfield 175, 3), (47, .ireturn, 1)]
def hb_m129 : px_M := (hb_h129, hb_c129_0, hb_L11)
def hb_c130_0 : List (Nat × Instr × Nat) := [(0, .iload_n 1, 1), (1, .invokestatic 178, 3), (4, .ifCond .eq 15, 3), (7, .iload_n 2, 1), (8, .invokestatic 178, 3), (11, .ifCond .eq 8, 3), (14, .iload_n 1, 1), (15, .iload_n 2, 1), (16, .if_icmp .ne 5, 3), (19, .iconst (-1), 1), (20, .ireturn, 1), (21, .iload_n 3, 1), (22, .iconst 1, 1), (23, .bipush 20, 2), (25, .invokestatic 114, 3), (28, .ifCond .eq 11, 3), (31, .iload 4, 2), (33, .invokestatic 182, 3), (36, .ifCond .ne 5, 3), (39, .iconst (-1), 1), (40, .ireturn, 1), (41, .aload_n 0, 1), (42, .getfield 26, 3), (45, .getfield 185, 3), (48, .bipush 12, 2), (50, .if_icmp .lt 8, 3), (53, .bipush (-2), 2), (55, .goto 15, 3), (58, .aload_n 0, 1), (59, .getfield 26, 3), (62, .iload_n 1, 1), (63, .iload_n 2, 1), (64, .iload_n 3, 1), (65, .iload 4, 2), (67, .invokevirtual 188, 3), (70, .ireturn, 1)]
def hb_m130 : px_M := (hb_h130, hb_c130_0, hb_L11)
def hb_c131_0 : List (Nat × Instr × Nat) := [(0, .iload_n 1, 1), (1, .iconst 1, 1), (2, .bipush 50, 2), (4, .invokestatic 114, 3), (7, .ifCond .eq 27, 3), (10, .iload_n 2, 1), (11, .iconst 0, 1), (12, .iconst 2, 1), (13, .invokestatic 114, 3), (16, .ifCond .eq 18, 3), (19, .iload_n 3, 1), (20, .invokestatic 178, 3), (23, .ifCond .eq 11, 3), (26, .iload 4, 2), (28, .invokestatic 182, 3), (31, .ifCond .ne 5, 3), (34, .iconst (-1), 1), (35, .ireturn, 1), (36, .aload_n 0, 1), (37, .getfield 26, 3), (40, .getfield 191, 3), (43, .bipush 10, 2), (45, .if_icmp .lt 8, 3), (48, .bipush (-2), 2), (50, .goto 15, 3), (53, .aload_n 0, 1), (54, .getfield 26, 3), (57, .iload_n 1, 1), (58, .iload_n 2, 1), (59, .iload_n 3, 1), (60, .iload 4, 2), (62, .invokevirtual 194, 3), (65, .ireturn, 1)]
def hb_m131 : px_M := (hb_h131, hb_c131_0, hb_L11)
def hb_c132_0 : List (Nat × Instr × Nat) := [(0, .iload_n 1, 1), (1, .iconst 0, 1), (2, .aload_n 0, 1), (3, .getfield 26, 3), (6, .getfield 191, 3), (9, .iconst 1, 1), (10, .isub, 1), (11, .invokestatic 114, 3), (14, .ifCond .eq 10, 3), (17, .iload_n 2, 1), (18, .invokestatic 178, 3), (21, .ifCond .ne 5, 3), (24, .iconst (-1), 1), (25, .ireturn, 1), (26, .aload_n 0, 1), (27, .getfield 26, 3), (30, .iload_n 1, 1), (31, .invokevirtual 197, 3), (34, .aload_n 0, 1), (35, .getfield 26, 3), (38, .getfield 201, 3), (41, .iload_n 2, 1), (42, .iaload, 1), (43, .ldc 204, 2), (45, .if_icmp .ne 8, 3), (48, .bipush (-3), 2), (50, .goto 12, 3), (53, .aload_n 0, 1), (54, .getfield 26, 3), (57, .getfield 201, 3), (60, .iload_n 2, 1), (61, .iaload, 1), (62, .ireturn, 1)]
def hb_m132 : px_M := (hb_h132, hb_c132_0, hb_L11)
def hb_c133_0 : List (Nat × Instr × Nat) := [(0, .iload_n 1, 1), (1, .iconst 1, 1), (2, .bipush 65, 2), (4, .invokestatic 114, 3), (7, .ifCond .eq 27, 3), (10, .iload_n 2, 1), (11, .invokestatic 178, 3), (14, .ifCond .eq 20, 3), (17, .iload_n 3, 1), (18, .invokestatic 182, 3), (21, .ifCond .eq 13, 3), (24, .iload 4, 2), (26, .iconst 0, 1), (27, .iconst 1, 1), (28, .invokestatic 114, 3), (31, .ifCond .ne 5, 3), (34, .iconst (-1), 1), (35, .ireturn, 1), (36, .aload_n 0, 1), (37, .getfield 26, 3), (40, .getfield 205, 3), (43, .bipush 8, 2), (45, .if_icmp .lt 8, 3), (48, .bipush (-2), 2), (50, .goto 15, 3), (53, .aload_n 0, 1), (54, .getfield 26, 3), (57, .iload_n 1, 1), (58, .iload_n 2, 1), (59, .iload_n 3, 1), (60, .iload 4, 2), (62, .invokevirtual 208, 3), (65, .ireturn, 1)]
def hb_m133 : px_M := (hb_h133, hb_c133_0, hb_L11)
def hb_c134_0 : List (Nat × Instr × Nat) := [(0, .iload_n 1, 1), (1, .iconst 0, 1), (2, .aload_n 0, 1), (3, .getfield 26, 3), (6, .getfield 191, 3), (9, .iconst 1, 1), (10, .isub, 1), (11, .invokestatic 114, 3), (14, .ifCond .ne 5, 3), (17, .iconst (-1), 1), (18, .ireturn, 1), (19, .aload_n 0, 1), (20, .getfield 89, 3), (23, .aload_n 0, 1), (24, .getfield 26, 3), (27, .invokevirtual 211, 3), (30, .aload_n 0, 1), (31, .getfield 89, 3), (34, .getfield 215, 3), (37, .iload_n 1, 1), (38, .iaload, 1), (39, .ireturn, 1)]
def hb_m134 : px_M := (hb_h134, hb_c134_0, hb_L11)
def hb_c135_0 : List (Nat × Instr × Nat) := [(0, .aload_n 0, 1), (1, .getfield 89, 3), (4, .aload_n 0, 1), (5, .getfield 26, 3), (8, .invokevirtual 211, 3), (11, .aload_n 0, 1), (12, .getfield 89, 3), (15, .invokevirtual 218, 3), (18, .ireturn, 1)]
def hb_m135 : px_M := (hb_h135, hb_c135_0, hb_L11)
def hb_c136_0 : List (Nat × Instr × Nat) := [(0, .aload_n 0, 1), (1, .getfield 89, 3), (4, .aload_n 0, 1), (5, .getfield 26, 3), (8, .invokevirtual 211, 3), (11, .aload_n 0, 1), (12, .getfield 89, 3), (15, .invokevirtual 222, 3), (18, .ireturn, 1)]
def hb_m136 : px_M := (hb_h136, hb_c136_0, hb_L11)
def hb_c137_0 : List (Nat × Instr × Nat) := [(0, .iload_n 1, 1), (1, .iconst 0, 1), (2, .aload_n 0, 1), (3, .getfield 89, 3), (6, .getfield 225, 3), (9, .iconst 1, 1), (10, .isub, 1), (11, .invokestatic 114, 3), (14, .ifCond .eq 12, 3), (17, .iload_n 2, 1), (18, .iconst 0, 1), (19, .iconst 2, 1), (20, .invokestatic 114, 3), (23, .ifCond .ne 6, 3), (26, .bipush (-9), 2), (28, .ireturn, 1), (29, .aload_n 0, 1), (30, .getfield 89, 3), (33, .getfield 228, 3), (36, .iload_n 1, 1), (37, .iconst 3, 1), (38, .imul, 1), (39, .iload_n 2, 1), (40, .iadd, 1), (41, .iaload, 1), (42, .ireturn, 1)]
def hb_m137 : px_M := (hb_h137, hb_c137_0, hb_L11)
def hb_c138_0 : List (Nat × Instr × Nat) := [(0, .iload_n 1, 1), (1, .iconst 0, 1), (2, .aload_n 0, 1), (3, .getfield 89, 3), (6, .getfield 225, 3), (9, .iconst 1, 1), (10, .isub, 1), (11, .invokestatic 114, 3), (14, .ifCond .eq 12, 3), (17, .iload_n 2, 1), (18, .iconst 0, 1), (19, .iconst 2, 1), (20, .invokestatic 114, 3), (23, .ifCond .ne 6, 3), (26, .bipush (-9), 2), (28, .ireturn, 1), (29, .aload_n 0, 1), (30, .getfield 89, 3), (33, .getfield 228, 3), (36, .iload_n 1, 1), (37, .iconst 3, 1), (38, .imul, 1), (39, .iload_n 2, 1), (40, .iadd, 1), (41, .iaload, 1), (42, .istore 4, 2), (44, .aload_n 0, 1), (45, .getfield 89, 3), (48, .getfield 228, 3), (51, .iload_n 1, 1), (52, .iconst 3, 1), (53, .imul, 1), (54, .iload_n 2, 1), (55, .iadd, 1), (56, .iload_n 3, 1), (57, .iastore, 1), (58, .iload 4, 2), (60, .ireturn, 1)]
def hb_m138 : px_M := (hb_h138, hb_c138_0, hb_L11)
def hb_c139_0 : List (Nat × Instr × Nat) := [(0, .aload_n 0, 1), (1, .getfield 89, 3), (4, .aload_n 0, 1), (5, .getfield 26, 3), (8, .invokevirtual 211, 3), (11, .aload_n 0, 1), (12, .getfield 89, 3), (15, .invokevirtual 231, 3), (18, .ireturn, 1)]
def hb_m139 : px_M := (hb_h139, hb_c139_0, hb_L11)
def hb_c140_0 : List (Nat × Instr × Nat) := [(0, .iload_n 1, 1), (1, .iconst 1, 1), (2, .iconst 1, 1), (3, .aload_n 0, 1), (4, .getfield 26, 3), (7, .getfield 205, 3), (10, .ishl, 1), (11, .iconst 1, 1), (12, .isub, 1), (13, .invokestatic 114, 3), (16, .ifCond .eq 18, 3), (19, .iload_n 2, 1), (20, .iconst 1, 1), (21, .bipush 30, 2), (23, .invokestatic 114, 3), (26, .ifCond .eq 8, 3), (29, .iload_n 3, 1), (30, .iconst (-1), 1), (31, .if_icmp .ge 5, 3), (34, .iconst (-1), 1), (35, .ireturn, 1), (36, .iload_n 1, 1), (37, .invokestatic 234, 3), (40, .istore 4, 2), (42, .iload 4, 2), (44, .bipush 6, 2), (46, .if_icmp .le 6, 3), (49, .bipush (-2), 2), (51, .ireturn, 1), (52, .iload_n 3, 1), (53, .iload 4, 2), (55, .if_icmp .lt 6, 3), (58, .bipush (-3), 2), (60, .ireturn, 1), (61, .aload_n 0, 1), (62, .getfield 89, 3), (65, .aload_n 0, 1), (66, .getfield 26, 3), (69, .invokevirtual 211, 3), (72, .aload_n 0, 1)]
def hb_c140_1 : List (Nat × Instr × Nat) := [(73, .getfield 89, 3), (76, .iload_n 1, 1), (77, .aload_n 0, 1), (78, .getfield 10, 3), (81, .getfield 118, 3), (84, .iload_n 2, 1), (85, .invokevirtual 239, 3), (88, .iload_n 3, 1), (89, .iconst (-1), 1), (90, .if_icmp .ne 13, 3), (93, .aload_n 0, 1), (94, .getfield 89, 3), (97, .getfield 243, 3), (100, .goto 12, 3), (103, .aload_n 0, 1), (104, .getfield 89, 3), (107, .getfield 246, 3), (110, .iload_n 3, 1), (111, .iaload, 1), (112, .ireturn, 1)]
def hb_m140 : px_M := (hb_h140, hb_c140_0 ++ (hb_c140_1), hb_L11)
def hb_c141_0 : List (Nat × Instr × Nat) := [(0, .iload_n 1, 1), (1, .iconst 0, 1), (2, .sipush 9999, 3), (5, .invokestatic 114, 3), (8, .ifCond .eq 35, 3), (11, .iload_n 2, 1), (12, .iconst 1, 1), (13, .bipush 40, 2), (15, .invokestatic 114, 3), (18, .ifCond .eq 25, 3), (21, .iload_n 3, 1), (22, .iconst 0, 1), (23, .ldc 249, 2), (25, .invokestatic 114, 3), (28, .ifCond .eq 15, 3), (31, .iload 4, 2), (33, .iconst 0, 1), (34, .sipush 200, 3), (37, .invokestatic 114, 3), (40, .ifCond .ne 5, 3), (43, .iconst (-1), 1), (44, .ireturn, 1), (45, .iload_n 3, 1), (46, .sipush 1000, 3), (49, .irem, 1), (50, .iload_n 3, 1), (51, .sipush 1000, 3), (54, .idiv, 1), (55, .if_icmp .ge 5, 3), (58, .iconst (-1), 1), (59, .ireturn, 1), (60, .aload_n 0, 1), (61, .getfield 33, 3), (64, .getfield 250, 3), (67, .bipush 6, 2), (69, .if_icmp .lt 8, 3), (72, .bipush (-2), 2), (74, .goto 15, 3), (77, .aload_n 0, 1), (78, .getfield 33, 3)]
def hb_c141_1 : List (Nat × Instr × Nat) := [(81, .iload_n 1, 1), (82, .iload_n 2, 1), (83, .iload_n 3, 1), (84, .iload 4, 2), (86, .invokevirtual 253, 3), (89, .ireturn, 1)]
def hb_m141 : px_M := (hb_h141, hb_c141_0 ++ (hb_c141_1), hb_L11)
def hb_c142_0 : List (Nat × Instr × Nat) := [(0, .iload_n 1, 1), (1, .iconst 0, 1), (2, .bipush 60, 2), (4, .invokestatic 114, 3), (7, .ifCond .ne 5, 3), (10, .iconst (-1), 1), (11, .ireturn, 1), (12, .aload_n 0, 1), (13, .getfield 33, 3), (16, .getfield 256, 3), (19, .istore_n 2, 1), (20, .aload_n 0, 1), (21, .getfield 33, 3), (24, .iload_n 1, 1), (25, .putfield 256, 3), (28, .iload_n 2, 1), (29, .ireturn, 1)]
def hb_m142 : px_M := (hb_h142, hb_c142_0, hb_L11)
def hb_c143_0 : List (Nat × Instr × Nat) := [(0, .iload_n 1, 1), (1, .invokestatic 182, 3), (4, .ifCond .ne 5, 3), (7, .iconst (-1), 1), (8, .ireturn, 1), (9, .aload_n 0, 1), (10, .getfield 33, 3), (13, .getfield 259, 3), (16, .bipush 10, 2), (18, .if_icmp .lt 8, 3), (21, .bipush (-2), 2), (23, .goto 11, 3), (26, .aload_n 0, 1), (27, .getfield 33, 3), (30, .iload_n 1, 1), (31, .invokevirtual 262, 3), (34, .ireturn, 1)]
def hb_m143 : px_M := (hb_h143, hb_c143_0, hb_L11)
def hb_c144_0 : List (Nat × Instr × Nat) := [(0, .iload_n 1, 1), (1, .iconst 0, 1), (2, .aload_n 0, 1), (3, .getfield 33, 3), (6, .getfield 259, 3), (9, .iconst 1, 1), (10, .isub, 1), (11, .invokestatic 114, 3), (14, .ifCond .eq 14, 3), (17, .aload_n 0, 1), (18, .getfield 33, 3), (21, .iload_n 1, 1), (22, .invokevirtual 265, 3), (25, .goto 4, 3), (28, .iconst (-1), 1), (29, .ireturn, 1)]
def hb_m144 : px_M := (hb_h144, hb_c144_0, hb_L11)
def hb_c145_0 : List (Nat × Instr × Nat) := [(0, .iload_n 1, 1), (1, .iconst 0, 1), (2, .aload_n 0, 1), (3, .getfield 33, 3), (6, .getfield 250, 3), (9, .iconst 1, 1), (10, .isub, 1), (11, .invokestatic 114, 3), (14, .ifCond .eq 14, 3), (17, .aload_n 0, 1), (18, .getfield 33, 3), (21, .iload_n 1, 1), (22, .invokevirtual 268, 3), (25, .goto 4, 3), (28, .iconst (-1), 1), (29, .ireturn, 1)]
def hb_m145 : px_M := (hb_h145, hb_c145_0, hb_L11)
def hb_c146_0 : List (Nat × Instr × Nat) := [(0, .iload_n 1, 1), (1, .invokestatic 182, 3), (4, .ifCond .eq 25, 3), (7, .iload_n 2, 1), (8, .iconst 0, 1), (9, .sipush 200, 3), (12, .invokestatic 114, 3), (15, .ifCond .eq 14, 3), (18, .iload_n 3, 1), (19, .iload_n 2, 1), (20, .sipush 200, 3), (23, .invokestatic 114, 3), (26, .ifCond .ne 5, 3), (29, .iconst (-1), 1), (30, .ireturn, 1), (31, .aload_n 0, 1), (32, .getfield 33, 3), (35, .getfield 271, 3), (38, .bipush 8, 2), (40, .if_icmp .lt 8, 3), (43, .bipush (-2), 2), (45, .goto 13, 3), (48, .aload_n 0, 1), (49, .getfield 33, 3), (52, .iload_n 1, 1), (53, .iload_n 2, 1), (54, .iload_n 3, 1), (55, .invokevirtual 274, 3), (58, .ireturn, 1)]
def hb_m146 : px_M := (hb_h146, hb_c146_0, hb_L11)
def hb_c147_0 : List (Nat × Instr × Nat) := [(0, .iload_n 1, 1), (1, .iconst 0, 1), (2, .aload_n 0, 1), (3, .getfield 33, 3), (6, .getfield 271, 3), (9, .iconst 1, 1), (10, .isub, 1), (11, .invokestatic 114, 3), (14, .ifCond .eq 14, 3), (17, .aload_n 0, 1), (18, .getfield 33, 3), (21, .iload_n 1, 1), (22, .invokevirtual 277, 3), (25, .goto 4, 3), (28, .iconst (-1), 1), (29, .ireturn, 1)]
def hb_m147 : px_M := (hb_h147, hb_c147_0, hb_L11)
def hb_c148_0 : List (Nat × Instr × Nat) := [(0, .iload_n 1, 1), (1, .iconst 0, 1), (2, .aload_n 0, 1), (3, .getfield 33, 3), (6, .getfield 271, 3), (9, .iconst 1, 1), (10, .isub, 1), (11, .invokestatic 114, 3), (14, .ifCond .ne 5, 3), (17, .iconst (-1), 1), (18, .ireturn, 1), (19, .aload_n 0, 1), (20, .getfield 33, 3), (23, .iload_n 1, 1), (24, .invokevirtual 277, 3), (27, .istore_n 2, 1), (28, .iload_n 2, 1), (29, .invokestatic 234, 3), (32, .iconst 1, 1), (33, .if_icmp .ne 10, 3), (36, .iload_n 2, 1), (37, .invokestatic 280, 3), (40, .goto 5, 3), (43, .bipush (-3), 2), (45, .ireturn, 1)]
def hb_m148 : px_M := (hb_h148, hb_c148_0, hb_L11)
def hb_c149_0 : List (Nat × Instr × Nat) := [(0, .iload_n 1, 1), (1, .iconst 0, 1), (2, .iconst 2, 1), (3, .invokestatic 114, 3), (6, .ifCond .eq 14, 3), (9, .iload_n 2, 1), (10, .iconst 0, 1), (11, .ldc_w 283, 3), (14, .invokestatic 114, 3), (17, .ifCond .ne 5, 3), (20, .iconst (-1), 1), (21, .ireturn, 1), (22, .aload_n 0, 1), (23, .getfield 40, 3), (26, .getfield 284, 3), (29, .iload_n 1, 1), (30, .iaload, 1), (31, .istore_n 3, 1), (32, .aload_n 0, 1), (33, .getfield 40, 3), (36, .getfield 284, 3), (39, .iload_n 1, 1), (40, .iload_n 2, 1), (41, .iastore, 1), (42, .iload_n 3, 1), (43, .ireturn, 1)]
def hb_m149 : px_M := (hb_h149, hb_c149_0, hb_L11)
def hb_c150_0 : List (Nat × Instr × Nat) := [(0, .iload_n 1, 1), (1, .iconst 0, 1), (2, .iconst 1, 1), (3, .invokestatic 114, 3), (6, .ifCond .ne 5, 3), (9, .iconst (-1), 1), (10, .ireturn, 1), (11, .iload_n 1, 1), (12, .ifCond .ne 13, 3), (15, .aload_n 0, 1), (16, .getfield 40, 3), (19, .invokevirtual 287, 3), (22, .goto 10, 3), (25, .aload_n 0, 1), (26, .getfield 40, 3), (29, .invokevirtual 290, 3), (32, .ireturn, 1)]
def hb_m150 : px_M := (hb_h150, hb_c150_0, hb_L11)
def hb_c151_0 : List (Nat × Instr × Nat) := [(0, .iload_n 1, 1), (1, .iconst 0, 1), (2, .iconst 1, 1), (3, .aload_n 0, 1), (4, .getfield 40, 3), (7, .getfield 293, 3), (10, .ishl, 1), (11, .iconst 1, 1), (12, .isub, 1), (13, .invokestatic 114, 3), (16, .ifCond .ne 5, 3), (19, .iconst (-1), 1), (20, .ireturn, 1), (21, .aload_n 0, 1), (22, .getfield 40, 3), (25, .getfield 293, 3), (28, .bipush 12, 2), (30, .if_icmp .lt 8, 3), (33, .bipush (-2), 2), (35, .goto 18, 3), (38, .aload_n 0, 1), (39, .getfield 40, 3), (42, .iload_n 1, 1), (43, .aload_n 0, 1), (44, .getfield 10, 3), (47, .getfield 118, 3), (50, .invokevirtual 294, 3), (53, .ireturn, 1)]
def hb_m151 : px_M := (hb_h151, hb_c151_0, hb_L11)
def hb_c152_0 : List (Nat × Instr × Nat) := [(0, .iload_n 1, 1), (1, .iconst 0, 1), (2, .aload_n 0, 1), (3, .getfield 40, 3), (6, .getfield 293, 3), (9, .iconst 1, 1), (10, .isub, 1), (11, .invokestatic 114, 3), (14, .ifCond .ne 5, 3), (17, .iconst (-1), 1), (18, .ireturn, 1), (19, .aload_n 0, 1), (20, .getfield 40, 3), (23, .getfield 297, 3), (26, .iload_n 1, 1), (27, .iaload, 1), (28, .iconst (-1), 1), (29, .if_icmp .eq 6, 3), (32, .bipush (-4), 2), (34, .ireturn, 1), (35, .aload_n 0, 1), (36, .getfield 40, 3), (39, .getfield 297, 3), (42, .iload_n 1, 1), (43, .aload_n 0, 1), (44, .getfield 10, 3), (47, .getfield 118, 3), (50, .iastore, 1), (51, .aload_n 0, 1), (52, .getfield 40, 3), (55, .aload_n 0, 1), (56, .getfield 10, 3), (59, .getfield 118, 3), (62, .invokevirtual 300, 3), (65, .invokestatic 234, 3), (68, .ireturn, 1)]
def hb_m152 : px_M := (hb_h152, hb_c152_0, hb_L11)
def hb_c153_0 : List (Nat × Instr × Nat) := [(0, .iload_n 1, 1), (1, .invokestatic 182, 3), (4, .ifCond .eq 14, 3), (7, .aload_n 0, 1), (8, .getfield 40, 3), (11, .iload_n 1, 1), (12, .invokevirtual 300, 3), (15, .goto 4, 3), (18, .iconst (-1), 1), (19, .ireturn, 1)]
def hb_m153 : px_M := (hb_h153, hb_c153_0, hb_L11)
def hb_c154_0 : List (Nat × Instr × Nat) := [(0, .iload_n 3, 1), (1, .iconst 1, 1), (2, .bipush 8, 2), (4, .invokestatic 114, 3), (7, .ifCond .ne 5, 3), (10, .iconst (-1), 1), (11, .ireturn, 1), (12, .aload_n 0, 1), (13, .getfield 96, 3), (16, .getfield 303, 3), (19, .iload_n 3, 1), (20, .iadd, 1), (21, .sipush 200, 3), (24, .if_icmp .le 8, 3), (27, .bipush (-2), 2), (29, .goto 12, 3), (32, .aload_n 0, 1), (33, .getfield 96, 3), (36, .lload_n 1, 1), (37, .iload_n 3, 1), (38, .invokevirtual 306, 3), (41, .ireturn, 1)]
def hb_m154 : px_M := (hb_h154, hb_c154_0, hb_L11)
def hb_c155_0 : List (Nat × Instr × Nat) := [(0, .aload_n 0, 1), (1, .getfield 96, 3), (4, .aload_n 0, 1), (5, .getfield 47, 3), (8, .invokevirtual 310, 3), (11, .istore_n 1, 1), (12, .iload_n 1, 1), (13, .iconst (-1), 1), (14, .if_icmp .eq 8, 3), (17, .bipush (-100), 2), (19, .iload_n 1, 1), (20, .isub, 1), (21, .ireturn, 1), (22, .aload_n 0, 1), (23, .getfield 47, 3), (26, .getfield 314, 3), (29, .bipush 6, 2), (31, .if_icmp .lt 8, 3), (34, .bipush (-2), 2), (36, .goto 17, 3), (39, .aload_n 0, 1), (40, .getfield 47, 3), (43, .aload_n 0, 1), (44, .getfield 10, 3), (47, .getfield 118, 3), (50, .invokevirtual 315, 3), (53, .ireturn, 1)]
def hb_m155 : px_M := (hb_h155, hb_c155_0, hb_L11)
def hb_c156_0 : List (Nat × Instr × Nat) := [(0, .iload_n 1, 1), (1, .iconst 0, 1), (2, .aload_n 0, 1), (3, .getfield 47, 3), (6, .getfield 314, 3), (9, .iconst 1, 1), (10, .isub, 1), (11, .invokestatic 114, 3), (14, .ifCond .ne 5, 3), (17, .iconst (-1), 1), (18, .ireturn, 1), (19, .iload_n 2, 1), (20, .ifCond .ne 13, 3), (23, .aload_n 0, 1), (24, .getfield 47, 3), (27, .getfield 318, 3), (30, .iload_n 1, 1), (31, .iaload, 1), (32, .ireturn, 1), (33, .iload_n 2, 1), (34, .iconst 1, 1), (35, .if_icmp .ne 13, 3), (38, .aload_n 0, 1), (39, .getfield 47, 3), (42, .getfield 321, 3), (45, .iload_n 1, 1), (46, .iaload, 1), (47, .ireturn, 1), (48, .iload_n 2, 1), (49, .bipush 10, 2), (51, .bipush 9, 2), (53, .aload_n 0, 1), (54, .getfield 47, 3), (57, .getfield 318, 3), (60, .iload_n 1, 1), (61, .iaload, 1), (62, .iadd, 1), (63, .invokestatic 114, 3), (66, .ifCond .eq 23, 3), (69, .aload_n 0, 1)]
def hb_c156_1 : List (Nat × Instr × Nat) := [(70, .getfield 47, 3), (73, .getfield 324, 3), (76, .iload_n 1, 1), (77, .bipush 8, 2), (79, .imul, 1), (80, .iload_n 2, 1), (81, .iadd, 1), (82, .bipush 10, 2), (84, .isub, 1), (85, .iaload, 1), (86, .goto 4, 3), (89, .iconst (-1), 1), (90, .ireturn, 1)]
def hb_m156 : px_M := (hb_h156, hb_c156_0 ++ (hb_c156_1), hb_L11)
def hb_c157_0 : List (Nat × Instr × Nat) := [(0, .iload_n 1, 1), (1, .invokestatic 182, 3), (4, .ifCond .ne 5, 3), (7, .iconst (-1), 1), (8, .ireturn, 1), (9, .aload_n 0, 1), (10, .getfield 47, 3), (13, .iload_n 1, 1), (14, .aload_n 0, 1), (15, .getfield 10, 3), (18, .invokevirtual 327, 3), (21, .invokevirtual 330, 3), (24, .aload_n 0, 1), (25, .getfield 26, 3), (28, .invokevirtual 333, 3), (31, .isub, 1), (32, .istore_n 2, 1), (33, .iconst 0, 1), (34, .iload_n 2, 1), (35, .invokestatic 336, 3), (38, .ireturn, 1)]
def hb_m157 : px_M := (hb_h157, hb_c157_0, hb_L11)
def hb_c158_0 : List (Nat × Instr × Nat) := [(0, .iload_n 1, 1), (1, .iconst 0, 1), (2, .iconst 2, 1), (3, .invokestatic 114, 3), (6, .ifCond .eq 10, 3), (9, .iload_n 2, 1), (10, .invokestatic 182, 3), (13, .ifCond .ne 5, 3), (16, .iconst (-1), 1), (17, .ireturn, 1), (18, .aload_n 0, 1), (19, .getfield 47, 3), (22, .iload_n 1, 1), (23, .iload_n 2, 1), (24, .invokevirtual 341, 3), (27, .ireturn, 1)]
def hb_m158 : px_M := (hb_h158, hb_c158_0, hb_L11)
def hb_c159_0 : List (Nat × Instr × Nat) := [(0, .iload_n 1, 1), (1, .iconst 0, 1), (2, .aload_n 0, 1), (3, .getfield 33, 3), (6, .getfield 250, 3), (9, .iconst 1, 1), (10, .isub, 1), (11, .invokestatic 114, 3), (14, .ifCond .eq 10, 3), (17, .iload_n 2, 1), (18, .invokestatic 182, 3), (21, .ifCond .ne 5, 3), (24, .iconst (-1), 1), (25, .ireturn, 1), (26, .aload_n 0, 1), (27, .getfield 47, 3), (30, .aload_n 0, 1), (31, .getfield 33, 3), (34, .iload_n 1, 1), (35, .iload_n 2, 1), (36, .invokevirtual 344, 3), (39, .ifCond .eq 7, 3), (42, .iconst 1, 1), (43, .goto 4, 3), (46, .iconst 0, 1), (47, .ireturn, 1)]
def hb_m159 : px_M := (hb_h159, hb_c159_0, hb_L11)
def hb_c160_0 : List (Nat × Instr × Nat) := [(0, .iload_n 1, 1), (1, .iconst 1, 1), (2, .bipush 99, 2), (4, .invokestatic 114, 3), (7, .ifCond .eq 13, 3), (10, .iload_n 2, 1), (11, .iconst 0, 1), (12, .bipush 9, 2), (14, .invokestatic 114, 3), (17, .ifCond .ne 5, 3), (20, .iconst (-1), 1), (21, .ireturn, 1), (22, .aload_n 0, 1), (23, .getfield 54, 3), (26, .getfield 348, 3), (29, .bipush 7, 2), (31, .if_icmp .lt 8, 3), (34, .bipush (-2), 2), (36, .goto 12, 3), (39, .aload_n 0, 1), (40, .getfield 54, 3), (43, .iload_n 1, 1), (44, .iload_n 2, 1), (45, .invokevirtual 351, 3), (48, .ireturn, 1)]
def hb_m160 : px_M := (hb_h160, hb_c160_0, hb_L11)
def hb_c161_0 : List (Nat × Instr × Nat) := [(0, .iload_n 1, 1), (1, .iconst 0, 1), (2, .sipush 9999, 3), (5, .invokestatic 114, 3), (8, .ifCond .eq 21, 3), (11, .iload_n 2, 1), (12, .bipush (-2), 2), (14, .aload_n 0, 1), (15, .getfield 54, 3), (18, .getfield 348, 3), (21, .iconst 1, 1), (22, .isub, 1), (23, .invokestatic 114, 3), (26, .ifCond .ne 5, 3), (29, .iconst (-1), 1), (30, .ireturn, 1), (31, .aload_n 0, 1), (32, .getfield 54, 3), (35, .iload_n 1, 1), (36, .invokevirtual 352, 3), (39, .ifCond .ne 6, 3), (42, .bipush (-4), 2), (44, .ireturn, 1), (45, .iload_n 2, 1), (46, .iconst (-1), 1), (47, .if_icmp .ne 11, 3), (50, .aload_n 0, 1), (51, .getfield 54, 3), (54, .getfield 355, 3), (57, .ireturn, 1), (58, .iload_n 2, 1), (59, .bipush (-2), 2), (61, .if_icmp .ne 13, 3), (64, .aload_n 0, 1), (65, .getfield 54, 3), (68, .getfield 358, 3), (71, .goto 12, 3), (74, .aload_n 0, 1), (75, .getfield 54, 3), (78, .getfield 361, 3)]
def hb_c161_1 : List (Nat × Instr × Nat) := [(81, .iload_n 2, 1), (82, .iaload, 1), (83, .ireturn, 1)]
def hb_m161 : px_M := (hb_h161, hb_c161_0 ++ (hb_c161_1), hb_L11)
def hb_c162_0 : List (Nat × Instr × Nat) := [(0, .iload_n 1, 1), (1, .invokestatic 364, 3), (4, .ifCond .eq 18, 3), (7, .iload_n 2, 1), (8, .iconst (-1), 1), (9, .iconst 4, 1), (10, .invokestatic 114, 3), (13, .ifCond .eq 9, 3), (16, .iload_n 3, 1), (17, .bipush 40, 2), (19, .if_icmp .le 5, 3), (22, .iconst (-1), 1), (23, .ireturn, 1), (24, .iload_n 2, 1), (25, .ifCond .lt 10, 3), (28, .iload_n 3, 1), (29, .ifCond .ge 6, 3), (32, .bipush (-14), 2), (34, .ireturn, 1), (35, .aload_n 0, 1), (36, .getfield 103, 3), (39, .iload_n 1, 1), (40, .iload_n 2, 1), (41, .iload_n 3, 1), (42, .invokevirtual 367, 3), (45, .iconst 1, 1), (46, .ireturn, 1)]
def hb_m162 : px_M := (hb_h162, hb_c162_0, hb_L11)
def hb_c163_0 : List (Nat × Instr × Nat) := [(0, .iload_n 1, 1), (1, .invokestatic 364, 3), (4, .ifCond .ne 5, 3), (7, .iconst (-1), 1), (8, .ireturn, 1), (9, .aload_n 0, 1), (10, .getfield 103, 3), (13, .getfield 370, 3), (16, .iload_n 1, 1), (17, .iaload, 1), (18, .iconst (-1), 1), (19, .if_icmp .ne 6, 3), (22, .bipush (-11), 2), (24, .ireturn, 1), (25, .aload_n 0, 1), (26, .getfield 103, 3), (29, .iload_n 1, 1), (30, .iload_n 2, 1), (31, .invokevirtual 371, 3), (34, .ifCond .ne 6, 3), (37, .bipush (-12), 2), (39, .ireturn, 1), (40, .aload_n 0, 1), (41, .getfield 103, 3), (44, .iload_n 1, 1), (45, .iload_n 2, 1), (46, .iload_n 3, 1), (47, .invokevirtual 374, 3), (50, .iconst 1, 1), (51, .ireturn, 1)]
def hb_m163 : px_M := (hb_h163, hb_c163_0, hb_L11)
def hb_c164_0 : List (Nat × Instr × Nat) := [(0, .iload_n 1, 1), (1, .invokestatic 364, 3), (4, .ifCond .eq 12, 3), (7, .iload_n 2, 1), (8, .iconst 0, 1), (9, .iconst 4, 1), (10, .invokestatic 114, 3), (13, .ifCond .ne 5, 3), (16, .iconst (-1), 1), (17, .ireturn, 1), (18, .aload_n 0, 1), (19, .getfield 103, 3), (22, .iload_n 1, 1), (23, .iload_n 2, 1), (24, .invokevirtual 377, 3), (27, .istore 4, 2), (29, .iload 4, 2), (31, .ifCond .eq 6, 3), (34, .iload 4, 2), (36, .ireturn, 1), (37, .aload_n 0, 1), (38, .getfield 103, 3), (41, .iload_n 1, 1), (42, .iload_n 3, 1), (43, .invokevirtual 371, 3), (46, .ifCond .eq 15, 3), (49, .aload_n 0, 1), (50, .getfield 103, 3), (53, .iload_n 1, 1), (54, .iload_n 3, 1), (55, .invokevirtual 380, 3), (58, .goto 5, 3), (61, .bipush (-12), 2), (63, .ireturn, 1)]
def hb_m164 : px_M := (hb_h164, hb_c164_0, hb_L11)
def hb_c165_0 : List (Nat × Instr × Nat) := [(0, .iload_n 1, 1), (1, .iconst 0, 1), (2, .bipush 7, 2), (4, .invokestatic 114, 3), (7, .ifCond .eq 21, 3), (10, .iload_n 3, 1), (11, .invokestatic 364, 3), (14, .ifCond .eq 14, 3), (17, .iload 5, 2), (19, .iconst 0, 1), (20, .bipush 9, 2), (22, .invokestatic 114, 3), (25, .ifCond .ne 5, 3), (28, .iconst (-1), 1), (29, .ireturn, 1), (30, .iload_n 2, 1), (31, .iconst 0, 1), (32, .bipush 60, 2), (34, .invokestatic 114, 3), (37, .ifCond .ne 5, 3), (40, .iconst (-1), 1), (41, .ireturn, 1), (42, .aload_n 0, 1), (43, .getfield 103, 3), (46, .iload_n 3, 1), (47, .iconst 0, 1), (48, .invokevirtual 377, 3), (51, .istore 6, 2), (53, .iload 6, 2), (55, .ifCond .eq 6, 3), (58, .iload 6, 2), (60, .ireturn, 1), (61, .iconst 0, 1), (62, .istore 7, 2), (64, .iconst 0, 1), (65, .istore 8, 2), (67, .iload 8, 2), (69, .iload 5, 2), (71, .if_icmp .ge 83, 3), (74, .aload_n 0, 1)]
def hb_c165_1 : List (Nat × Instr × Nat) := [(75, .getfield 103, 3), (78, .iload_n 3, 1), (79, .iload 4, 2), (81, .iload 8, 2), (83, .iadd, 1), (84, .invokevirtual 371, 3), (87, .ifCond .ne 6, 3), (90, .bipush (-12), 2), (92, .ireturn, 1), (93, .aload_n 0, 1), (94, .getfield 103, 3), (97, .iload_n 3, 1), (98, .iload 4, 2), (100, .iload 8, 2), (102, .iadd, 1), (103, .invokevirtual 380, 3), (106, .istore 9, 2), (108, .aload_n 0, 1), (109, .iload_n 1, 1), (110, .iload_n 2, 1), (111, .iload 8, 2), (113, .iadd, 1), (114, .iload 9, 2), (116, .iload 9, 2), (118, .invokevirtual 383, 3), (121, .istore 10, 2), (123, .iload 10, 2), (125, .bipush (-2), 2), (127, .if_icmp .ne 6, 3), (130, .bipush (-2), 2), (132, .ireturn, 1), (133, .iload 7, 2), (135, .iload 10, 2), (137, .ifCond .lt 7, 3), (140, .iconst 1, 1), (141, .goto 4, 3), (144, .iconst 0, 1), (145, .iadd, 1), (146, .istore 7, 2), (148, .iinc 8 1, 3)]
def hb_c165_2 : List (Nat × Instr × Nat) := [(151, .goto (-84), 3), (154, .iload 7, 2), (156, .ireturn, 1)]
def hb_m165 : px_M := (hb_h165, hb_c165_0 ++ (hb_c165_1 ++ (hb_c165_2)), hb_L11)
def hb_c166_0 : List (Nat × Instr × Nat) := [(0, .iload_n 1, 1), (1, .invokestatic 364, 3), (4, .ifCond .eq 13, 3), (7, .iload_n 2, 1), (8, .iconst 0, 1), (9, .bipush 6, 2), (11, .invokestatic 114, 3), (14, .ifCond .ne 5, 3), (17, .iconst (-1), 1), (18, .ireturn, 1), (19, .iload_n 2, 1), (20, .bipush 6, 2), (22, .if_icmp .eq 20, 3), (25, .iload_n 3, 1), (26, .iconst 0, 1), (27, .aload_n 0, 1), (28, .iload_n 2, 1), (29, .invokevirtual 386, 3), (32, .iconst 1, 1), (33, .isub, 1), (34, .invokestatic 114, 3), (37, .ifCond .ne 5, 3), (40, .iconst (-1), 1), (41, .ireturn, 1), (42, .aload_n 0, 1), (43, .getfield 103, 3), (46, .iload_n 1, 1), (47, .iload_n 2, 1), (48, .iload_n 3, 1), (49, .invokevirtual 389, 3), (52, .iconst 1, 1), (53, .ireturn, 1)]
def hb_m166 : px_M := (hb_h166, hb_c166_0, hb_L11)
def hb_c167_0 : List (Nat × Instr × Nat) := [(0, .iload_n 1, 1), (1, .invokestatic 364, 3), (4, .ifCond .eq 24, 3), (7, .iload_n 2, 1), (8, .iconst 0, 1), (9, .bipush 6, 2), (11, .invokestatic 114, 3), (14, .ifCond .ne 16, 3), (17, .iload_n 2, 1), (18, .bipush 10, 2), (20, .bipush 14, 2), (22, .invokestatic 114, 3), (25, .ifCond .ne 5, 3), (28, .iconst (-1), 1), (29, .ireturn, 1), (30, .aload_n 0, 1), (31, .iload_n 1, 1), (32, .invokevirtual 392, 3), (35, .istore_n 3, 1), (36, .iload_n 3, 1), (37, .iconst (-1), 1), (38, .if_icmp .ne 6, 3), (41, .bipush (-11), 2), (43, .ireturn, 1), (44, .iload_n 3, 1), (45, .iload_n 2, 1), (46, .invokestatic 395, 3), (49, .ifCond .eq 15, 3), (52, .aload_n 0, 1), (53, .getfield 103, 3), (56, .getfield 398, 3), (59, .iload_n 1, 1), (60, .iaload, 1), (61, .goto 5, 3), (64, .bipush (-13), 2), (66, .ireturn, 1)]
def hb_m167 : px_M := (hb_h167, hb_c167_0, hb_L11)
def hb_c168_0 : List (Nat × Instr × Nat) := [(0, .aload_n 0, 1), (1, .getfield 110, 3), (4, .invokevirtual 401, 3), (7, .iload_n 1, 1), (8, .invokestatic 364, 3), (11, .ifCond .eq 12, 3), (14, .iload_n 2, 1), (15, .iconst 0, 1), (16, .iconst 3, 1), (17, .invokestatic 114, 3), (20, .ifCond .ne 5, 3), (23, .iconst 0, 1), (24, .ireturn, 1), (25, .aload_n 0, 1), (26, .iload_n 1, 1), (27, .invokevirtual 392, 3), (30, .istore 4, 2), (32, .iload 4, 2), (34, .iconst (-1), 1), (35, .if_icmp .eq 10, 3), (38, .iload 4, 2), (40, .bipush 10, 2), (42, .if_icmp .lt 5, 3), (45, .iconst 0, 1), (46, .ireturn, 1), (47, .aload_n 0, 1), (48, .getfield 103, 3), (51, .getfield 398, 3), (54, .iload_n 1, 1), (55, .iaload, 1), (56, .istore 5, 2), (58, .aload_n 0, 1), (59, .getfield 110, 3), (62, .iload 4, 2), (64, .iload 5, 2), (66, .aload_n 0, 1), (67, .aload_n 0, 1), (68, .getfield 103, 3), (71, .getfield 404, 3), (74, .iload_n 1, 1)]
def hb_c168_1 : List (Nat × Instr × Nat) := [(75, .iaload, 1), (76, .iload 5, 2), (78, .invokevirtual 407, 3), (81, .invokevirtual 410, 3), (84, .aload_n 0, 1), (85, .iload_n 2, 1), (86, .iload_n 3, 1), (87, .invokevirtual 413, 3), (90, .ireturn, 1)]
def hb_m168 : px_M := (hb_h168, hb_c168_0 ++ (hb_c168_1), hb_L11)
def hb_c169_0 : List (Nat × Instr × Nat) := [(0, .iload_n 1, 1), (1, .iconst 0, 1), (2, .aload_n 0, 1), (3, .getfield 110, 3), (6, .getfield 416, 3), (9, .iconst 1, 1), (10, .isub, 1), (11, .invokestatic 114, 3), (14, .ifCond .eq 15, 3), (17, .aload_n 0, 1), (18, .getfield 110, 3), (21, .getfield 419, 3), (24, .iload_n 1, 1), (25, .iaload, 1), (26, .goto 5, 3), (29, .bipush (-3), 2), (31, .ireturn, 1)]
def hb_m169 : px_M := (hb_h169, hb_c169_0, hb_L11)
def hb_c170_0 : List (Nat × Instr × Nat) := [(0, .iload_n 1, 1), (1, .tableswitch 207 0 15 #[79, 87, 95, 103, 111, 119, 127, 135, 143, 151, 159, 167, 175, 183, 191, 199], 79), (80, .aload_n 0, 1), (81, .getfield 10, 3), (84, .getfield 118, 3), (87, .ireturn, 1), (88, .aload_n 0, 1), (89, .getfield 19, 3), (92, .getfield 161, 3), (95, .ireturn, 1), (96, .aload_n 0, 1), (97, .getfield 26, 3), (100, .getfield 185, 3), (103, .ireturn, 1), (104, .aload_n 0, 1), (105, .getfield 26, 3), (108, .getfield 191, 3), (111, .ireturn, 1), (112, .aload_n 0, 1), (113, .getfield 26, 3), (116, .getfield 205, 3), (119, .ireturn, 1), (120, .aload_n 0, 1), (121, .getfield 33, 3), (124, .getfield 250, 3), (127, .ireturn, 1), (128, .aload_n 0, 1), (129, .getfield 33, 3), (132, .getfield 259, 3), (135, .ireturn, 1), (136, .aload_n 0, 1), (137, .getfield 33, 3), (140, .getfield 271, 3), (143, .ireturn, 1), (144, .aload_n 0, 1), (145, .getfield 40, 3), (148, .getfield 293, 3), (151, .ireturn, 1), (152, .aload_n 0, 1), (153, .getfield 47, 3)]
def hb_c170_1 : List (Nat × Instr × Nat) := [(156, .getfield 314, 3), (159, .ireturn, 1), (160, .aload_n 0, 1), (161, .getfield 54, 3), (164, .getfield 348, 3), (167, .ireturn, 1), (168, .aload_n 0, 1), (169, .getfield 89, 3), (172, .getfield 225, 3), (175, .ireturn, 1), (176, .aload_n 0, 1), (177, .getfield 96, 3), (180, .getfield 303, 3), (183, .ireturn, 1), (184, .aload_n 0, 1), (185, .getfield 110, 3), (188, .getfield 416, 3), (191, .ireturn, 1), (192, .aload_n 0, 1), (193, .getfield 10, 3), (196, .getfield 422, 3), (199, .ireturn, 1), (200, .aload_n 0, 1), (201, .getfield 26, 3), (204, .invokevirtual 425, 3), (207, .ireturn, 1), (208, .iconst (-1), 1), (209, .ireturn, 1)]
def hb_m170 : px_M := (hb_h170, hb_c170_0 ++ (hb_c170_1), hb_L11)
def hb_c171_0 : List (Nat × Instr × Nat) := [(0, .aload_n 0, 1), (1, .getfield 58, 3), (4, .aload_n 0, 1), (5, .getfield 10, 3), (8, .invokevirtual 157, 3), (11, .aload_n 0, 1), (12, .getfield 61, 3), (15, .aload_n 0, 1), (16, .getfield 19, 3), (19, .invokevirtual 428, 3), (22, .aload_n 0, 1), (23, .getfield 64, 3), (26, .aload_n 0, 1), (27, .getfield 26, 3), (30, .invokevirtual 431, 3), (33, .aload_n 0, 1), (34, .getfield 67, 3), (37, .aload_n 0, 1), (38, .getfield 33, 3), (41, .invokevirtual 433, 3), (44, .aload_n 0, 1), (45, .getfield 70, 3), (48, .aload_n 0, 1), (49, .getfield 40, 3), (52, .invokevirtual 436, 3), (55, .aload_n 0, 1), (56, .getfield 73, 3), (59, .aload_n 0, 1), (60, .getfield 47, 3), (63, .invokevirtual 439, 3), (66, .aload_n 0, 1), (67, .getfield 76, 3), (70, .aload_n 0, 1), (71, .getfield 54, 3), (74, .invokevirtual 442, 3), (77, .aload_n 0, 1), (78, .iconst 1, 1), (79, .putfield 79, 3), (82, .iconst 1, 1), (83, .ireturn, 1)]
def hb_m171 : px_M := (hb_h171, hb_c171_0, hb_L11)
def hb_c172_0 : List (Nat × Instr × Nat) := [(0, .aload_n 0, 1), (1, .getfield 79, 3), (4, .ifCond .ne 6, 3), (7, .bipush (-3), 2), (9, .ireturn, 1), (10, .aload_n 0, 1), (11, .getfield 10, 3), (14, .aload_n 0, 1), (15, .getfield 58, 3), (18, .invokevirtual 157, 3), (21, .aload_n 0, 1), (22, .getfield 19, 3), (25, .aload_n 0, 1), (26, .getfield 61, 3), (29, .invokevirtual 428, 3), (32, .aload_n 0, 1), (33, .getfield 26, 3), (36, .aload_n 0, 1), (37, .getfield 64, 3), (40, .invokevirtual 431, 3), (43, .aload_n 0, 1), (44, .getfield 33, 3), (47, .aload_n 0, 1), (48, .getfield 67, 3), (51, .invokevirtual 433, 3), (54, .aload_n 0, 1), (55, .getfield 40, 3), (58, .aload_n 0, 1), (59, .getfield 70, 3), (62, .invokevirtual 436, 3), (65, .aload_n 0, 1), (66, .getfield 47, 3), (69, .aload_n 0, 1), (70, .getfield 73, 3), (73, .invokevirtual 439, 3), (76, .aload_n 0, 1), (77, .getfield 54, 3), (80, .aload_n 0, 1), (81, .getfield 76, 3), (84, .invokevirtual 442, 3)]
def hb_c172_1 : List (Nat × Instr × Nat) := [(87, .iconst 1, 1), (88, .ireturn, 1)]
def hb_m172 : px_M := (hb_h172, hb_c172_0 ++ (hb_c172_1), hb_L11)
def hb_c173_0 : List (Nat × Instr × Nat) := [(0, .iload_n 0, 1), (1, .iload_n 1, 1), (2, .if_icmp .lt 12, 3), (5, .iload_n 0, 1), (6, .iload_n 2, 1), (7, .if_icmp .gt 7, 3), (10, .iconst 1, 1), (11, .goto 4, 3), (14, .iconst 0, 1), (15, .ireturn, 1)]
def hb_m173 : px_M := (hb_h173, hb_c173_0, hb_L11)
def hb_c174_0 : List (Nat × Instr × Nat) := [(0, .iload_n 0, 1), (1, .ifCond .lt 14, 3), (4, .iload_n 0, 1), (5, .sipush 999, 3), (8, .if_icmp .gt 7, 3), (11, .iconst 1, 1), (12, .goto 4, 3), (15, .iconst 0, 1), (16, .ireturn, 1)]
def hb_m174 : px_M := (hb_h174, hb_c174_0, hb_L11)
def hb_c175_0 : List (Nat × Instr × Nat) := [(0, .iconst 0, 1), (1, .istore_n 1, 1), (2, .iload_n 1, 1), (3, .bipush 31, 2), (5, .if_icmp .ge 17, 3), (8, .iload_n 0, 1), (9, .iload_n 1, 1), (10, .ishr, 1), (11, .iconst 1, 1), (12, .iand, 1), (13, .ifCond .ne 9, 3), (16, .iinc 1 1, 3), (19, .goto (-17), 3), (22, .iload_n 1, 1), (23, .ireturn, 1)]
def hb_m175 : px_M := (hb_h175, hb_c175_0, hb_L11)
def hb_c176_0 : List (Nat × Instr × Nat) := [(0, .aload_n 0, 1), (1, .iconst 0, 1), (2, .aload_n 1, 1), (3, .iconst 0, 1), (4, .aload_n 0, 1), (5, .arraylength, 1), (6, .aload_n 1, 1), (7, .arraylength, 1), (8, .invokestatic 445, 3), (11, .invokestatic 448, 3), (14, .return_, 1)]
def hb_m176 : px_M := (hb_h176, hb_c176_0, hb_L11)
def hb_c177_0 : List (Nat × Instr × Nat) := [(0, .iload_n 1, 1), (1, .tableswitch 76 0 5 #[39, 42, 50, 58, 66, 74], 39), (40, .bipush 8, 2), (42, .ireturn, 1), (43, .aload_n 0, 1), (44, .getfield 26, 3), (47, .getfield 205, 3), (50, .ireturn, 1), (51, .aload_n 0, 1), (52, .getfield 33, 3), (55, .getfield 259, 3), (58, .ireturn, 1), (59, .aload_n 0, 1), (60, .getfield 33, 3), (63, .getfield 271, 3), (66, .ireturn, 1), (67, .aload_n 0, 1), (68, .getfield 40, 3), (71, .getfield 293, 3), (74, .ireturn, 1), (75, .iconst 4, 1), (76, .ireturn, 1), (77, .iconst 0, 1), (78, .ireturn, 1)]
def hb_m177 : px_M := (hb_h177, hb_c177_0, hb_L11)
def hb_c178_0 : List (Nat × Instr × Nat) := [(0, .aload_n 0, 1), (1, .getfield 103, 3), (4, .getfield 404, 3), (7, .iload_n 1, 1), (8, .iaload, 1), (9, .istore_n 2, 1), (10, .iload_n 2, 1), (11, .iconst 5, 1), (12, .if_icmp .ne 16, 3), (15, .bipush 10, 2), (17, .aload_n 0, 1), (18, .getfield 103, 3), (21, .getfield 454, 3), (24, .iload_n 1, 1), (25, .iaload, 1), (26, .iadd, 1), (27, .ireturn, 1), (28, .aload_n 0, 1), (29, .getfield 103, 3), (32, .getfield 398, 3), (35, .iload_n 1, 1), (36, .iaload, 1), (37, .istore_n 3, 1), (38, .iload_n 3, 1), (39, .iconst 0, 1), (40, .aload_n 0, 1), (41, .iload_n 2, 1), (42, .invokevirtual 386, 3), (45, .iconst 1, 1), (46, .isub, 1), (47, .invokestatic 114, 3), (50, .ifCond .ne 5, 3), (53, .iconst (-1), 1), (54, .ireturn, 1), (55, .iload_n 2, 1), (56, .tableswitch 64 0 4 #[36, 38, 57, 59, 61], 36), (92, .iconst 1, 1), (93, .ireturn, 1), (94, .aload_n 0, 1), (95, .getfield 26, 3)]
def hb_c178_1 : List (Nat × Instr × Nat) := [(98, .getfield 457, 3), (101, .iload_n 3, 1), (102, .iaload, 1), (103, .iconst 1, 1), (104, .if_icmp .ne 7, 3), (107, .iconst 3, 1), (108, .goto 4, 3), (111, .iconst 2, 1), (112, .ireturn, 1), (113, .iconst 4, 1), (114, .ireturn, 1), (115, .iconst 5, 1), (116, .ireturn, 1), (117, .bipush 6, 2), (119, .ireturn, 1), (120, .iconst (-1), 1), (121, .ireturn, 1)]
def hb_m178 : px_M := (hb_h178, hb_c178_0 ++ (hb_c178_1), hb_L11)
def hb_c179_0 : List (Nat × Instr × Nat) := [(0, .iload_n 1, 1), (1, .tableswitch 84 0 3 #[31, 40, 49, 75], 31), (32, .aload_n 0, 1), (33, .getfield 110, 3), (36, .iload_n 2, 1), (37, .invokevirtual 460, 3), (40, .ireturn, 1), (41, .aload_n 0, 1), (42, .getfield 110, 3), (45, .iload_n 2, 1), (46, .invokevirtual 463, 3), (49, .ireturn, 1), (50, .aload_n 0, 1), (51, .getfield 110, 3), (54, .iload_n 2, 1), (55, .invokevirtual 466, 3), (58, .istore_n 3, 1), (59, .aload_n 0, 1), (60, .getfield 110, 3), (63, .getfield 469, 3), (66, .ifCond .eq 8, 3), (69, .bipush (-15), 2), (71, .goto 4, 3), (74, .iload_n 3, 1), (75, .ireturn, 1), (76, .aload_n 0, 1), (77, .getfield 110, 3), (80, .iload_n 2, 1), (81, .invokevirtual 472, 3), (84, .ireturn, 1), (85, .iconst 0, 1), (86, .ireturn, 1)]
def hb_m179 : px_M := (hb_h179, hb_c179_0, hb_L11)
def hb_c180_0 : List (Nat × Instr × Nat) := [(0, .iload_n 1, 1), (1, .tableswitch 85 0 4 #[35, 45, 55, 65, 75], 35), (36, .aload_n 0, 1), (37, .getfield 10, 3), (40, .getfield 475, 3), (43, .iload_n 2, 1), (44, .iaload, 1), (45, .ireturn, 1), (46, .aload_n 0, 1), (47, .getfield 26, 3), (50, .getfield 478, 3), (53, .iload_n 2, 1), (54, .iaload, 1), (55, .ireturn, 1), (56, .aload_n 0, 1), (57, .getfield 33, 3), (60, .getfield 481, 3), (63, .iload_n 2, 1), (64, .iaload, 1), (65, .ireturn, 1), (66, .aload_n 0, 1), (67, .getfield 33, 3), (70, .getfield 484, 3), (73, .iload_n 2, 1), (74, .iaload, 1), (75, .ireturn, 1), (76, .aload_n 0, 1), (77, .getfield 40, 3), (80, .getfield 487, 3), (83, .iload_n 2, 1), (84, .iaload, 1), (85, .ireturn, 1), (86, .iconst 0, 1), (87, .ireturn, 1)]
def hb_m180 : px_M := (hb_h180, hb_c180_0, hb_L11)
def hb_c181_0 : List (Nat × Instr × Nat) := [(0, .aload_n 0, 1), (1, .invokespecial 1, 3), (4, .aload_n 0, 1), (5, .sipush 1580, 3), (8, .newarray .int, 2), (10, .putfield 7, 3), (13, .aload_n 0, 1), (14, .sipush 1580, 3), (17, .newarray .int, 2), (19, .putfield 13, 3), (22, .aload_n 0, 1), (23, .sipush 200, 3), (26, .newarray .int, 2), (28, .putfield 16, 3), (31, .aload_n 0, 1), (32, .bipush 8, 2), (34, .newarray .int, 2), (36, .putfield 19, 3), (39, .aload_n 0, 1), (40, .bipush 8, 2), (42, .newarray .int, 2), (44, .putfield 22, 3), (47, .aload_n 0, 1), (48, .bipush 8, 2), (50, .newarray .int, 2), (52, .putfield 25, 3), (55, .aload_n 0, 1), (56, .bipush 8, 2), (58, .newarray .int, 2), (60, .putfield 28, 3), (63, .aload_n 0, 1), (64, .bipush 8, 2), (66, .newarray .int, 2), (68, .putfield 31, 3), (71, .aload_n 0, 1), (72, .bipush 8, 2), (74, .newarray .int, 2), (76, .putfield 34, 3), (79, .aload_n 0, 1), (80, .bipush 10, 2)]
def hb_c181_1 : List (Nat × Instr × Nat) := [(82, .newarray .int, 2), (84, .putfield 37, 3), (87, .aload_n 0, 1), (88, .bipush 10, 2), (90, .newarray .int, 2), (92, .putfield 40, 3), (95, .aload_n 0, 1), (96, .bipush 8, 2), (98, .newarray .int, 2), (100, .putfield 43, 3), (103, .aload_n 0, 1), (104, .sipush 240, 3), (107, .newarray .int, 2), (109, .putfield 46, 3), (112, .aload_n 0, 1), (113, .bipush 6, 2), (115, .newarray .int, 2), (117, .putfield 49, 3), (120, .aload_n 0, 1), (121, .bipush 6, 2), (123, .newarray .int, 2), (125, .putfield 52, 3), (128, .aload_n 0, 1), (129, .bipush 6, 2), (131, .newarray .int, 2), (133, .putfield 55, 3), (136, .aload_n 0, 1), (137, .bipush 82, 2), (139, .newarray .int, 2), (141, .dup, 1), (142, .iconst 0, 1), (143, .bipush 115, 2), (145, .iastore, 1), (146, .dup, 1), (147, .iconst 1, 1), (148, .bipush 101, 2), (150, .iastore, 1), (151, .dup, 1), (152, .iconst 2, 1), (153, .bipush 97, 2)]
def hb_c181_2 : List (Nat × Instr × Nat) := [(155, .iastore, 1), (156, .dup, 1), (157, .iconst 3, 1), (158, .bipush 116, 2), (160, .iastore, 1), (161, .dup, 1), (162, .iconst 4, 1), (163, .bipush 115, 2), (165, .iastore, 1), (166, .dup, 1), (167, .iconst 5, 1), (168, .iconst 0, 1), (169, .iastore, 1), (170, .dup, 1), (171, .bipush 6, 2), (173, .bipush 102, 2), (175, .iastore, 1), (176, .dup, 1), (177, .bipush 7, 2), (179, .bipush 105, 2), (181, .iastore, 1), (182, .dup, 1), (183, .bipush 8, 2), (185, .bipush 114, 2), (187, .iastore, 1), (188, .dup, 1), (189, .bipush 9, 2), (191, .bipush 115, 2), (193, .iastore, 1), (194, .dup, 1), (195, .bipush 10, 2), (197, .bipush 116, 2), (199, .iastore, 1), (200, .dup, 1), (201, .bipush 11, 2), (203, .iconst 0, 1), (204, .iastore, 1), (205, .dup, 1), (206, .bipush 12, 2), (208, .bipush 99, 2)]
def hb_c181_3 : List (Nat × Instr × Nat) := [(210, .iastore, 1), (211, .dup, 1), (212, .bipush 13, 2), (214, .bipush 111, 2), (216, .iastore, 1), (217, .dup, 1), (218, .bipush 14, 2), (220, .bipush 109, 2), (222, .iastore, 1), (223, .dup, 1), (224, .bipush 15, 2), (226, .bipush 101, 2), (228, .iastore, 1), (229, .dup, 1), (230, .bipush 16, 2), (232, .iconst 0, 1), (233, .iastore, 1), (234, .dup, 1), (235, .bipush 17, 2), (237, .bipush 102, 2), (239, .iastore, 1), (240, .dup, 1), (241, .bipush 18, 2), (243, .bipush 111, 2), (245, .iastore, 1), (246, .dup, 1), (247, .bipush 19, 2), (249, .bipush 114, 2), (251, .iastore, 1), (252, .dup, 1), (253, .bipush 20, 2), (255, .iconst 0, 1), (256, .iastore, 1), (257, .dup, 1), (258, .bipush 21, 2), (260, .bipush 116, 2), (262, .iastore, 1), (263, .dup, 1), (264, .bipush 22, 2), (266, .bipush 104, 2)]
def hb_c181_4 : List (Nat × Instr × Nat) := [(268, .iastore, 1), (269, .dup, 1), (270, .bipush 23, 2), (272, .bipush 101, 2), (274, .iastore, 1), (275, .dup, 1), (276, .bipush 24, 2), (278, .bipush 110, 2), (280, .iastore, 1), (281, .dup, 1), (282, .bipush 25, 2), (284, .iconst 0, 1), (285, .iastore, 1), (286, .dup, 1), (287, .bipush 26, 2), (289, .bipush 105, 2), (291, .iastore, 1), (292, .dup, 1), (293, .bipush 27, 2), (295, .bipush 102, 2), (297, .iastore, 1), (298, .dup, 1), (299, .bipush 28, 2), (301, .iconst 0, 1), (302, .iastore, 1), (303, .dup, 1), (304, .bipush 29, 2), (306, .bipush 111, 2), (308, .iastore, 1), (309, .dup, 1), (310, .bipush 30, 2), (312, .bipush 114, 2), (314, .iastore, 1), (315, .dup, 1), (316, .bipush 31, 2), (318, .iconst 0, 1), (319, .iastore, 1), (320, .dup, 1), (321, .bipush 32, 2), (323, .bipush 97, 2)]
def hb_c181_5 : List (Nat × Instr × Nat) := [(325, .iastore, 1), (326, .dup, 1), (327, .bipush 33, 2), (329, .bipush 110, 2), (331, .iastore, 1), (332, .dup, 1), (333, .bipush 34, 2), (335, .bipush 100, 2), (337, .iastore, 1), (338, .dup, 1), (339, .bipush 35, 2), (341, .iconst 0, 1), (342, .iastore, 1), (343, .dup, 1), (344, .bipush 36, 2), (346, .bipush 110, 2), (348, .iastore, 1), (349, .dup, 1), (350, .bipush 37, 2), (352, .bipush 111, 2), (354, .iastore, 1), (355, .dup, 1), (356, .bipush 38, 2), (358, .bipush 116, 2), (360, .iastore, 1), (361, .dup, 1), (362, .bipush 39, 2), (364, .iconst 0, 1), (365, .iastore, 1), (366, .dup, 1), (367, .bipush 40, 2), (369, .bipush 104, 2), (371, .iastore, 1), (372, .dup, 1), (373, .bipush 41, 2), (375, .bipush 101, 2), (377, .iastore, 1), (378, .dup, 1), (379, .bipush 42, 2), (381, .bipush 97, 2)]
def hb_c181_6 : List (Nat × Instr × Nat) := [(383, .iastore, 1), (384, .dup, 1), (385, .bipush 43, 2), (387, .bipush 114, 2), (389, .iastore, 1), (390, .dup, 1), (391, .bipush 44, 2), (393, .bipush 100, 2), (395, .iastore, 1), (396, .dup, 1), (397, .bipush 45, 2), (399, .iconst 0, 1), (400, .iastore, 1), (401, .dup, 1), (402, .bipush 46, 2), (404, .bipush 102, 2), (406, .iastore, 1), (407, .dup, 1), (408, .bipush 47, 2), (410, .bipush 97, 2), (412, .iastore, 1), (413, .dup, 1), (414, .bipush 48, 2), (416, .bipush 114, 2), (418, .iastore, 1), (419, .dup, 1), (420, .bipush 49, 2), (422, .iconst 0, 1), (423, .iastore, 1), (424, .dup, 1), (425, .bipush 50, 2), (427, .bipush 115, 2), (429, .iastore, 1), (430, .dup, 1), (431, .bipush 51, 2), (433, .bipush 112, 2), (435, .iastore, 1), (436, .dup, 1), (437, .bipush 52, 2), (439, .bipush 101, 2)]
def hb_c181_7 : List (Nat × Instr × Nat) := [(441, .iastore, 1), (442, .dup, 1), (443, .bipush 53, 2), (445, .bipush 101, 2), (447, .iastore, 1), (448, .dup, 1), (449, .bipush 54, 2), (451, .bipush 100, 2), (453, .iastore, 1), (454, .dup, 1), (455, .bipush 55, 2), (457, .iconst 0, 1), (458, .iastore, 1), (459, .dup, 1), (460, .bipush 56, 2), (462, .bipush 109, 2), (464, .iastore, 1), (465, .dup, 1), (466, .bipush 57, 2), (468, .bipush 105, 2), (470, .iastore, 1), (471, .dup, 1), (472, .bipush 58, 2), (474, .bipush 110, 2), (476, .iastore, 1), (477, .dup, 1), (478, .bipush 59, 2), (480, .bipush 117, 2), (482, .iastore, 1), (483, .dup, 1), (484, .bipush 60, 2), (486, .bipush 116, 2), (488, .iastore, 1), (489, .dup, 1), (490, .bipush 61, 2), (492, .bipush 101, 2), (494, .iastore, 1), (495, .dup, 1), (496, .bipush 62, 2), (498, .iconst 0, 1)]
def hb_c181_8 : List (Nat × Instr × Nat) := [(499, .iastore, 1), (500, .dup, 1), (501, .bipush 63, 2), (503, .bipush 99, 2), (505, .iastore, 1), (506, .dup, 1), (507, .bipush 64, 2), (509, .bipush 104, 2), (511, .iastore, 1), (512, .dup, 1), (513, .bipush 65, 2), (515, .bipush 105, 2), (517, .iastore, 1), (518, .dup, 1), (519, .bipush 66, 2), (521, .bipush 108, 2), (523, .iastore, 1), (524, .dup, 1), (525, .bipush 67, 2), (527, .bipush 100, 2), (529, .iastore, 1), (530, .dup, 1), (531, .bipush 68, 2), (533, .bipush 114, 2), (535, .iastore, 1), (536, .dup, 1), (537, .bipush 69, 2), (539, .bipush 101, 2), (541, .iastore, 1), (542, .dup, 1), (543, .bipush 70, 2), (545, .bipush 110, 2), (547, .iastore, 1), (548, .dup, 1), (549, .bipush 71, 2), (551, .iconst 0, 1), (552, .iastore, 1), (553, .dup, 1), (554, .bipush 72, 2), (556, .bipush 119, 2)]
def hb_c181_9 : List (Nat × Instr × Nat) := [(558, .iastore, 1), (559, .dup, 1), (560, .bipush 73, 2), (562, .bipush 111, 2), (564, .iastore, 1), (565, .dup, 1), (566, .bipush 74, 2), (568, .bipush 109, 2), (570, .iastore, 1), (571, .dup, 1), (572, .bipush 75, 2), (574, .bipush 101, 2), (576, .iastore, 1), (577, .dup, 1), (578, .bipush 76, 2), (580, .bipush 110, 2), (582, .iastore, 1), (583, .dup, 1), (584, .bipush 77, 2), (586, .iconst 0, 1), (587, .iastore, 1), (588, .dup, 1), (589, .bipush 78, 2), (591, .bipush 109, 2), (593, .iastore, 1), (594, .dup, 1), (595, .bipush 79, 2), (597, .bipush 101, 2), (599, .iastore, 1), (600, .dup, 1), (601, .bipush 80, 2), (603, .bipush 110, 2), (605, .iastore, 1), (606, .dup, 1), (607, .bipush 81, 2), (609, .iconst 0, 1), (610, .iastore, 1), (611, .putfield 58, 3), (614, .aload_n 0, 1), (615, .iconst 3, 1)]
def hb_c181_10 : List (Nat × Instr × Nat) := [(616, .newarray .int, 2), (618, .putfield 61, 3), (621, .aload_n 0, 1), (622, .bipush 8, 2), (624, .newarray .int, 2), (626, .putfield 64, 3), (629, .aload_n 0, 1), (630, .iconst 3, 1), (631, .newarray .int, 2), (633, .putfield 67, 3), (636, .aload_n 0, 1), (637, .iconst 4, 1), (638, .newarray .int, 2), (640, .dup, 1), (641, .iconst 0, 1), (642, .iconst (-1), 1), (643, .iastore, 1), (644, .dup, 1), (645, .iconst 1, 1), (646, .iconst (-1), 1), (647, .iastore, 1), (648, .dup, 1), (649, .iconst 2, 1), (650, .iconst (-1), 1), (651, .iastore, 1), (652, .dup, 1), (653, .iconst 3, 1), (654, .iconst (-1), 1), (655, .iastore, 1), (656, .putfield 70, 3), (659, .aload_n 0, 1), (660, .bipush 8, 2), (662, .newarray .int, 2), (664, .putfield 73, 3), (667, .aload_n 0, 1), (668, .bipush 8, 2), (670, .newarray .int, 2), (672, .putfield 76, 3), (675, .aload_n 0, 1), (676, .sipush 320, 3)]
def hb_c181_11 : List (Nat × Instr × Nat) := [(679, .newarray .int, 2), (681, .putfield 79, 3), (684, .aload_n 0, 1), (685, .iconst 4, 1), (686, .newarray .int, 2), (688, .putfield 82, 3), (691, .aload_n 0, 1), (692, .iconst 4, 1), (693, .newarray .int, 2), (695, .putfield 85, 3), (698, .aload_n 0, 1), (699, .bipush 30, 2), (701, .newarray .int, 2), (703, .putfield 88, 3), (706, .aload_n 0, 1), (707, .getfield 7, 3), (710, .iconst 1, 1), (711, .iconst (-1), 1), (712, .iastore, 1), (713, .aload_n 0, 1), (714, .getfield 7, 3), (717, .bipush 12, 2), (719, .bipush 10, 2), (721, .iastore, 1), (722, .iconst 0, 1), (723, .istore_n 1, 1), (724, .iload_n 1, 1), (725, .bipush 8, 2), (727, .if_icmp .ge 31, 3), (730, .aload_n 0, 1), (731, .getfield 7, 3), (734, .bipush 16, 2), (736, .iload_n 1, 1), (737, .iadd, 1), (738, .bipush 100, 2), (740, .iastore, 1), (741, .aload_n 0, 1), (742, .getfield 7, 3), (745, .bipush 48, 2), (747, .iload_n 1, 1)]
def hb_c181_12 : List (Nat × Instr × Nat) := [(748, .iadd, 1), (749, .bipush 100, 2), (751, .iastore, 1), (752, .iinc 1 1, 3), (755, .goto (-31), 3), (758, .return_, 1)]
def hb_m181 : px_M := (hb_h181, hb_c181_0 ++ (hb_c181_1 ++ (hb_c181_2 ++ (hb_c181_3 ++ (hb_c181_4 ++ (hb_c181_5 ++ (hb_c181_6 ++ (hb_c181_7 ++ (hb_c181_8 ++ (hb_c181_9 ++ (hb_c181_10 ++ (hb_c181_11 ++ (hb_c181_12)))))))))))), hb_L12)
def hb_c182_0 : List (Nat × Instr × Nat) := [(0, .iload_n 0, 1), (1, .iload_n 1, 1), (2, .if_icmp .lt 12, 3), (5, .iload_n 0, 1), (6, .iload_n 2, 1), (7, .if_icmp .gt 7, 3), (10, .iconst 1, 1), (11, .goto 4, 3), (14, .iconst 0, 1), (15, .ireturn, 1)]
def hb_m182 : px_M := (hb_h182, hb_c182_0, hb_L12)
def hb_c183_0 : List (Nat × Instr × Nat) := [(0, .iload_n 0, 1), (1, .iconst 0, 1), (2, .sipush 999, 3), (5, .invokestatic 91, 3), (8, .ireturn, 1)]
def hb_m183 : px_M := (hb_h183, hb_c183_0, hb_L12)
def hb_c184_0 : List (Nat × Instr × Nat) := [(0, .iload_n 0, 1), (1, .iconst 0, 1), (2, .bipush 7, 2), (4, .invokestatic 91, 3), (7, .ireturn, 1)]
def hb_m184 : px_M := (hb_h184, hb_c184_0, hb_L12)
def hb_c185_0 : List (Nat × Instr × Nat) := [(0, .iload_n 0, 1), (1, .iload_n 1, 1), (2, .if_icmp .ge 7, 3), (5, .iload_n 1, 1), (6, .goto 13, 3), (9, .iload_n 0, 1), (10, .iload_n 2, 1), (11, .if_icmp .le 7, 3), (14, .iload_n 2, 1), (15, .goto 4, 3), (18, .iload_n 0, 1), (19, .ireturn, 1)]
def hb_m185 : px_M := (hb_h185, hb_c185_0, hb_L12)
def hb_c186_0 : List (Nat × Instr × Nat) := [(0, .iconst 0, 1), (1, .istore_n 1, 1), (2, .iload_n 1, 1), (3, .bipush 8, 2), (5, .if_icmp .ge 54, 3), (8, .aload_n 0, 1), (9, .getfield 19, 3), (12, .iload_n 1, 1), (13, .aload_n 0, 1), (14, .getfield 7, 3), (17, .bipush 24, 2), (19, .iload_n 1, 1), (20, .iadd, 1), (21, .iaload, 1), (22, .iastore, 1), (23, .aload_n 0, 1), (24, .getfield 22, 3), (27, .iload_n 1, 1), (28, .aload_n 0, 1), (29, .getfield 7, 3), (32, .bipush 32, 2), (34, .iload_n 1, 1), (35, .iadd, 1), (36, .iaload, 1), (37, .iastore, 1), (38, .aload_n 0, 1), (39, .getfield 25, 3), (42, .iload_n 1, 1), (43, .aload_n 0, 1), (44, .getfield 7, 3), (47, .bipush 48, 2), (49, .iload_n 1, 1), (50, .iadd, 1), (51, .iaload, 1), (52, .iastore, 1), (53, .iinc 1 1, 3), (56, .goto (-54), 3), (59, .return_, 1)]
def hb_m186 : px_M := (hb_h186, hb_c186_0, hb_L12)
def hb_c187_0 : List (Nat × Instr × Nat) := [(0, .iconst 0, 1), (1, .istore_n 1, 1), (2, .iconst 0, 1), (3, .istore_n 2, 1), (4, .iconst 0, 1), (5, .istore_n 3, 1), (6, .iload_n 3, 1), (7, .bipush 8, 2), (9, .if_icmp .ge 34, 3), (12, .iload_n 1, 1), (13, .aload_n 0, 1), (14, .getfield 19, 3), (17, .iload_n 3, 1), (18, .iaload, 1), (19, .iadd, 1), (20, .istore_n 1, 1), (21, .iload_n 2, 1), (22, .aload_n 0, 1), (23, .getfield 19, 3), (26, .iload_n 3, 1), (27, .iaload, 1), (28, .bipush 7, 2), (30, .iconst 2, 1), (31, .iload_n 3, 1), (32, .imul, 1), (33, .isub, 1), (34, .imul, 1), (35, .iadd, 1), (36, .istore_n 2, 1), (37, .iinc 3 1, 3), (40, .goto (-34), 3), (43, .aload_n 0, 1), (44, .bipush 40, 2), (46, .iload_n 1, 1), (47, .bipush 20, 2), (49, .idiv, 1), (50, .iadd, 1), (51, .putfield 95, 3), (54, .aload_n 0, 1), (55, .iload_n 2, 1)]
def hb_c187_1 : List (Nat × Instr × Nat) := [(56, .bipush 100, 2), (58, .idiv, 1), (59, .putfield 99, 3), (62, .return_, 1)]
def hb_m187 : px_M := (hb_h187, hb_c187_0 ++ (hb_c187_1), hb_L12)
def hb_c188_0 : List (Nat × Instr × Nat) := [(0, .aload_n 0, 1), (1, .getfield 95, 3), (4, .aload_n 0, 1), (5, .getfield 99, 3), (8, .bipush 7, 2), (10, .iconst 2, 1), (11, .iload_n 1, 1), (12, .imul, 1), (13, .isub, 1), (14, .imul, 1), (15, .bipush 7, 2), (17, .idiv, 1), (18, .iadd, 1), (19, .iconst 0, 1), (20, .bipush 100, 2), (22, .invokestatic 102, 3), (25, .ireturn, 1)]
def hb_m188 : px_M := (hb_h188, hb_c188_0, hb_L12)
def hb_c189_0 : List (Nat × Instr × Nat) := [(0, .bipush 100, 2), (2, .aload_n 0, 1), (3, .getfield 19, 3), (6, .iload_n 1, 1), (7, .iaload, 1), (8, .imul, 1), (9, .aload_n 0, 1), (10, .getfield 7, 3), (13, .bipush 16, 2), (15, .iload_n 1, 1), (16, .iadd, 1), (17, .iaload, 1), (18, .idiv, 1), (19, .ireturn, 1)]
def hb_m189 : px_M := (hb_h189, hb_c189_0, hb_L12)
def hb_c190_0 : List (Nat × Instr × Nat) := [(0, .aload_n 0, 1), (1, .invokevirtual 106, 3), (4, .iconst 0, 1), (5, .istore_n 1, 1), (6, .iload_n 1, 1), (7, .bipush 8, 2), (9, .if_icmp .ge 64, 3), (12, .aload_n 0, 1), (13, .iload_n 1, 1), (14, .invokevirtual 109, 3), (17, .aload_n 0, 1), (18, .iload_n 1, 1), (19, .invokevirtual 113, 3), (22, .isub, 1), (23, .istore_n 2, 1), (24, .aload_n 0, 1), (25, .getfield 28, 3), (28, .iload_n 1, 1), (29, .iload_n 2, 1), (30, .ifCond .le 17, 3), (33, .aload_n 0, 1), (34, .getfield 22, 3), (37, .iload_n 1, 1), (38, .iaload, 1), (39, .iload_n 2, 1), (40, .imul, 1), (41, .bipush 10, 2), (43, .idiv, 1), (44, .goto 4, 3), (47, .iconst 0, 1), (48, .iastore, 1), (49, .aload_n 0, 1), (50, .getfield 28, 3), (53, .iload_n 1, 1), (54, .dup2, 1), (55, .iaload, 1), (56, .aload_n 0, 1), (57, .getfield 7, 3), (60, .bipush 40, 2), (62, .iload_n 1, 1)]
def hb_c190_1 : List (Nat × Instr × Nat) := [(63, .iadd, 1), (64, .iaload, 1), (65, .isub, 1), (66, .iastore, 1), (67, .iinc 1 1, 3), (70, .goto (-64), 3), (73, .iconst 0, 1), (74, .istore_n 1, 1), (75, .iload_n 1, 1), (76, .bipush 7, 2), (78, .if_icmp .ge 154, 3), (81, .aload_n 0, 1), (82, .iload_n 1, 1), (83, .invokevirtual 113, 3), (86, .istore_n 2, 1), (87, .aload_n 0, 1), (88, .iload_n 1, 1), (89, .iconst 1, 1), (90, .iadd, 1), (91, .invokevirtual 113, 3), (94, .istore_n 3, 1), (95, .aload_n 0, 1), (96, .getfield 7, 3), (99, .bipush 56, 2), (101, .iload_n 1, 1), (102, .iadd, 1), (103, .iaload, 1), (104, .iconst 1, 1), (105, .if_icmp .ne 7, 3), (108, .iconst 0, 1), (109, .goto 9, 3), (112, .aload_n 0, 1), (113, .getfield 25, 3), (116, .iload_n 1, 1), (117, .iaload, 1), (118, .istore 4, 2), (120, .iload_n 2, 1), (121, .iload_n 3, 1), (122, .if_icmp .ge 7, 3), (125, .iload_n 2, 1)]
def hb_c190_2 : List (Nat × Instr × Nat) := [(126, .goto 4, 3), (129, .iload_n 3, 1), (130, .istore 5, 2), (132, .iload_n 2, 1), (133, .iload_n 3, 1), (134, .if_icmp .ge 7, 3), (137, .iload_n 3, 1), (138, .goto 4, 3), (141, .iload_n 2, 1), (142, .istore 6, 2), (144, .iload 4, 2), (146, .iload 5, 2), (148, .if_icmp .le 8, 3), (151, .iload 4, 2), (153, .goto 5, 3), (156, .iload 5, 2), (158, .istore 7, 2), (160, .iload 6, 2), (162, .iload 7, 2), (164, .if_icmp .le 13, 3), (167, .iload 6, 2), (169, .iload 7, 2), (171, .isub, 1), (172, .iconst 4, 1), (173, .idiv, 1), (174, .goto 4, 3), (177, .iconst 0, 1), (178, .istore 8, 2), (180, .aload_n 0, 1), (181, .getfield 28, 3), (184, .iload_n 1, 1), (185, .dup2, 1), (186, .iaload, 1), (187, .iload_n 2, 1), (188, .iload_n 3, 1), (189, .if_icmp .ge 8, 3), (192, .iload 8, 2), (194, .goto 6, 3), (197, .iload 8, 2), (199, .ineg, 1)]
def hb_c190_3 : List (Nat × Instr × Nat) := [(200, .iadd, 1), (201, .iastore, 1), (202, .aload_n 0, 1), (203, .getfield 28, 3), (206, .iload_n 1, 1), (207, .iconst 1, 1), (208, .iadd, 1), (209, .dup2, 1), (210, .iaload, 1), (211, .iload_n 2, 1), (212, .iload_n 3, 1), (213, .if_icmp .ge 9, 3), (216, .iload 8, 2), (218, .ineg, 1), (219, .goto 5, 3), (222, .iload 8, 2), (224, .iadd, 1), (225, .iastore, 1), (226, .iinc 1 1, 3), (229, .goto (-154), 3), (232, .iconst 0, 1), (233, .istore_n 1, 1), (234, .iload_n 1, 1), (235, .bipush 8, 2), (237, .if_icmp .ge 41, 3), (240, .aload_n 0, 1), (241, .getfield 19, 3), (244, .iload_n 1, 1), (245, .aload_n 0, 1), (246, .getfield 19, 3), (249, .iload_n 1, 1), (250, .iaload, 1), (251, .aload_n 0, 1), (252, .getfield 28, 3), (255, .iload_n 1, 1), (256, .iaload, 1), (257, .iadd, 1), (258, .iconst 0, 1), (259, .aload_n 0, 1), (260, .getfield 7, 3)]
def hb_c190_4 : List (Nat × Instr × Nat) := [(263, .bipush 16, 2), (265, .iload_n 1, 1), (266, .iadd, 1), (267, .iaload, 1), (268, .invokestatic 102, 3), (271, .iastore, 1), (272, .iinc 1 1, 3), (275, .goto (-41), 3), (278, .aload_n 0, 1), (279, .invokevirtual 106, 3), (282, .aload_n 0, 1), (283, .iconst 0, 1), (284, .invokevirtual 109, 3), (287, .bipush 100, 2), (289, .if_icmp .eq 14, 3), (292, .aload_n 0, 1), (293, .bipush 7, 2), (295, .invokevirtual 109, 3), (298, .bipush 100, 2), (300, .if_icmp .ne 7, 3), (303, .iconst 1, 1), (304, .goto 4, 3), (307, .iconst 0, 1), (308, .ireturn, 1)]
def hb_m190 : px_M := (hb_h190, hb_c190_0 ++ (hb_c190_1 ++ (hb_c190_2 ++ (hb_c190_3 ++ (hb_c190_4)))), hb_L12)
def hb_c191_0 : List (Nat × Instr × Nat) := [(0, .iload_n 1, 1), (1, .iconst 1, 1), (2, .sipush 200, 3), (5, .invokestatic 91, 3), (8, .ifCond .ne 5, 3), (11, .iconst (-1), 1), (12, .ireturn, 1), (13, .aload_n 0, 1), (14, .getfield 7, 3), (17, .iconst 0, 1), (18, .iaload, 1), (19, .iload_n 1, 1), (20, .iadd, 1), (21, .sipush 999, 3), (24, .if_icmp .le 6, 3), (27, .bipush (-4), 2), (29, .ireturn, 1), (30, .iconst 0, 1), (31, .istore_n 2, 1), (32, .iload_n 2, 1), (33, .iload_n 1, 1), (34, .if_icmp .ge 84, 3), (37, .aload_n 0, 1), (38, .getfield 7, 3), (41, .iconst 0, 1), (42, .dup2, 1), (43, .iaload, 1), (44, .iconst 1, 1), (45, .iadd, 1), (46, .iastore, 1), (47, .aload_n 0, 1), (48, .getfield 7, 3), (51, .iconst 1, 1), (52, .iaload, 1), (53, .ifCond .ge 59, 3), (56, .aload_n 0, 1), (57, .invokevirtual 116, 3), (60, .aload_n 0, 1), (61, .getfield 7, 3), (64, .iconst 1, 1)]
def hb_c191_1 : List (Nat × Instr × Nat) := [(65, .aload_n 0, 1), (66, .invokevirtual 119, 3), (69, .ifCond .eq 12, 3), (72, .aload_n 0, 1), (73, .getfield 7, 3), (76, .iconst 0, 1), (77, .iaload, 1), (78, .goto 4, 3), (81, .iconst (-1), 1), (82, .iastore, 1), (83, .iconst 0, 1), (84, .istore_n 3, 1), (85, .iload_n 3, 1), (86, .bipush 8, 2), (88, .if_icmp .ge 24, 3), (91, .aload_n 0, 1), (92, .getfield 7, 3), (95, .bipush 24, 2), (97, .iload_n 3, 1), (98, .iadd, 1), (99, .aload_n 0, 1), (100, .getfield 19, 3), (103, .iload_n 3, 1), (104, .iaload, 1), (105, .iastore, 1), (106, .iinc 3 1, 3), (109, .goto (-24), 3), (112, .iinc 2 1, 3), (115, .goto (-83), 3), (118, .aload_n 0, 1), (119, .getfield 7, 3), (122, .iconst 0, 1), (123, .iaload, 1), (124, .ireturn, 1)]
def hb_m191 : px_M := (hb_h191, hb_c191_0 ++ (hb_c191_1), hb_L12)
def hb_c192_0 : List (Nat × Instr × Nat) := [(0, .iload_n 1, 1), (1, .invokestatic 123, 3), (4, .ifCond .eq 41, 3), (7, .iload_n 2, 1), (8, .iconst 0, 1), (9, .iconst 2, 1), (10, .invokestatic 91, 3), (13, .ifCond .eq 32, 3), (16, .iload_n 3, 1), (17, .iload_n 2, 1), (18, .ifCond .ne 8, 3), (21, .bipush 10, 2), (23, .goto 4, 3), (26, .iconst 0, 1), (27, .iload_n 2, 1), (28, .ifCond .ne 9, 3), (31, .sipush 999, 3), (34, .goto 5, 3), (37, .bipush 9, 2), (39, .invokestatic 91, 3), (42, .ifCond .ne 5, 3), (45, .iconst (-1), 1), (46, .ireturn, 1), (47, .iload_n 2, 1), (48, .ifCond .ne 8, 3), (51, .bipush 16, 2), (53, .goto 15, 3), (56, .iload_n 2, 1), (57, .iconst 1, 1), (58, .if_icmp .ne 8, 3), (61, .bipush 32, 2), (63, .goto 5, 3), (66, .bipush 40, 2), (68, .istore 4, 2), (70, .aload_n 0, 1), (71, .getfield 7, 3), (74, .iload 4, 2), (76, .iload_n 1, 1), (77, .iadd, 1), (78, .iaload, 1)]
def hb_c192_1 : List (Nat × Instr × Nat) := [(79, .istore 5, 2), (81, .aload_n 0, 1), (82, .getfield 7, 3), (85, .iload 4, 2), (87, .iload_n 1, 1), (88, .iadd, 1), (89, .iload_n 3, 1), (90, .iastore, 1), (91, .aload_n 0, 1), (92, .getfield 7, 3), (95, .bipush 24, 2), (97, .iload_n 1, 1), (98, .iadd, 1), (99, .aload_n 0, 1), (100, .getfield 7, 3), (103, .bipush 24, 2), (105, .iload_n 1, 1), (106, .iadd, 1), (107, .iaload, 1), (108, .iconst 0, 1), (109, .aload_n 0, 1), (110, .getfield 7, 3), (113, .bipush 16, 2), (115, .iload_n 1, 1), (116, .iadd, 1), (117, .iaload, 1), (118, .invokestatic 102, 3), (121, .iastore, 1), (122, .iload 5, 2), (124, .ireturn, 1)]
def hb_m192 : px_M := (hb_h192, hb_c192_0 ++ (hb_c192_1), hb_L12)
def hb_c193_0 : List (Nat × Instr × Nat) := [(0, .iload_n 0, 1), (1, .iconst 0, 1), (2, .bipush 6, 2), (4, .invokestatic 91, 3), (7, .ireturn, 1)]
def hb_m193 : px_M := (hb_h193, hb_c193_0, hb_L12)
def hb_c194_0 : List (Nat × Instr × Nat) := [(0, .iload_n 1, 1), (1, .invokestatic 127, 3), (4, .ifCond .eq 13, 3), (7, .iload_n 2, 1), (8, .iconst 0, 1), (9, .bipush 100, 2), (11, .invokestatic 91, 3), (14, .ifCond .ne 5, 3), (17, .iconst (-1), 1), (18, .ireturn, 1), (19, .aload_n 0, 1), (20, .getfield 7, 3), (23, .bipush 48, 2), (25, .iload_n 1, 1), (26, .iadd, 1), (27, .iaload, 1), (28, .istore_n 3, 1), (29, .aload_n 0, 1), (30, .getfield 7, 3), (33, .bipush 48, 2), (35, .iload_n 1, 1), (36, .iadd, 1), (37, .iload_n 2, 1), (38, .iastore, 1), (39, .iload_n 3, 1), (40, .ireturn, 1)]
def hb_m194 : px_M := (hb_h194, hb_c194_0, hb_L12)
def hb_c195_0 : List (Nat × Instr × Nat) := [(0, .iload_n 1, 1), (1, .invokestatic 127, 3), (4, .ifCond .ne 5, 3), (7, .iconst (-1), 1), (8, .ireturn, 1), (9, .aload_n 0, 1), (10, .getfield 7, 3), (13, .bipush 56, 2), (15, .iload_n 1, 1), (16, .iadd, 1), (17, .iaload, 1), (18, .istore_n 3, 1), (19, .aload_n 0, 1), (20, .getfield 7, 3), (23, .bipush 56, 2), (25, .iload_n 1, 1), (26, .iadd, 1), (27, .iload_n 2, 1), (28, .ifCond .eq 7, 3), (31, .iconst 1, 1), (32, .goto 4, 3), (35, .iconst 0, 1), (36, .iastore, 1), (37, .iload_n 3, 1), (38, .ireturn, 1)]
def hb_m195 : px_M := (hb_h195, hb_c195_0, hb_L12)
def hb_c196_0 : List (Nat × Instr × Nat) := [(0, .iload_n 1, 1), (1, .invokestatic 123, 3), (4, .ifCond .eq 12, 3), (7, .iload_n 2, 1), (8, .iconst 0, 1), (9, .iconst 2, 1), (10, .invokestatic 91, 3), (13, .ifCond .ne 5, 3), (16, .iconst (-1), 1), (17, .ireturn, 1), (18, .aload_n 0, 1), (19, .invokevirtual 116, 3), (22, .aload_n 0, 1), (23, .invokevirtual 106, 3), (26, .iload_n 2, 1), (27, .ifCond .ne 12, 3), (30, .aload_n 0, 1), (31, .getfield 19, 3), (34, .iload_n 1, 1), (35, .iaload, 1), (36, .goto 21, 3), (39, .iload_n 2, 1), (40, .iconst 1, 1), (41, .if_icmp .ne 11, 3), (44, .aload_n 0, 1), (45, .iload_n 1, 1), (46, .invokevirtual 113, 3), (49, .goto 8, 3), (52, .aload_n 0, 1), (53, .iload_n 1, 1), (54, .invokevirtual 109, 3), (57, .ireturn, 1)]
def hb_m196 : px_M := (hb_h196, hb_c196_0, hb_L12)
def hb_c197_0 : List (Nat × Instr × Nat) := [(0, .aload_n 0, 1), (1, .getfield 7, 3), (4, .iconst 1, 1), (5, .iaload, 1), (6, .ifCond .ge 8, 3), (9, .bipush (-3), 2), (11, .goto 9, 3), (14, .aload_n 0, 1), (15, .getfield 7, 3), (18, .iconst 1, 1), (19, .iaload, 1), (20, .ireturn, 1)]
def hb_m197 : px_M := (hb_h197, hb_c197_0, hb_L12)
def hb_c198_0 : List (Nat × Instr × Nat) := [(0, .iload_n 1, 1), (1, .iconst (-1), 1), (2, .if_icmp .eq 10, 3), (5, .iload_n 1, 1), (6, .invokestatic 127, 3), (9, .ifCond .eq 13, 3), (12, .iload_n 2, 1), (13, .iconst 0, 1), (14, .bipush 100, 2), (16, .invokestatic 91, 3), (19, .ifCond .ne 5, 3), (22, .iconst (-1), 1), (23, .ireturn, 1), (24, .aload_n 0, 1), (25, .getfield 7, 3), (28, .iconst 1, 1), (29, .iaload, 1), (30, .ifCond .lt 6, 3), (33, .bipush (-4), 2), (35, .ireturn, 1), (36, .aload_n 0, 1), (37, .invokevirtual 116, 3), (40, .iload_n 1, 1), (41, .ifCond .lt 10, 3), (44, .aload_n 0, 1), (45, .getfield 25, 3), (48, .iload_n 1, 1), (49, .iload_n 2, 1), (50, .iastore, 1), (51, .aload_n 0, 1), (52, .getfield 7, 3), (55, .iconst 0, 1), (56, .iaload, 1), (57, .iconst 1, 1), (58, .iadd, 1), (59, .istore_n 3, 1), (60, .iload_n 3, 1), (61, .sipush 999, 3), (64, .if_icmp .gt 18, 3), (67, .aload_n 0, 1)]
def hb_c198_1 : List (Nat × Instr × Nat) := [(68, .invokevirtual 119, 3), (71, .ifCond .eq 5, 3), (74, .iload_n 3, 1), (75, .ireturn, 1), (76, .iinc 3 1, 3), (79, .goto (-19), 3), (82, .bipush (-3), 2), (84, .ireturn, 1)]
def hb_m198 : px_M := (hb_h198, hb_c198_0 ++ (hb_c198_1), hb_L12)
def hb_c199_0 : List (Nat × Instr × Nat) := [(0, .iload_n 1, 1), (1, .invokestatic 123, 3), (4, .ifCond .eq 36, 3), (7, .iload_n 2, 1), (8, .iconst 0, 1), (9, .bipush 60, 2), (11, .invokestatic 91, 3), (14, .ifCond .eq 26, 3), (17, .iload_n 3, 1), (18, .iconst 0, 1), (19, .sipush 999, 3), (22, .invokestatic 91, 3), (25, .ifCond .eq 15, 3), (28, .iload 4, 2), (30, .iload_n 3, 1), (31, .sipush 999, 3), (34, .invokestatic 91, 3), (37, .ifCond .ne 5, 3), (40, .iconst (-1), 1), (41, .ireturn, 1), (42, .aload_n 0, 1), (43, .getfield 7, 3), (46, .iconst 2, 1), (47, .iaload, 1), (48, .bipush 16, 2), (50, .if_icmp .ne 6, 3), (53, .bipush (-2), 2), (55, .ireturn, 1), (56, .bipush 64, 2), (58, .iconst 4, 1), (59, .aload_n 0, 1), (60, .getfield 7, 3), (63, .iconst 2, 1), (64, .iaload, 1), (65, .imul, 1), (66, .iadd, 1), (67, .istore 5, 2), (69, .aload_n 0, 1), (70, .getfield 7, 3), (73, .iload 5, 2)]
def hb_c199_1 : List (Nat × Instr × Nat) := [(75, .iload_n 1, 1), (76, .iastore, 1), (77, .aload_n 0, 1), (78, .getfield 7, 3), (81, .iload 5, 2), (83, .iconst 1, 1), (84, .iadd, 1), (85, .iload_n 2, 1), (86, .iastore, 1), (87, .aload_n 0, 1), (88, .getfield 7, 3), (91, .iload 5, 2), (93, .iconst 2, 1), (94, .iadd, 1), (95, .iload_n 3, 1), (96, .iastore, 1), (97, .aload_n 0, 1), (98, .getfield 7, 3), (101, .iload 5, 2), (103, .iconst 3, 1), (104, .iadd, 1), (105, .iload 4, 2), (107, .iastore, 1), (108, .aload_n 0, 1), (109, .getfield 7, 3), (112, .iconst 2, 1), (113, .dup2, 1), (114, .iaload, 1), (115, .iconst 1, 1), (116, .iadd, 1), (117, .iastore, 1), (118, .aload_n 0, 1), (119, .getfield 7, 3), (122, .iconst 2, 1), (123, .iaload, 1), (124, .iconst 1, 1), (125, .isub, 1), (126, .ireturn, 1)]
def hb_m199 : px_M := (hb_h199, hb_c199_0 ++ (hb_c199_1), hb_L12)
def hb_c200_0 : List (Nat × Instr × Nat) := [(0, .iconst 0, 1), (1, .istore_n 1, 1), (2, .iconst 0, 1), (3, .istore_n 2, 1), (4, .iload_n 2, 1), (5, .bipush 30, 2), (7, .if_icmp .ge 17, 3), (10, .iload_n 1, 1), (11, .iload_n 0, 1), (12, .iload_n 2, 1), (13, .ishr, 1), (14, .iconst 1, 1), (15, .iand, 1), (16, .iadd, 1), (17, .istore_n 1, 1), (18, .iinc 2 1, 3), (21, .goto (-17), 3), (24, .iload_n 1, 1), (25, .ireturn, 1)]
def hb_m200 : px_M := (hb_h200, hb_c200_0, hb_L12)
def hb_c201_0 : List (Nat × Instr × Nat) := [(0, .iconst 1, 1), (1, .istore_n 2, 1), (2, .iconst 0, 1), (3, .istore_n 3, 1), (4, .iload_n 3, 1), (5, .aload_n 0, 1), (6, .getfield 7, 3), (9, .iconst 2, 1), (10, .iaload, 1), (11, .if_icmp .ge 74, 3), (14, .bipush 64, 2), (16, .iconst 4, 1), (17, .iload_n 3, 1), (18, .imul, 1), (19, .iadd, 1), (20, .istore 4, 2), (22, .iload_n 2, 1), (23, .aload_n 0, 1), (24, .getfield 7, 3), (27, .iload 4, 2), (29, .iconst 1, 1), (30, .iadd, 1), (31, .iaload, 1), (32, .iload_n 1, 1), (33, .if_icmp .ne 39, 3), (36, .aload_n 0, 1), (37, .getfield 19, 3), (40, .aload_n 0, 1), (41, .getfield 7, 3), (44, .iload 4, 2), (46, .iaload, 1), (47, .iaload, 1), (48, .aload_n 0, 1), (49, .getfield 7, 3), (52, .iload 4, 2), (54, .iconst 2, 1), (55, .iadd, 1), (56, .iaload, 1), (57, .aload_n 0, 1), (58, .getfield 7, 3)]
def hb_c201_1 : List (Nat × Instr × Nat) := [(61, .iload 4, 2), (63, .iconst 3, 1), (64, .iadd, 1), (65, .iaload, 1), (66, .invokestatic 91, 3), (69, .ifCond .eq 7, 3), (72, .iconst 1, 1), (73, .goto 4, 3), (76, .iconst 0, 1), (77, .iand, 1), (78, .istore_n 2, 1), (79, .iinc 3 1, 3), (82, .goto (-78), 3), (85, .iload_n 2, 1), (86, .ireturn, 1)]
def hb_m201 : px_M := (hb_h201, hb_c201_0 ++ (hb_c201_1), hb_L12)
def hb_c202_0 : List (Nat × Instr × Nat) := [(0, .iconst 0, 1), (1, .istore_n 3, 1), (2, .iload_n 3, 1), (3, .bipush 8, 2), (5, .if_icmp .ge 51, 3), (8, .aload_n 0, 1), (9, .getfield 19, 3), (12, .iload_n 3, 1), (13, .iconst 0, 1), (14, .iastore, 1), (15, .aload_n 0, 1), (16, .getfield 22, 3), (19, .iload_n 3, 1), (20, .iload_n 1, 1), (21, .iload_n 3, 1), (22, .ishr, 1), (23, .iconst 1, 1), (24, .iand, 1), (25, .iconst 1, 1), (26, .if_icmp .ne 7, 3), (29, .iload_n 2, 1), (30, .goto 4, 3), (33, .iconst 0, 1), (34, .iastore, 1), (35, .aload_n 0, 1), (36, .getfield 25, 3), (39, .iload_n 3, 1), (40, .aload_n 0, 1), (41, .getfield 7, 3), (44, .bipush 48, 2), (46, .iload_n 3, 1), (47, .iadd, 1), (48, .iaload, 1), (49, .iastore, 1), (50, .iinc 3 1, 3), (53, .goto (-51), 3), (56, .aload_n 0, 1), (57, .iconst 0, 1), (58, .invokevirtual 130, 3), (61, .istore_n 3, 1)]
def hb_c202_1 : List (Nat × Instr × Nat) := [(62, .iconst 0, 1), (63, .istore 4, 2), (65, .iconst 1, 1), (66, .istore 5, 2), (68, .iload 5, 2), (70, .bipush 60, 2), (72, .if_icmp .gt 39, 3), (75, .iload_n 3, 1), (76, .ifCond .eq 35, 3), (79, .iload 4, 2), (81, .ifCond .ne 10, 3), (84, .aload_n 0, 1), (85, .invokevirtual 119, 3), (88, .ifCond .eq 7, 3), (91, .iconst 1, 1), (92, .goto 4, 3), (95, .iconst 0, 1), (96, .istore 4, 2), (98, .aload_n 0, 1), (99, .iload 5, 2), (101, .invokevirtual 130, 3), (104, .istore_n 3, 1), (105, .iinc 5 1, 3), (108, .goto (-40), 3), (111, .iload_n 3, 1), (112, .ireturn, 1)]
def hb_m202 : px_M := (hb_h202, hb_c202_0 ++ (hb_c202_1), hb_L12)
def hb_c203_0 : List (Nat × Instr × Nat) := [(0, .iconst 0, 1), (1, .istore_n 1, 1), (2, .iload_n 1, 1), (3, .bipush 8, 2), (5, .if_icmp .gt 67, 3), (8, .iconst 1, 1), (9, .istore_n 2, 1), (10, .iload_n 2, 1), (11, .bipush 10, 2), (13, .if_icmp .ge 53, 3), (16, .iconst 0, 1), (17, .istore_n 3, 1), (18, .iload_n 3, 1), (19, .sipush 256, 3), (22, .if_icmp .ge 38, 3), (25, .iload_n 3, 1), (26, .invokestatic 133, 3), (29, .iload_n 1, 1), (30, .if_icmp .ne 24, 3), (33, .aload_n 0, 1), (34, .iload_n 3, 1), (35, .iload_n 2, 1), (36, .invokevirtual 136, 3), (39, .ifCond .eq 15, 3), (42, .aload_n 0, 1), (43, .iload_n 3, 1), (44, .putfield 140, 3), (47, .aload_n 0, 1), (48, .iload_n 2, 1), (49, .putfield 143, 3), (52, .iconst 1, 1), (53, .ireturn, 1), (54, .iinc 3 1, 3), (57, .goto (-39), 3), (60, .iinc 2 1, 3), (63, .goto (-53), 3), (66, .iinc 1 1, 3), (69, .goto (-67), 3), (72, .iconst 0, 1), (73, .ireturn, 1)]
def hb_m203 : px_M := (hb_h203, hb_c203_0, hb_L12)
def hb_c204_0 : List (Nat × Instr × Nat) := [(0, .iload_n 1, 1), (1, .iconst 0, 1), (2, .iconst 1, 1), (3, .invokestatic 91, 3), (6, .ifCond .ne 5, 3), (9, .iconst (-1), 1), (10, .ireturn, 1), (11, .aload_n 0, 1), (12, .invokevirtual 146, 3), (15, .ifCond .ne 6, 3), (18, .bipush (-3), 2), (20, .ireturn, 1), (21, .iload_n 1, 1), (22, .ifCond .ne 10, 3), (25, .aload_n 0, 1), (26, .getfield 140, 3), (29, .goto 7, 3), (32, .aload_n 0, 1), (33, .getfield 143, 3), (36, .ireturn, 1)]
def hb_m204 : px_M := (hb_h204, hb_c204_0, hb_L12)
def hb_c205_0 : List (Nat × Instr × Nat) := [(0, .iload_n 0, 1), (1, .iconst 0, 1), (2, .bipush 7, 2), (4, .invokestatic 91, 3), (7, .ireturn, 1)]
def hb_m205 : px_M := (hb_h205, hb_c205_0, hb_L12)
def hb_c206_0 : List (Nat × Instr × Nat) := [(0, .iload_n 1, 1), (1, .invokestatic 149, 3), (4, .ifCond .eq 33, 3), (7, .iload_n 2, 1), (8, .invokestatic 149, 3), (11, .ifCond .eq 26, 3), (14, .iload_n 1, 1), (15, .iload_n 2, 1), (16, .if_icmp .eq 21, 3), (19, .iload_n 3, 1), (20, .iconst 1, 1), (21, .bipush 20, 2), (23, .invokestatic 91, 3), (26, .ifCond .eq 11, 3), (29, .iload 4, 2), (31, .invokestatic 152, 3), (34, .ifCond .ne 5, 3), (37, .iconst (-1), 1), (38, .ireturn, 1), (39, .aload_n 0, 1), (40, .getfield 7, 3), (43, .iconst 3, 1), (44, .iaload, 1), (45, .bipush 12, 2), (47, .if_icmp .ne 6, 3), (50, .bipush (-2), 2), (52, .ireturn, 1), (53, .sipush 128, 3), (56, .iconst 4, 1), (57, .aload_n 0, 1), (58, .getfield 7, 3), (61, .iconst 3, 1), (62, .iaload, 1), (63, .imul, 1), (64, .iadd, 1), (65, .istore 5, 2), (67, .aload_n 0, 1), (68, .getfield 7, 3), (71, .iload 5, 2), (73, .iload_n 1, 1)]
def hb_c206_1 : List (Nat × Instr × Nat) := [(74, .iastore, 1), (75, .aload_n 0, 1), (76, .getfield 7, 3), (79, .iload 5, 2), (81, .iconst 1, 1), (82, .iadd, 1), (83, .iload_n 2, 1), (84, .iastore, 1), (85, .aload_n 0, 1), (86, .getfield 7, 3), (89, .iload 5, 2), (91, .iconst 2, 1), (92, .iadd, 1), (93, .iload_n 3, 1), (94, .iastore, 1), (95, .aload_n 0, 1), (96, .getfield 7, 3), (99, .iload 5, 2), (101, .iconst 3, 1), (102, .iadd, 1), (103, .iload 4, 2), (105, .iastore, 1), (106, .aload_n 0, 1), (107, .getfield 7, 3), (110, .iconst 3, 1), (111, .dup2, 1), (112, .iaload, 1), (113, .iconst 1, 1), (114, .iadd, 1), (115, .iastore, 1), (116, .aload_n 0, 1), (117, .getfield 7, 3), (120, .iconst 3, 1), (121, .iaload, 1), (122, .iconst 1, 1), (123, .isub, 1), (124, .ireturn, 1)]
def hb_m206 : px_M := (hb_h206, hb_c206_0 ++ (hb_c206_1), hb_L12)
def hb_c207_0 : List (Nat × Instr × Nat) := [(0, .iload_n 1, 1), (1, .iconst 1, 1), (2, .bipush 50, 2), (4, .invokestatic 91, 3), (7, .ifCond .eq 27, 3), (10, .iload_n 2, 1), (11, .iconst 0, 1), (12, .iconst 2, 1), (13, .invokestatic 91, 3), (16, .ifCond .eq 18, 3), (19, .iload_n 3, 1), (20, .invokestatic 149, 3), (23, .ifCond .eq 11, 3), (26, .iload 4, 2), (28, .invokestatic 152, 3), (31, .ifCond .ne 5, 3), (34, .iconst (-1), 1), (35, .ireturn, 1), (36, .aload_n 0, 1), (37, .getfield 7, 3), (40, .iconst 4, 1), (41, .iaload, 1), (42, .bipush 10, 2), (44, .if_icmp .ne 6, 3), (47, .bipush (-2), 2), (49, .ireturn, 1), (50, .sipush 176, 3), (53, .iconst 4, 1), (54, .aload_n 0, 1), (55, .getfield 7, 3), (58, .iconst 4, 1), (59, .iaload, 1), (60, .imul, 1), (61, .iadd, 1), (62, .istore 5, 2), (64, .aload_n 0, 1), (65, .getfield 7, 3), (68, .iload 5, 2), (70, .iload_n 1, 1), (71, .iastore, 1)]
def hb_c207_1 : List (Nat × Instr × Nat) := [(72, .aload_n 0, 1), (73, .getfield 7, 3), (76, .iload 5, 2), (78, .iconst 1, 1), (79, .iadd, 1), (80, .iload_n 2, 1), (81, .iastore, 1), (82, .aload_n 0, 1), (83, .getfield 7, 3), (86, .iload 5, 2), (88, .iconst 2, 1), (89, .iadd, 1), (90, .iload_n 3, 1), (91, .iastore, 1), (92, .aload_n 0, 1), (93, .getfield 7, 3), (96, .iload 5, 2), (98, .iconst 3, 1), (99, .iadd, 1), (100, .iload 4, 2), (102, .iastore, 1), (103, .aload_n 0, 1), (104, .getfield 7, 3), (107, .iconst 4, 1), (108, .dup2, 1), (109, .iaload, 1), (110, .iconst 1, 1), (111, .iadd, 1), (112, .iastore, 1), (113, .aload_n 0, 1), (114, .getfield 7, 3), (117, .iconst 4, 1), (118, .iaload, 1), (119, .iconst 1, 1), (120, .isub, 1), (121, .ireturn, 1)]
def hb_m207 : px_M := (hb_h207, hb_c207_0 ++ (hb_c207_1), hb_L12)
def hb_c208_0 : List (Nat × Instr × Nat) := [(0, .iload_n 1, 1), (1, .iconst 0, 1), (2, .aload_n 0, 1), (3, .getfield 7, 3), (6, .iconst 4, 1), (7, .iaload, 1), (8, .iconst 1, 1), (9, .isub, 1), (10, .invokestatic 91, 3), (13, .ireturn, 1)]
def hb_m208 : px_M := (hb_h208, hb_c208_0, hb_L12)
def hb_c209_0 : List (Nat × Instr × Nat) := [(0, .iconst 0, 1), (1, .istore_n 2, 1), (2, .iload_n 2, 1), (3, .bipush 8, 2), (5, .if_icmp .ge 52, 3), (8, .aload_n 0, 1), (9, .getfield 31, 3), (12, .iload_n 2, 1), (13, .iload_n 2, 1), (14, .aload_n 0, 1), (15, .getfield 7, 3), (18, .sipush 176, 3), (21, .iconst 4, 1), (22, .iload_n 1, 1), (23, .imul, 1), (24, .iadd, 1), (25, .iconst 2, 1), (26, .iadd, 1), (27, .iaload, 1), (28, .if_icmp .ne 20, 3), (31, .aload_n 0, 1), (32, .getfield 7, 3), (35, .sipush 176, 3), (38, .iconst 4, 1), (39, .iload_n 1, 1), (40, .imul, 1), (41, .iadd, 1), (42, .iconst 3, 1), (43, .iadd, 1), (44, .iaload, 1), (45, .goto 5, 3), (48, .ldc 155, 2), (50, .iastore, 1), (51, .iinc 2 1, 3), (54, .goto (-52), 3), (57, .iconst 0, 1), (58, .istore_n 2, 1), (59, .iload_n 2, 1), (60, .bipush 8, 2), (62, .if_icmp .ge 112, 3)]
def hb_c209_1 : List (Nat × Instr × Nat) := [(65, .iconst 0, 1), (66, .istore_n 3, 1), (67, .iload_n 3, 1), (68, .aload_n 0, 1), (69, .getfield 7, 3), (72, .iconst 3, 1), (73, .iaload, 1), (74, .if_icmp .ge 94, 3), (77, .sipush 128, 3), (80, .iconst 4, 1), (81, .iload_n 3, 1), (82, .imul, 1), (83, .iadd, 1), (84, .istore 4, 2), (86, .aload_n 0, 1), (87, .aload_n 0, 1), (88, .getfield 7, 3), (91, .iload 4, 2), (93, .iaload, 1), (94, .aload_n 0, 1), (95, .getfield 7, 3), (98, .iload 4, 2), (100, .iconst 1, 1), (101, .iadd, 1), (102, .iaload, 1), (103, .aload_n 0, 1), (104, .getfield 7, 3), (107, .iload 4, 2), (109, .iconst 2, 1), (110, .iadd, 1), (111, .iaload, 1), (112, .aload_n 0, 1), (113, .getfield 7, 3), (116, .iload 4, 2), (118, .iconst 3, 1), (119, .iadd, 1), (120, .iaload, 1), (121, .invokevirtual 156, 3), (124, .aload_n 0, 1), (125, .aload_n 0, 1)]
def hb_c209_2 : List (Nat × Instr × Nat) := [(126, .getfield 7, 3), (129, .iload 4, 2), (131, .iconst 1, 1), (132, .iadd, 1), (133, .iaload, 1), (134, .aload_n 0, 1), (135, .getfield 7, 3), (138, .iload 4, 2), (140, .iaload, 1), (141, .aload_n 0, 1), (142, .getfield 7, 3), (145, .iload 4, 2), (147, .iconst 2, 1), (148, .iadd, 1), (149, .iaload, 1), (150, .aload_n 0, 1), (151, .getfield 7, 3), (154, .iload 4, 2), (156, .iconst 3, 1), (157, .iadd, 1), (158, .iaload, 1), (159, .invokevirtual 156, 3), (162, .iinc 3 1, 3), (165, .goto (-98), 3), (168, .iinc 2 1, 3), (171, .goto (-112), 3), (174, .return_, 1)]
def hb_m209 : px_M := (hb_h209, hb_c209_0 ++ (hb_c209_1 ++ (hb_c209_2)), hb_L12)
def hb_c210_0 : List (Nat × Instr × Nat) := [(0, .aload_n 0, 1), (1, .getfield 31, 3), (4, .iload_n 1, 1), (5, .iaload, 1), (6, .iload 4, 2), (8, .if_icmp .ge 8, 3), (11, .iload 4, 2), (13, .goto 9, 3), (16, .aload_n 0, 1), (17, .getfield 31, 3), (20, .iload_n 1, 1), (21, .iaload, 1), (22, .iload_n 3, 1), (23, .iadd, 1), (24, .istore 5, 2), (26, .aload_n 0, 1), (27, .getfield 31, 3), (30, .iload_n 2, 1), (31, .aload_n 0, 1), (32, .getfield 31, 3), (35, .iload_n 1, 1), (36, .iaload, 1), (37, .ldc 155, 2), (39, .if_icmp .ge 19, 3), (42, .iload 5, 2), (44, .aload_n 0, 1), (45, .getfield 31, 3), (48, .iload_n 2, 1), (49, .iaload, 1), (50, .if_icmp .ge 8, 3), (53, .iload 5, 2), (55, .goto 9, 3), (58, .aload_n 0, 1), (59, .getfield 31, 3), (62, .iload_n 2, 1), (63, .iaload, 1), (64, .iastore, 1), (65, .return_, 1)]
def hb_m210 : px_M := (hb_h210, hb_c210_0, hb_L12)
def hb_c211_0 : List (Nat × Instr × Nat) := [(0, .aload_n 0, 1), (1, .iload_n 1, 1), (2, .invokevirtual 160, 3), (5, .ifCond .eq 10, 3), (8, .iload_n 2, 1), (9, .invokestatic 149, 3), (12, .ifCond .ne 5, 3), (15, .iconst (-1), 1), (16, .ireturn, 1), (17, .aload_n 0, 1), (18, .iload_n 1, 1), (19, .invokevirtual 163, 3), (22, .aload_n 0, 1), (23, .getfield 31, 3), (26, .iload_n 2, 1), (27, .iaload, 1), (28, .ldc 155, 2), (30, .if_icmp .ne 8, 3), (33, .bipush (-3), 2), (35, .goto 9, 3), (38, .aload_n 0, 1), (39, .getfield 31, 3), (42, .iload_n 2, 1), (43, .iaload, 1), (44, .ireturn, 1)]
def hb_m211 : px_M := (hb_h211, hb_c211_0, hb_L12)
def hb_c212_0 : List (Nat × Instr × Nat) := [(0, .iload_n 1, 1), (1, .iconst 1, 1), (2, .bipush 65, 2), (4, .invokestatic 91, 3), (7, .ifCond .eq 27, 3), (10, .iload_n 2, 1), (11, .invokestatic 149, 3), (14, .ifCond .eq 20, 3), (17, .iload_n 3, 1), (18, .invokestatic 152, 3), (21, .ifCond .eq 13, 3), (24, .iload 4, 2), (26, .iconst 0, 1), (27, .iconst 1, 1), (28, .invokestatic 91, 3), (31, .ifCond .ne 5, 3), (34, .iconst (-1), 1), (35, .ireturn, 1), (36, .aload_n 0, 1), (37, .getfield 7, 3), (40, .iconst 5, 1), (41, .iaload, 1), (42, .bipush 8, 2), (44, .if_icmp .ne 6, 3), (47, .bipush (-2), 2), (49, .ireturn, 1), (50, .sipush 216, 3), (53, .iconst 4, 1), (54, .aload_n 0, 1), (55, .getfield 7, 3), (58, .iconst 5, 1), (59, .iaload, 1), (60, .imul, 1), (61, .iadd, 1), (62, .istore 5, 2), (64, .aload_n 0, 1), (65, .getfield 7, 3), (68, .iload 5, 2), (70, .iload_n 1, 1), (71, .iastore, 1)]
def hb_c212_1 : List (Nat × Instr × Nat) := [(72, .aload_n 0, 1), (73, .getfield 7, 3), (76, .iload 5, 2), (78, .iconst 1, 1), (79, .iadd, 1), (80, .iload_n 2, 1), (81, .iastore, 1), (82, .aload_n 0, 1), (83, .getfield 7, 3), (86, .iload 5, 2), (88, .iconst 2, 1), (89, .iadd, 1), (90, .iload_n 3, 1), (91, .iastore, 1), (92, .aload_n 0, 1), (93, .getfield 7, 3), (96, .iload 5, 2), (98, .iconst 3, 1), (99, .iadd, 1), (100, .iload 4, 2), (102, .iastore, 1), (103, .aload_n 0, 1), (104, .getfield 7, 3), (107, .iconst 5, 1), (108, .dup2, 1), (109, .iaload, 1), (110, .iconst 1, 1), (111, .iadd, 1), (112, .iastore, 1), (113, .aload_n 0, 1), (114, .getfield 7, 3), (117, .iconst 5, 1), (118, .iaload, 1), (119, .iconst 1, 1), (120, .isub, 1), (121, .ireturn, 1)]
def hb_m212 : px_M := (hb_h212, hb_c212_0 ++ (hb_c212_1), hb_L12)
def hb_c213_0 : List (Nat × Instr × Nat) := [(0, .iload_n 1, 1), (1, .iconst 0, 1), (2, .aload_n 0, 1), (3, .getfield 7, 3), (6, .iconst 5, 1), (7, .iaload, 1), (8, .iconst 1, 1), (9, .isub, 1), (10, .invokestatic 91, 3), (13, .ireturn, 1)]
def hb_m213 : px_M := (hb_h213, hb_c213_0, hb_L12)
def hb_c214_0 : List (Nat × Instr × Nat) := [(0, .iconst 0, 1), (1, .istore_n 1, 1), (2, .iload_n 1, 1), (3, .aload_n 0, 1), (4, .getfield 7, 3), (7, .iconst 5, 1), (8, .iaload, 1), (9, .if_icmp .ge 29, 3), (12, .aload_n 0, 1), (13, .getfield 34, 3), (16, .iload_n 1, 1), (17, .aload_n 0, 1), (18, .getfield 7, 3), (21, .sipush 216, 3), (24, .iconst 4, 1), (25, .iload_n 1, 1), (26, .imul, 1), (27, .iadd, 1), (28, .iconst 2, 1), (29, .iadd, 1), (30, .iaload, 1), (31, .iastore, 1), (32, .iinc 1 1, 3), (35, .goto (-33), 3), (38, .return_, 1)]
def hb_m214 : px_M := (hb_h214, hb_c214_0, hb_L12)
def hb_c215_0 : List (Nat × Instr × Nat) := [(0, .iconst 0, 1), (1, .istore_n 1, 1), (2, .iload_n 1, 1), (3, .aload_n 0, 1), (4, .getfield 7, 3), (7, .iconst 4, 1), (8, .iaload, 1), (9, .if_icmp .ge 147, 3), (12, .aload_n 0, 1), (13, .iload_n 1, 1), (14, .invokevirtual 163, 3), (17, .aload_n 0, 1), (18, .getfield 37, 3), (21, .iload_n 1, 1), (22, .iconst 0, 1), (23, .iastore, 1), (24, .aload_n 0, 1), (25, .getfield 40, 3), (28, .iload_n 1, 1), (29, .aload_n 0, 1), (30, .getfield 7, 3), (33, .sipush 176, 3), (36, .iconst 4, 1), (37, .iload_n 1, 1), (38, .imul, 1), (39, .iadd, 1), (40, .iaload, 1), (41, .iastore, 1), (42, .iconst 0, 1), (43, .istore_n 2, 1), (44, .iload_n 2, 1), (45, .aload_n 0, 1), (46, .getfield 7, 3), (49, .iconst 5, 1), (50, .iaload, 1), (51, .if_icmp .ge 99, 3), (54, .aload_n 0, 1), (55, .getfield 7, 3), (58, .sipush 216, 3), (61, .iconst 4, 1)]
def hb_c215_1 : List (Nat × Instr × Nat) := [(62, .iload_n 2, 1), (63, .imul, 1), (64, .iadd, 1), (65, .iconst 3, 1), (66, .iadd, 1), (67, .iaload, 1), (68, .iconst 1, 1), (69, .if_icmp .eq 21, 3), (72, .aload_n 0, 1), (73, .getfield 7, 3), (76, .sipush 176, 3), (79, .iconst 4, 1), (80, .iload_n 1, 1), (81, .imul, 1), (82, .iadd, 1), (83, .iconst 1, 1), (84, .iadd, 1), (85, .iaload, 1), (86, .iconst 2, 1), (87, .if_icmp .ge 7, 3), (90, .iconst 1, 1), (91, .goto 4, 3), (94, .iconst 0, 1), (95, .istore_n 3, 1), (96, .aload_n 0, 1), (97, .getfield 37, 3), (100, .iload_n 1, 1), (101, .dup2, 1), (102, .iaload, 1), (103, .iload_n 3, 1), (104, .ifCond .eq 37, 3), (107, .aload_n 0, 1), (108, .getfield 31, 3), (111, .aload_n 0, 1), (112, .getfield 7, 3), (115, .sipush 216, 3), (118, .iconst 4, 1), (119, .iload_n 2, 1), (120, .imul, 1), (121, .iadd, 1)]
def hb_c215_2 : List (Nat × Instr × Nat) := [(122, .iconst 1, 1), (123, .iadd, 1), (124, .iaload, 1), (125, .iaload, 1), (126, .aload_n 0, 1), (127, .getfield 34, 3), (130, .iload_n 2, 1), (131, .iaload, 1), (132, .if_icmp .gt 9, 3), (135, .iconst 1, 1), (136, .iload_n 2, 1), (137, .ishl, 1), (138, .goto 4, 3), (141, .iconst 0, 1), (142, .ior, 1), (143, .iastore, 1), (144, .iinc 2 1, 3), (147, .goto (-103), 3), (150, .iinc 1 1, 3), (153, .goto (-151), 3), (156, .iconst 0, 1), (157, .istore_n 1, 1), (158, .iload_n 1, 1), (159, .aload_n 0, 1), (160, .getfield 7, 3), (163, .iconst 5, 1), (164, .iaload, 1), (165, .if_icmp .ge 27, 3), (168, .aload_n 0, 1), (169, .getfield 43, 3), (172, .iload_n 1, 1), (173, .aload_n 0, 1), (174, .getfield 7, 3), (177, .sipush 216, 3), (180, .iconst 4, 1), (181, .iload_n 1, 1), (182, .imul, 1), (183, .iadd, 1), (184, .iaload, 1), (185, .iastore, 1)]
def hb_c215_3 : List (Nat × Instr × Nat) := [(186, .iinc 1 1, 3), (189, .goto (-31), 3), (192, .return_, 1)]
def hb_m215 : px_M := (hb_h215, hb_c215_0 ++ (hb_c215_1 ++ (hb_c215_2 ++ (hb_c215_3))), hb_L12)
def hb_c216_0 : List (Nat × Instr × Nat) := [(0, .aload_n 0, 1), (1, .iload_n 1, 1), (2, .invokevirtual 160, 3), (5, .ifCond .ne 5, 3), (8, .iconst (-1), 1), (9, .ireturn, 1), (10, .aload_n 0, 1), (11, .invokevirtual 167, 3), (14, .aload_n 0, 1), (15, .invokevirtual 170, 3), (18, .aload_n 0, 1), (19, .getfield 37, 3), (22, .iload_n 1, 1), (23, .iaload, 1), (24, .ireturn, 1)]
def hb_m216 : px_M := (hb_h216, hb_c216_0, hb_L12)
def hb_c217_0 : List (Nat × Instr × Nat) := [(0, .ldc 155, 2), (2, .istore_n 1, 1), (3, .iconst 0, 1), (4, .istore_n 2, 1), (5, .iload_n 2, 1), (6, .iconst 1, 1), (7, .aload_n 0, 1), (8, .getfield 7, 3), (11, .iconst 4, 1), (12, .iaload, 1), (13, .ishl, 1), (14, .if_icmp .ge 147, 3), (17, .iconst 0, 1), (18, .istore_n 3, 1), (19, .iconst 0, 1), (20, .istore 4, 2), (22, .iconst 0, 1), (23, .istore 5, 2), (25, .iload 5, 2), (27, .aload_n 0, 1), (28, .getfield 7, 3), (31, .iconst 4, 1), (32, .iaload, 1), (33, .if_icmp .ge 66, 3), (36, .iload_n 2, 1), (37, .iload 5, 2), (39, .ishr, 1), (40, .iconst 1, 1), (41, .iand, 1), (42, .iconst 1, 1), (43, .if_icmp .ne 7, 3), (46, .iconst 1, 1), (47, .goto 4, 3), (50, .iconst 0, 1), (51, .istore 6, 2), (53, .iload_n 3, 1), (54, .iload 6, 2), (56, .ifCond .eq 7, 3), (59, .iconst 0, 1), (60, .goto 10, 3)]
def hb_c217_1 : List (Nat × Instr × Nat) := [(63, .aload_n 0, 1), (64, .getfield 40, 3), (67, .iload 5, 2), (69, .iaload, 1), (70, .iadd, 1), (71, .istore_n 3, 1), (72, .iload 4, 2), (74, .iload 6, 2), (76, .ifCond .eq 13, 3), (79, .aload_n 0, 1), (80, .getfield 37, 3), (83, .iload 5, 2), (85, .iaload, 1), (86, .goto 4, 3), (89, .iconst 0, 1), (90, .ior, 1), (91, .istore 4, 2), (93, .iinc 5 1, 3), (96, .goto (-71), 3), (99, .iconst 0, 1), (100, .istore 5, 2), (102, .iload 5, 2), (104, .aload_n 0, 1), (105, .getfield 7, 3), (108, .iconst 5, 1), (109, .iaload, 1), (110, .if_icmp .ge 34, 3), (113, .iload_n 3, 1), (114, .iload 4, 2), (116, .iload 5, 2), (118, .ishr, 1), (119, .iconst 1, 1), (120, .iand, 1), (121, .iconst 1, 1), (122, .if_icmp .ne 13, 3), (125, .aload_n 0, 1), (126, .getfield 43, 3), (129, .iload 5, 2), (131, .iaload, 1), (132, .goto 4, 3)]
def hb_c217_2 : List (Nat × Instr × Nat) := [(135, .iconst 0, 1), (136, .iadd, 1), (137, .istore_n 3, 1), (138, .iinc 5 1, 3), (141, .goto (-39), 3), (144, .iload_n 3, 1), (145, .iload_n 1, 1), (146, .if_icmp .ge 7, 3), (149, .iload_n 3, 1), (150, .goto 4, 3), (153, .iload_n 1, 1), (154, .istore_n 1, 1), (155, .iinc 2 1, 3), (158, .goto (-153), 3), (161, .iload_n 1, 1), (162, .ireturn, 1)]
def hb_m217 : px_M := (hb_h217, hb_c217_0 ++ (hb_c217_1 ++ (hb_c217_2)), hb_L12)
def hb_c218_0 : List (Nat × Instr × Nat) := [(0, .aload_n 0, 1), (1, .invokevirtual 167, 3), (4, .aload_n 0, 1), (5, .invokevirtual 170, 3), (8, .aload_n 0, 1), (9, .invokevirtual 173, 3), (12, .ireturn, 1)]
def hb_m218 : px_M := (hb_h218, hb_c218_0, hb_L12)
def hb_c219_0 : List (Nat × Instr × Nat) := [(0, .iconst 0, 1), (1, .istore 4, 2), (3, .aload_n 0, 1), (4, .getfield 40, 3), (7, .iload_n 1, 1), (8, .iaload, 1), (9, .aload_n 0, 1), (10, .getfield 43, 3), (13, .iload_n 2, 1), (14, .iaload, 1), (15, .if_icmp .ge 12, 3), (18, .aload_n 0, 1), (19, .getfield 40, 3), (22, .iload_n 1, 1), (23, .iaload, 1), (24, .goto 9, 3), (27, .aload_n 0, 1), (28, .getfield 43, 3), (31, .iload_n 2, 1), (32, .iaload, 1), (33, .istore 5, 2), (35, .iload 4, 2), (37, .iload 5, 2), (39, .if_icmp .ge 109, 3), (42, .iload 4, 2), (44, .iload 5, 2), (46, .iadd, 1), (47, .iconst 1, 1), (48, .iadd, 1), (49, .iconst 2, 1), (50, .idiv, 1), (51, .istore 6, 2), (53, .aload_n 0, 1), (54, .getfield 40, 3), (57, .iload_n 1, 1), (58, .dup2, 1), (59, .iaload, 1), (60, .iload 6, 2), (62, .isub, 1), (63, .iastore, 1)]
def hb_c219_1 : List (Nat × Instr × Nat) := [(64, .aload_n 0, 1), (65, .getfield 43, 3), (68, .iload_n 2, 1), (69, .dup2, 1), (70, .iaload, 1), (71, .iload 6, 2), (73, .isub, 1), (74, .iastore, 1), (75, .aload_n 0, 1), (76, .invokevirtual 173, 3), (79, .iload 6, 2), (81, .iadd, 1), (82, .iload_n 3, 1), (83, .if_icmp .ne 7, 3), (86, .iconst 1, 1), (87, .goto 4, 3), (90, .iconst 0, 1), (91, .istore 7, 2), (93, .aload_n 0, 1), (94, .getfield 40, 3), (97, .iload_n 1, 1), (98, .dup2, 1), (99, .iaload, 1), (100, .iload 6, 2), (102, .iadd, 1), (103, .iastore, 1), (104, .aload_n 0, 1), (105, .getfield 43, 3), (108, .iload_n 2, 1), (109, .dup2, 1), (110, .iaload, 1), (111, .iload 6, 2), (113, .iadd, 1), (114, .iastore, 1), (115, .iload 7, 2), (117, .ifCond .eq 8, 3), (120, .iload 6, 2), (122, .goto 5, 3), (125, .iload 4, 2), (127, .istore 4, 2)]
def hb_c219_2 : List (Nat × Instr × Nat) := [(129, .iload 7, 2), (131, .ifCond .eq 8, 3), (134, .iload 5, 2), (136, .goto 7, 3), (139, .iload 6, 2), (141, .iconst 1, 1), (142, .isub, 1), (143, .istore 5, 2), (145, .goto (-110), 3), (148, .iload 4, 2), (150, .ireturn, 1)]
def hb_m219 : px_M := (hb_h219, hb_c219_0 ++ (hb_c219_1 ++ (hb_c219_2)), hb_L12)
def hb_c220_0 : List (Nat × Instr × Nat) := [(0, .aload_n 0, 1), (1, .invokevirtual 167, 3), (4, .aload_n 0, 1), (5, .invokevirtual 170, 3), (8, .aload_n 0, 1), (9, .invokevirtual 173, 3), (12, .istore_n 1, 1), (13, .aload_n 0, 1), (14, .iconst 0, 1), (15, .putfield 177, 3), (18, .iconst 0, 1), (19, .istore_n 2, 1), (20, .iload_n 2, 1), (21, .aload_n 0, 1), (22, .getfield 7, 3), (25, .iconst 4, 1), (26, .iaload, 1), (27, .if_icmp .ge 151, 3), (30, .iconst 0, 1), (31, .istore_n 3, 1), (32, .iload_n 3, 1), (33, .aload_n 0, 1), (34, .getfield 7, 3), (37, .iconst 5, 1), (38, .iaload, 1), (39, .if_icmp .ge 133, 3), (42, .aload_n 0, 1), (43, .getfield 37, 3), (46, .iload_n 2, 1), (47, .iaload, 1), (48, .iload_n 3, 1), (49, .ishr, 1), (50, .iconst 1, 1), (51, .iand, 1), (52, .iconst 1, 1), (53, .if_icmp .ne 13, 3), (56, .aload_n 0, 1), (57, .iload_n 2, 1), (58, .iload_n 3, 1), (59, .iload_n 1, 1)]
def hb_c220_1 : List (Nat × Instr × Nat) := [(60, .invokevirtual 180, 3), (63, .goto 4, 3), (66, .iconst 0, 1), (67, .istore 4, 2), (69, .aload_n 0, 1), (70, .getfield 40, 3), (73, .iload_n 2, 1), (74, .dup2, 1), (75, .iaload, 1), (76, .iload 4, 2), (78, .isub, 1), (79, .iastore, 1), (80, .aload_n 0, 1), (81, .getfield 43, 3), (84, .iload_n 3, 1), (85, .dup2, 1), (86, .iaload, 1), (87, .iload 4, 2), (89, .isub, 1), (90, .iastore, 1), (91, .iload_n 1, 1), (92, .iload 4, 2), (94, .isub, 1), (95, .istore_n 1, 1), (96, .aload_n 0, 1), (97, .getfield 37, 3), (100, .iload_n 2, 1), (101, .dup2, 1), (102, .iaload, 1), (103, .iconst 1, 1), (104, .iload_n 3, 1), (105, .ishl, 1), (106, .iconst (-1), 1), (107, .ixor, 1), (108, .iand, 1), (109, .iastore, 1), (110, .iload 4, 2), (112, .ifCond .le 54, 3), (115, .aload_n 0, 1), (116, .getfield 46, 3)]
def hb_c220_2 : List (Nat × Instr × Nat) := [(119, .iconst 3, 1), (120, .aload_n 0, 1), (121, .getfield 177, 3), (124, .imul, 1), (125, .iload_n 2, 1), (126, .iastore, 1), (127, .aload_n 0, 1), (128, .getfield 46, 3), (131, .iconst 3, 1), (132, .aload_n 0, 1), (133, .getfield 177, 3), (136, .imul, 1), (137, .iconst 1, 1), (138, .iadd, 1), (139, .iload_n 3, 1), (140, .iastore, 1), (141, .aload_n 0, 1), (142, .getfield 46, 3), (145, .iconst 3, 1), (146, .aload_n 0, 1), (147, .getfield 177, 3), (150, .imul, 1), (151, .iconst 2, 1), (152, .iadd, 1), (153, .iload 4, 2), (155, .iastore, 1), (156, .aload_n 0, 1), (157, .dup, 1), (158, .getfield 177, 3), (161, .iconst 1, 1), (162, .iadd, 1), (163, .putfield 177, 3), (166, .iinc 3 1, 3), (169, .goto (-137), 3), (172, .iinc 2 1, 3), (175, .goto (-155), 3), (178, .aload_n 0, 1), (179, .getfield 177, 3), (182, .ireturn, 1)]
def hb_m220 : px_M := (hb_h220, hb_c220_0 ++ (hb_c220_1 ++ (hb_c220_2)), hb_L12)
def hb_c221_0 : List (Nat × Instr × Nat) := [(0, .iload_n 1, 1), (1, .iconst 0, 1), (2, .aload_n 0, 1), (3, .getfield 177, 3), (6, .iconst 1, 1), (7, .isub, 1), (8, .invokestatic 91, 3), (11, .ifCond .eq 16, 3), (14, .iload_n 2, 1), (15, .iconst 0, 1), (16, .iconst 2, 1), (17, .invokestatic 91, 3), (20, .ifCond .eq 7, 3), (23, .iconst 1, 1), (24, .goto 4, 3), (27, .iconst 0, 1), (28, .ireturn, 1)]
def hb_m221 : px_M := (hb_h221, hb_c221_0, hb_L12)
def hb_c222_0 : List (Nat × Instr × Nat) := [(0, .aload_n 0, 1), (1, .iload_n 1, 1), (2, .iload_n 2, 1), (3, .invokevirtual 183, 3), (6, .ifCond .eq 16, 3), (9, .aload_n 0, 1), (10, .getfield 46, 3), (13, .iconst 3, 1), (14, .iload_n 1, 1), (15, .imul, 1), (16, .iload_n 2, 1), (17, .iadd, 1), (18, .iaload, 1), (19, .goto 5, 3), (22, .bipush (-9), 2), (24, .ireturn, 1)]
def hb_m222 : px_M := (hb_h222, hb_c222_0, hb_L12)
def hb_c223_0 : List (Nat × Instr × Nat) := [(0, .aload_n 0, 1), (1, .iload_n 1, 1), (2, .iload_n 2, 1), (3, .invokevirtual 183, 3), (6, .ifCond .ne 6, 3), (9, .bipush (-9), 2), (11, .ireturn, 1), (12, .aload_n 0, 1), (13, .getfield 46, 3), (16, .iconst 3, 1), (17, .iload_n 1, 1), (18, .imul, 1), (19, .iload_n 2, 1), (20, .iadd, 1), (21, .iaload, 1), (22, .istore 4, 2), (24, .aload_n 0, 1), (25, .getfield 46, 3), (28, .iconst 3, 1), (29, .iload_n 1, 1), (30, .imul, 1), (31, .iload_n 2, 1), (32, .iadd, 1), (33, .iload_n 3, 1), (34, .iastore, 1), (35, .iload 4, 2), (37, .ireturn, 1)]
def hb_m223 : px_M := (hb_h223, hb_c223_0, hb_L12)
def hb_c224_0 : List (Nat × Instr × Nat) := [(0, .aload_n 0, 1), (1, .invokevirtual 167, 3), (4, .aload_n 0, 1), (5, .invokevirtual 170, 3), (8, .iconst 0, 1), (9, .istore_n 1, 1), (10, .iconst 0, 1), (11, .istore_n 2, 1), (12, .iload_n 2, 1), (13, .aload_n 0, 1), (14, .getfield 177, 3), (17, .if_icmp .ge 194, 3), (20, .aload_n 0, 1), (21, .getfield 46, 3), (24, .iconst 3, 1), (25, .iload_n 2, 1), (26, .imul, 1), (27, .iaload, 1), (28, .istore_n 3, 1), (29, .aload_n 0, 1), (30, .getfield 46, 3), (33, .iconst 3, 1), (34, .iload_n 2, 1), (35, .imul, 1), (36, .iconst 1, 1), (37, .iadd, 1), (38, .iaload, 1), (39, .istore 4, 2), (41, .aload_n 0, 1), (42, .getfield 46, 3), (45, .iconst 3, 1), (46, .iload_n 2, 1), (47, .imul, 1), (48, .iconst 2, 1), (49, .iadd, 1), (50, .iaload, 1), (51, .istore 5, 2), (53, .iload_n 2, 1), (54, .ifCond .eq 46, 3), (57, .iload_n 3, 1)]
def hb_c224_1 : List (Nat × Instr × Nat) := [(58, .aload_n 0, 1), (59, .getfield 46, 3), (62, .iconst 3, 1), (63, .iload_n 2, 1), (64, .imul, 1), (65, .iconst 3, 1), (66, .isub, 1), (67, .iaload, 1), (68, .if_icmp .gt 32, 3), (71, .iload_n 3, 1), (72, .aload_n 0, 1), (73, .getfield 46, 3), (76, .iconst 3, 1), (77, .iload_n 2, 1), (78, .imul, 1), (79, .iconst 3, 1), (80, .isub, 1), (81, .iaload, 1), (82, .if_icmp .ne 22, 3), (85, .iload 4, 2), (87, .aload_n 0, 1), (88, .getfield 46, 3), (91, .iconst 3, 1), (92, .iload_n 2, 1), (93, .imul, 1), (94, .iconst 2, 1), (95, .isub, 1), (96, .iaload, 1), (97, .if_icmp .le 7, 3), (100, .iconst 1, 1), (101, .goto 4, 3), (104, .iconst 0, 1), (105, .istore 6, 2), (107, .aload_n 0, 1), (108, .iload_n 3, 1), (109, .invokevirtual 160, 3), (112, .ifCond .eq 60, 3), (115, .aload_n 0, 1), (116, .iload 4, 2), (118, .invokevirtual 186, 3)]
def hb_c224_2 : List (Nat × Instr × Nat) := [(121, .ifCond .eq 51, 3), (124, .iload 6, 2), (126, .ifCond .eq 46, 3), (129, .aload_n 0, 1), (130, .getfield 37, 3), (133, .iload_n 3, 1), (134, .iaload, 1), (135, .iload 4, 2), (137, .ishr, 1), (138, .iconst 1, 1), (139, .iand, 1), (140, .ifCond .eq 32, 3), (143, .iload 5, 2), (145, .iconst 1, 1), (146, .if_icmp .lt 26, 3), (149, .iload 5, 2), (151, .aload_n 0, 1), (152, .getfield 40, 3), (155, .iload_n 3, 1), (156, .iaload, 1), (157, .if_icmp .gt 15, 3), (160, .iload 5, 2), (162, .aload_n 0, 1), (163, .getfield 43, 3), (166, .iload 4, 2), (168, .iaload, 1), (169, .if_icmp .le 8, 3), (172, .bipush (-100), 2), (174, .iload_n 2, 1), (175, .isub, 1), (176, .ireturn, 1), (177, .aload_n 0, 1), (178, .getfield 40, 3), (181, .iload_n 3, 1), (182, .dup2, 1), (183, .iaload, 1), (184, .iload 5, 2), (186, .isub, 1), (187, .iastore, 1), (188, .aload_n 0, 1)]
def hb_c224_3 : List (Nat × Instr × Nat) := [(189, .getfield 43, 3), (192, .iload 4, 2), (194, .dup2, 1), (195, .iaload, 1), (196, .iload 5, 2), (198, .isub, 1), (199, .iastore, 1), (200, .iload_n 1, 1), (201, .iload 5, 2), (203, .iadd, 1), (204, .istore_n 1, 1), (205, .iinc 2 1, 3), (208, .goto (-196), 3), (211, .iload_n 1, 1), (212, .ireturn, 1)]
def hb_m224 : px_M := (hb_h224, hb_c224_0 ++ (hb_c224_1 ++ (hb_c224_2 ++ (hb_c224_3))), hb_L12)
def hb_c225_0 : List (Nat × Instr × Nat) := [(0, .iconst 1, 1), (1, .istore_n 3, 1), (2, .iconst 2, 1), (3, .istore 4, 2), (5, .iload 4, 2), (7, .iload_n 2, 1), (8, .if_icmp .gt 14, 3), (11, .iload_n 3, 1), (12, .iload 4, 2), (14, .imul, 1), (15, .istore_n 3, 1), (16, .iinc 4 1, 3), (19, .goto (-14), 3), (22, .iload_n 1, 1), (23, .istore 4, 2), (25, .iconst 0, 1), (26, .istore 5, 2), (28, .iconst 0, 1), (29, .istore 6, 2), (31, .iload 6, 2), (33, .iload_n 2, 1), (34, .if_icmp .ge 97, 3), (37, .iload_n 3, 1), (38, .iload_n 2, 1), (39, .iload 6, 2), (41, .isub, 1), (42, .idiv, 1), (43, .istore_n 3, 1), (44, .iload 4, 2), (46, .iload_n 3, 1), (47, .idiv, 1), (48, .istore 7, 2), (50, .iload 4, 2), (52, .iload_n 3, 1), (53, .irem, 1), (54, .istore 4, 2), (56, .iconst 0, 1), (57, .istore 8, 2), (59, .iload 5, 2), (61, .iload 8, 2)]
def hb_c225_1 : List (Nat × Instr × Nat) := [(63, .ishr, 1), (64, .iconst 1, 1), (65, .iand, 1), (66, .iconst 1, 1), (67, .if_icmp .eq 8, 3), (70, .iload 7, 2), (72, .ifCond .le 30, 3), (75, .iload 7, 2), (77, .iload 5, 2), (79, .iload 8, 2), (81, .ishr, 1), (82, .iconst 1, 1), (83, .iand, 1), (84, .iconst 1, 1), (85, .if_icmp .ne 7, 3), (88, .iconst 0, 1), (89, .goto 4, 3), (92, .iconst 1, 1), (93, .isub, 1), (94, .istore 7, 2), (96, .iinc 8 1, 3), (99, .goto (-40), 3), (102, .iload 5, 2), (104, .iconst 1, 1), (105, .iload 8, 2), (107, .ishl, 1), (108, .ior, 1), (109, .istore 5, 2), (111, .aload_n 0, 1), (112, .getfield 52, 3), (115, .iload 6, 2), (117, .aload_n 0, 1), (118, .getfield 49, 3), (121, .iload 8, 2), (123, .iaload, 1), (124, .iastore, 1), (125, .iinc 6 1, 3), (128, .goto (-97), 3), (131, .return_, 1)]
def hb_m225 : px_M := (hb_h225, hb_c225_0 ++ (hb_c225_1), hb_L12)
def hb_c226_0 : List (Nat × Instr × Nat) := [(0, .iload_n 1, 1), (1, .ifCond .le 29, 3), (4, .iload_n 1, 1), (5, .aload_n 0, 1), (6, .getfield 7, 3), (9, .iconst 5, 1), (10, .iaload, 1), (11, .ishr, 1), (12, .ifCond .ne 18, 3), (15, .iload_n 2, 1), (16, .iconst 1, 1), (17, .bipush 30, 2), (19, .invokestatic 91, 3), (22, .ifCond .eq 8, 3), (25, .iload_n 3, 1), (26, .iconst (-1), 1), (27, .if_icmp .ge 5, 3), (30, .iconst (-1), 1), (31, .ireturn, 1), (32, .iload_n 1, 1), (33, .invokestatic 133, 3), (36, .istore 4, 2), (38, .iload 4, 2), (40, .bipush 6, 2), (42, .if_icmp .le 6, 3), (45, .bipush (-2), 2), (47, .ireturn, 1), (48, .iconst 0, 1), (49, .istore 5, 2), (51, .iconst 1, 1), (52, .istore 6, 2), (54, .iconst 0, 1), (55, .istore 7, 2), (57, .iload 7, 2), (59, .aload_n 0, 1), (60, .getfield 7, 3), (63, .iconst 5, 1), (64, .iaload, 1), (65, .if_icmp .ge 38, 3), (68, .iload_n 1, 1)]
def hb_c226_1 : List (Nat × Instr × Nat) := [(69, .iload 7, 2), (71, .ishr, 1), (72, .iconst 1, 1), (73, .iand, 1), (74, .iconst 1, 1), (75, .if_icmp .ne 22, 3), (78, .aload_n 0, 1), (79, .getfield 49, 3), (82, .iload 5, 2), (84, .iload 7, 2), (86, .iastore, 1), (87, .iinc 5 1, 3), (90, .iload 6, 2), (92, .iload 5, 2), (94, .imul, 1), (95, .istore 6, 2), (97, .iinc 7 1, 3), (100, .goto (-43), 3), (103, .iconst (-1), 1), (104, .istore 7, 2), (106, .iconst 0, 1), (107, .istore 8, 2), (109, .iload 8, 2), (111, .iload 6, 2), (113, .if_icmp .ge 125, 3), (116, .aload_n 0, 1), (117, .iload 8, 2), (119, .iload 4, 2), (121, .invokevirtual 189, 3), (124, .aload_n 0, 1), (125, .invokevirtual 167, 3), (128, .iconst 0, 1), (129, .istore 9, 2), (131, .iload 9, 2), (133, .iload 4, 2), (135, .if_icmp .ge 34, 3), (138, .aload_n 0, 1), (139, .getfield 34, 3), (142, .aload_n 0, 1), (143, .getfield 52, 3)]
def hb_c226_2 : List (Nat × Instr × Nat) := [(146, .iload 9, 2), (148, .iaload, 1), (149, .aload_n 0, 1), (150, .getfield 7, 3), (153, .iconst 0, 1), (154, .iaload, 1), (155, .iload_n 2, 1), (156, .iload 9, 2), (158, .iconst 1, 1), (159, .iadd, 1), (160, .imul, 1), (161, .iadd, 1), (162, .iastore, 1), (163, .iinc 9 1, 3), (166, .goto (-35), 3), (169, .aload_n 0, 1), (170, .invokevirtual 170, 3), (173, .aload_n 0, 1), (174, .invokevirtual 173, 3), (177, .istore 9, 2), (179, .iconst 0, 1), (180, .istore 10, 2), (182, .iload 10, 2), (184, .iload 4, 2), (186, .if_icmp .ge 30, 3), (189, .iload 9, 2), (191, .iload 7, 2), (193, .if_icmp .le 23, 3), (196, .aload_n 0, 1), (197, .getfield 55, 3), (200, .iload 10, 2), (202, .aload_n 0, 1), (203, .getfield 52, 3), (206, .iload 10, 2), (208, .iaload, 1), (209, .iastore, 1), (210, .iinc 10 1, 3), (213, .goto (-31), 3), (216, .iload 9, 2), (218, .iload 7, 2)]
def hb_c226_3 : List (Nat × Instr × Nat) := [(220, .if_icmp .le 8, 3), (223, .iload 9, 2), (225, .goto 5, 3), (228, .iload 7, 2), (230, .istore 7, 2), (232, .iinc 8 1, 3), (235, .goto (-126), 3), (238, .iload_n 3, 1), (239, .ifCond .ge 8, 3), (242, .iload 7, 2), (244, .goto 20, 3), (247, .iload_n 3, 1), (248, .iload 4, 2), (250, .if_icmp .ge 12, 3), (253, .aload_n 0, 1), (254, .getfield 55, 3), (257, .iload_n 3, 1), (258, .iaload, 1), (259, .goto 5, 3), (262, .bipush (-3), 2), (264, .ireturn, 1)]
def hb_m226 : px_M := (hb_h226, hb_c226_0 ++ (hb_c226_1 ++ (hb_c226_2 ++ (hb_c226_3))), hb_L12)
def hb_c227_0 : List (Nat × Instr × Nat) := [(0, .iload_n 1, 1), (1, .iconst 0, 1), (2, .sipush 9999, 3), (5, .invokestatic 91, 3), (8, .ifCond .eq 48, 3), (11, .iload_n 2, 1), (12, .iconst 1, 1), (13, .bipush 40, 2), (15, .invokestatic 91, 3), (18, .ifCond .eq 38, 3), (21, .iload_n 3, 1), (22, .iconst 0, 1), (23, .ldc 193, 2), (25, .invokestatic 91, 3), (28, .ifCond .eq 28, 3), (31, .iload_n 3, 1), (32, .sipush 1000, 3), (35, .irem, 1), (36, .iload_n 3, 1), (37, .sipush 1000, 3), (40, .idiv, 1), (41, .if_icmp .lt 15, 3), (44, .iload 4, 2), (46, .iconst 0, 1), (47, .sipush 200, 3), (50, .invokestatic 91, 3), (53, .ifCond .ne 5, 3), (56, .iconst (-1), 1), (57, .ireturn, 1), (58, .aload_n 0, 1), (59, .getfield 7, 3), (62, .bipush 6, 2), (64, .iaload, 1), (65, .bipush 6, 2), (67, .if_icmp .ne 6, 3), (70, .bipush (-2), 2), (72, .ireturn, 1), (73, .sipush 248, 3), (76, .bipush 6, 2), (78, .aload_n 0, 1)]
def hb_c227_1 : List (Nat × Instr × Nat) := [(79, .getfield 7, 3), (82, .bipush 6, 2), (84, .iaload, 1), (85, .imul, 1), (86, .iadd, 1), (87, .istore 5, 2), (89, .aload_n 0, 1), (90, .getfield 7, 3), (93, .iload 5, 2), (95, .iload_n 1, 1), (96, .bipush 100, 2), (98, .idiv, 1), (99, .iastore, 1), (100, .aload_n 0, 1), (101, .getfield 7, 3), (104, .iload 5, 2), (106, .iconst 1, 1), (107, .iadd, 1), (108, .iload_n 1, 1), (109, .bipush 100, 2), (111, .irem, 1), (112, .iastore, 1), (113, .aload_n 0, 1), (114, .getfield 7, 3), (117, .iload 5, 2), (119, .iconst 2, 1), (120, .iadd, 1), (121, .iload_n 2, 1), (122, .iastore, 1), (123, .aload_n 0, 1), (124, .getfield 7, 3), (127, .iload 5, 2), (129, .iconst 3, 1), (130, .iadd, 1), (131, .iload_n 3, 1), (132, .sipush 1000, 3), (135, .idiv, 1), (136, .iastore, 1), (137, .aload_n 0, 1), (138, .getfield 7, 3)]
def hb_c227_2 : List (Nat × Instr × Nat) := [(141, .iload 5, 2), (143, .iconst 4, 1), (144, .iadd, 1), (145, .iload_n 3, 1), (146, .sipush 1000, 3), (149, .irem, 1), (150, .iastore, 1), (151, .aload_n 0, 1), (152, .getfield 7, 3), (155, .iload 5, 2), (157, .iconst 5, 1), (158, .iadd, 1), (159, .iload 4, 2), (161, .iastore, 1), (162, .aload_n 0, 1), (163, .getfield 7, 3), (166, .bipush 6, 2), (168, .dup2, 1), (169, .iaload, 1), (170, .iconst 1, 1), (171, .iadd, 1), (172, .iastore, 1), (173, .aload_n 0, 1), (174, .getfield 7, 3), (177, .bipush 6, 2), (179, .iaload, 1), (180, .iconst 1, 1), (181, .isub, 1), (182, .ireturn, 1)]
def hb_m227 : px_M := (hb_h227, hb_c227_0 ++ (hb_c227_1 ++ (hb_c227_2)), hb_L12)
def hb_c228_0 : List (Nat × Instr × Nat) := [(0, .iload_n 1, 1), (1, .iconst 0, 1), (2, .aload_n 0, 1), (3, .getfield 7, 3), (6, .bipush 6, 2), (8, .iaload, 1), (9, .iconst 1, 1), (10, .isub, 1), (11, .invokestatic 91, 3), (14, .ireturn, 1)]
def hb_m228 : px_M := (hb_h228, hb_c228_0, hb_L12)
def hb_c229_0 : List (Nat × Instr × Nat) := [(0, .aload_n 0, 1), (1, .getfield 7, 3), (4, .sipush 248, 3), (7, .bipush 6, 2), (9, .iload_n 1, 1), (10, .imul, 1), (11, .iadd, 1), (12, .iaload, 1), (13, .bipush 50, 2), (15, .isub, 1), (16, .istore_n 2, 1), (17, .aload_n 0, 1), (18, .getfield 7, 3), (21, .sipush 248, 3), (24, .bipush 6, 2), (26, .iload_n 1, 1), (27, .imul, 1), (28, .iadd, 1), (29, .iconst 1, 1), (30, .iadd, 1), (31, .iaload, 1), (32, .bipush 50, 2), (34, .isub, 1), (35, .istore_n 3, 1), (36, .iload_n 2, 1), (37, .ifCond .ge 8, 3), (40, .iload_n 2, 1), (41, .ineg, 1), (42, .goto 4, 3), (45, .iload_n 2, 1), (46, .iload_n 3, 1), (47, .ifCond .ge 8, 3), (50, .iload_n 3, 1), (51, .ineg, 1), (52, .goto 4, 3), (55, .iload_n 3, 1), (56, .iadd, 1), (57, .ireturn, 1)]
def hb_m229 : px_M := (hb_h229, hb_c229_0, hb_L12)
def hb_c230_0 : List (Nat × Instr × Nat) := [(0, .iload_n 1, 1), (1, .iconst 0, 1), (2, .bipush 60, 2), (4, .invokestatic 91, 3), (7, .ifCond .ne 5, 3), (10, .iconst (-1), 1), (11, .ireturn, 1), (12, .aload_n 0, 1), (13, .getfield 7, 3), (16, .bipush 12, 2), (18, .iaload, 1), (19, .istore_n 2, 1), (20, .aload_n 0, 1), (21, .getfield 7, 3), (24, .bipush 12, 2), (26, .iload_n 1, 1), (27, .iastore, 1), (28, .iload_n 2, 1), (29, .ireturn, 1)]
def hb_m230 : px_M := (hb_h230, hb_c230_0, hb_L12)
def hb_c231_0 : List (Nat × Instr × Nat) := [(0, .iload_n 1, 1), (1, .invokestatic 152, 3), (4, .ifCond .ne 5, 3), (7, .iconst (-1), 1), (8, .ireturn, 1), (9, .aload_n 0, 1), (10, .getfield 7, 3), (13, .bipush 7, 2), (15, .iaload, 1), (16, .bipush 10, 2), (18, .if_icmp .ne 6, 3), (21, .bipush (-2), 2), (23, .ireturn, 1), (24, .aload_n 0, 1), (25, .getfield 7, 3), (28, .sipush 284, 3), (31, .aload_n 0, 1), (32, .getfield 7, 3), (35, .bipush 7, 2), (37, .iaload, 1), (38, .iadd, 1), (39, .iload_n 1, 1), (40, .iastore, 1), (41, .aload_n 0, 1), (42, .getfield 7, 3), (45, .bipush 7, 2), (47, .dup2, 1), (48, .iaload, 1), (49, .iconst 1, 1), (50, .iadd, 1), (51, .iastore, 1), (52, .aload_n 0, 1), (53, .getfield 7, 3), (56, .bipush 7, 2), (58, .iaload, 1), (59, .iconst 1, 1), (60, .isub, 1), (61, .ireturn, 1)]
def hb_m231 : px_M := (hb_h231, hb_c231_0, hb_L12)
def hb_c232_0 : List (Nat × Instr × Nat) := [(0, .sipush 248, 3), (3, .bipush 6, 2), (5, .iload_n 1, 1), (6, .imul, 1), (7, .iadd, 1), (8, .istore_n 3, 1), (9, .iload_n 2, 1), (10, .aload_n 0, 1), (11, .getfield 7, 3), (14, .iload_n 3, 1), (15, .iconst 3, 1), (16, .iadd, 1), (17, .iaload, 1), (18, .aload_n 0, 1), (19, .getfield 7, 3), (22, .iload_n 3, 1), (23, .iconst 4, 1), (24, .iadd, 1), (25, .iaload, 1), (26, .invokestatic 91, 3), (29, .ifCond .eq 23, 3), (32, .aload_n 0, 1), (33, .iload_n 1, 1), (34, .invokevirtual 194, 3), (37, .aload_n 0, 1), (38, .getfield 7, 3), (41, .iload_n 3, 1), (42, .iconst 5, 1), (43, .iadd, 1), (44, .iaload, 1), (45, .if_icmp .gt 7, 3), (48, .iconst 1, 1), (49, .goto 4, 3), (52, .iconst 0, 1), (53, .ireturn, 1)]
def hb_m232 : px_M := (hb_h232, hb_c232_0, hb_L12)
def hb_c233_0 : List (Nat × Instr × Nat) := [(0, .iload_n 1, 1), (1, .iconst 0, 1), (2, .aload_n 0, 1), (3, .getfield 7, 3), (6, .bipush 7, 2), (8, .iaload, 1), (9, .iconst 1, 1), (10, .isub, 1), (11, .invokestatic 91, 3), (14, .ifCond .ne 5, 3), (17, .iconst (-1), 1), (18, .ireturn, 1), (19, .iconst 0, 1), (20, .istore_n 2, 1), (21, .iconst 0, 1), (22, .istore_n 3, 1), (23, .iload_n 3, 1), (24, .aload_n 0, 1), (25, .getfield 7, 3), (28, .bipush 6, 2), (30, .iaload, 1), (31, .if_icmp .ge 37, 3), (34, .iload_n 2, 1), (35, .aload_n 0, 1), (36, .iload_n 3, 1), (37, .aload_n 0, 1), (38, .getfield 7, 3), (41, .sipush 284, 3), (44, .iload_n 1, 1), (45, .iadd, 1), (46, .iaload, 1), (47, .invokevirtual 197, 3), (50, .ifCond .eq 9, 3), (53, .iconst 1, 1), (54, .iload_n 3, 1), (55, .ishl, 1), (56, .goto 4, 3), (59, .iconst 0, 1), (60, .ior, 1), (61, .istore_n 2, 1)]
def hb_c233_1 : List (Nat × Instr × Nat) := [(62, .iinc 3 1, 3), (65, .goto (-42), 3), (68, .iload_n 2, 1), (69, .ireturn, 1)]
def hb_m233 : px_M := (hb_h233, hb_c233_0 ++ (hb_c233_1), hb_L12)
def hb_c234_0 : List (Nat × Instr × Nat) := [(0, .ldc 155, 2), (2, .istore_n 2, 1), (3, .iconst 0, 1), (4, .istore_n 3, 1), (5, .iload_n 3, 1), (6, .aload_n 0, 1), (7, .getfield 7, 3), (10, .bipush 7, 2), (12, .iaload, 1), (13, .if_icmp .ge 44, 3), (16, .aload_n 0, 1), (17, .getfield 7, 3), (20, .sipush 284, 3), (23, .iload_n 3, 1), (24, .iadd, 1), (25, .iaload, 1), (26, .istore 4, 2), (28, .aload_n 0, 1), (29, .iload_n 1, 1), (30, .iload 4, 2), (32, .invokevirtual 197, 3), (35, .ifCond .eq 14, 3), (38, .iload 4, 2), (40, .iload_n 2, 1), (41, .if_icmp .ge 8, 3), (44, .iload 4, 2), (46, .goto 4, 3), (49, .iload_n 2, 1), (50, .istore_n 2, 1), (51, .iinc 3 1, 3), (54, .goto (-49), 3), (57, .iload_n 2, 1), (58, .ireturn, 1)]
def hb_m234 : px_M := (hb_h234, hb_c234_0, hb_L12)
def hb_c235_0 : List (Nat × Instr × Nat) := [(0, .aload_n 0, 1), (1, .iload_n 1, 1), (2, .invokevirtual 200, 3), (5, .ifCond .ne 5, 3), (8, .iconst (-1), 1), (9, .ireturn, 1), (10, .aload_n 0, 1), (11, .iload_n 1, 1), (12, .invokevirtual 203, 3), (15, .istore_n 2, 1), (16, .aload_n 0, 1), (17, .getfield 7, 3), (20, .sipush 248, 3), (23, .bipush 6, 2), (25, .iload_n 1, 1), (26, .imul, 1), (27, .iadd, 1), (28, .iconst 2, 1), (29, .iadd, 1), (30, .iaload, 1), (31, .istore_n 3, 1), (32, .iload_n 2, 1), (33, .ldc 155, 2), (35, .if_icmp .ne 8, 3), (38, .bipush (-3), 2), (40, .goto 27, 3), (43, .iload_n 2, 1), (44, .aload_n 0, 1), (45, .getfield 7, 3), (48, .bipush 12, 2), (50, .iaload, 1), (51, .iadd, 1), (52, .bipush 10, 2), (54, .aload_n 0, 1), (55, .iload_n 1, 1), (56, .invokevirtual 194, 3), (59, .imul, 1), (60, .iload_n 3, 1), (61, .iadd, 1), (62, .iconst 1, 1)]
def hb_c235_1 : List (Nat × Instr × Nat) := [(63, .isub, 1), (64, .iload_n 3, 1), (65, .idiv, 1), (66, .iadd, 1), (67, .ireturn, 1)]
def hb_m235 : px_M := (hb_h235, hb_c235_0 ++ (hb_c235_1), hb_L12)
def hb_c236_0 : List (Nat × Instr × Nat) := [(0, .iload_n 1, 1), (1, .invokestatic 152, 3), (4, .ifCond .eq 25, 3), (7, .iload_n 2, 1), (8, .iconst 0, 1), (9, .sipush 200, 3), (12, .invokestatic 91, 3), (15, .ifCond .eq 14, 3), (18, .iload_n 3, 1), (19, .iload_n 2, 1), (20, .sipush 200, 3), (23, .invokestatic 91, 3), (26, .ifCond .ne 5, 3), (29, .iconst (-1), 1), (30, .ireturn, 1), (31, .aload_n 0, 1), (32, .getfield 7, 3), (35, .bipush 8, 2), (37, .iaload, 1), (38, .bipush 8, 2), (40, .if_icmp .ne 6, 3), (43, .bipush (-2), 2), (45, .ireturn, 1), (46, .sipush 294, 3), (49, .iconst 3, 1), (50, .aload_n 0, 1), (51, .getfield 7, 3), (54, .bipush 8, 2), (56, .iaload, 1), (57, .imul, 1), (58, .iadd, 1), (59, .istore 4, 2), (61, .aload_n 0, 1), (62, .getfield 7, 3), (65, .iload 4, 2), (67, .iload_n 1, 1), (68, .iastore, 1), (69, .aload_n 0, 1), (70, .getfield 7, 3), (73, .iload 4, 2)]
def hb_c236_1 : List (Nat × Instr × Nat) := [(75, .iconst 1, 1), (76, .iadd, 1), (77, .iload_n 2, 1), (78, .iastore, 1), (79, .aload_n 0, 1), (80, .getfield 7, 3), (83, .iload 4, 2), (85, .iconst 2, 1), (86, .iadd, 1), (87, .iload_n 3, 1), (88, .iastore, 1), (89, .aload_n 0, 1), (90, .getfield 7, 3), (93, .bipush 8, 2), (95, .dup2, 1), (96, .iaload, 1), (97, .iconst 1, 1), (98, .iadd, 1), (99, .iastore, 1), (100, .aload_n 0, 1), (101, .getfield 7, 3), (104, .bipush 8, 2), (106, .iaload, 1), (107, .iconst 1, 1), (108, .isub, 1), (109, .ireturn, 1)]
def hb_m236 : px_M := (hb_h236, hb_c236_0 ++ (hb_c236_1), hb_L12)
def hb_c237_0 : List (Nat × Instr × Nat) := [(0, .iload_n 1, 1), (1, .iconst 0, 1), (2, .aload_n 0, 1), (3, .getfield 7, 3), (6, .bipush 8, 2), (8, .iaload, 1), (9, .iconst 1, 1), (10, .isub, 1), (11, .invokestatic 91, 3), (14, .ireturn, 1)]
def hb_m237 : px_M := (hb_h237, hb_c237_0, hb_L12)
def hb_c238_0 : List (Nat × Instr × Nat) := [(0, .iconst 0, 1), (1, .istore_n 2, 1), (2, .iconst 0, 1), (3, .istore_n 3, 1), (4, .iload_n 3, 1), (5, .aload_n 0, 1), (6, .getfield 7, 3), (9, .bipush 6, 2), (11, .iaload, 1), (12, .if_icmp .ge 134, 3), (15, .aload_n 0, 1), (16, .getfield 7, 3), (19, .sipush 294, 3), (22, .iconst 3, 1), (23, .iload_n 1, 1), (24, .imul, 1), (25, .iadd, 1), (26, .iaload, 1), (27, .aload_n 0, 1), (28, .iload_n 3, 1), (29, .invokevirtual 203, 3), (32, .isub, 1), (33, .aload_n 0, 1), (34, .getfield 7, 3), (37, .bipush 12, 2), (39, .iaload, 1), (40, .isub, 1), (41, .istore 4, 2), (43, .aload_n 0, 1), (44, .iload_n 3, 1), (45, .invokevirtual 194, 3), (48, .iload 4, 2), (50, .ifCond .le 27, 3), (53, .aload_n 0, 1), (54, .getfield 7, 3), (57, .sipush 248, 3), (60, .bipush 6, 2), (62, .iload_n 3, 1), (63, .imul, 1), (64, .iadd, 1)]
def hb_c238_1 : List (Nat × Instr × Nat) := [(65, .iconst 2, 1), (66, .iadd, 1), (67, .iaload, 1), (68, .iload 4, 2), (70, .imul, 1), (71, .bipush 10, 2), (73, .idiv, 1), (74, .goto 4, 3), (77, .iconst 0, 1), (78, .isub, 1), (79, .istore 5, 2), (81, .iload 5, 2), (83, .ifCond .ge 7, 3), (86, .iconst 0, 1), (87, .goto 5, 3), (90, .iload 5, 2), (92, .istore 5, 2), (94, .iload_n 2, 1), (95, .iload 5, 2), (97, .aload_n 0, 1), (98, .getfield 7, 3), (101, .sipush 294, 3), (104, .iconst 3, 1), (105, .iload_n 1, 1), (106, .imul, 1), (107, .iadd, 1), (108, .iconst 1, 1), (109, .iadd, 1), (110, .iaload, 1), (111, .aload_n 0, 1), (112, .getfield 7, 3), (115, .sipush 294, 3), (118, .iconst 3, 1), (119, .iload_n 1, 1), (120, .imul, 1), (121, .iadd, 1), (122, .iconst 2, 1), (123, .iadd, 1), (124, .iaload, 1), (125, .invokestatic 91, 3)]
def hb_c238_2 : List (Nat × Instr × Nat) := [(128, .ifCond .eq 9, 3), (131, .iconst 1, 1), (132, .iload_n 3, 1), (133, .ishl, 1), (134, .goto 4, 3), (137, .iconst 0, 1), (138, .ior, 1), (139, .istore_n 2, 1), (140, .iinc 3 1, 3), (143, .goto (-139), 3), (146, .iload_n 2, 1), (147, .ireturn, 1)]
def hb_m238 : px_M := (hb_h238, hb_c238_0 ++ (hb_c238_1 ++ (hb_c238_2)), hb_L12)
def hb_c239_0 : List (Nat × Instr × Nat) := [(0, .aload_n 0, 1), (1, .iload_n 1, 1), (2, .invokevirtual 206, 3), (5, .ifCond .eq 11, 3), (8, .aload_n 0, 1), (9, .iload_n 1, 1), (10, .invokevirtual 209, 3), (13, .goto 4, 3), (16, .iconst (-1), 1), (17, .ireturn, 1)]
def hb_m239 : px_M := (hb_h239, hb_c239_0, hb_L12)
def hb_c240_0 : List (Nat × Instr × Nat) := [(0, .aload_n 0, 1), (1, .iload_n 1, 1), (2, .invokevirtual 206, 3), (5, .ifCond .ne 5, 3), (8, .iconst (-1), 1), (9, .ireturn, 1), (10, .aload_n 0, 1), (11, .iload_n 1, 1), (12, .invokevirtual 209, 3), (15, .istore_n 2, 1), (16, .iload_n 2, 1), (17, .invokestatic 133, 3), (20, .iconst 1, 1), (21, .if_icmp .eq 6, 3), (24, .bipush (-3), 2), (26, .ireturn, 1), (27, .iconst 0, 1), (28, .istore_n 3, 1), (29, .iload_n 2, 1), (30, .iload_n 3, 1), (31, .ishr, 1), (32, .iconst 1, 1), (33, .if_icmp .eq 9, 3), (36, .iinc 3 1, 3), (39, .goto (-10), 3), (42, .iload_n 3, 1), (43, .ireturn, 1)]
def hb_m240 : px_M := (hb_h240, hb_c240_0, hb_L12)
def hb_c241_0 : List (Nat × Instr × Nat) := [(0, .iload_n 1, 1), (1, .iconst 0, 1), (2, .iconst 2, 1), (3, .invokestatic 91, 3), (6, .ifCond .eq 14, 3), (9, .iload_n 2, 1), (10, .ifCond .lt 10, 3), (13, .iload_n 2, 1), (14, .bipush 30, 2), (16, .ishr, 1), (17, .ifCond .eq 5, 3), (20, .iconst (-1), 1), (21, .ireturn, 1), (22, .aload_n 0, 1), (23, .getfield 7, 3), (26, .bipush 13, 2), (28, .iload_n 1, 1), (29, .iadd, 1), (30, .iaload, 1), (31, .istore_n 3, 1), (32, .aload_n 0, 1), (33, .getfield 7, 3), (36, .bipush 13, 2), (38, .iload_n 1, 1), (39, .iadd, 1), (40, .iload_n 2, 1), (41, .iastore, 1), (42, .iload_n 3, 1), (43, .ireturn, 1)]
def hb_m241 : px_M := (hb_h241, hb_c241_0, hb_L12)
def hb_c242_0 : List (Nat × Instr × Nat) := [(0, .iload_n 1, 1), (1, .iconst 0, 1), (2, .iconst 1, 1), (3, .invokestatic 91, 3), (6, .ifCond .ne 5, 3), (9, .iconst (-1), 1), (10, .ireturn, 1), (11, .aload_n 0, 1), (12, .getfield 7, 3), (15, .bipush 13, 2), (17, .iaload, 1), (18, .istore_n 2, 1), (19, .aload_n 0, 1), (20, .getfield 7, 3), (23, .bipush 14, 2), (25, .iaload, 1), (26, .istore_n 3, 1), (27, .aload_n 0, 1), (28, .getfield 7, 3), (31, .bipush 15, 2), (33, .iaload, 1), (34, .istore 4, 2), (36, .iload_n 2, 1), (37, .iload_n 3, 1), (38, .iand, 1), (39, .iload_n 2, 1), (40, .iload 4, 2), (42, .iand, 1), (43, .ior, 1), (44, .iload_n 3, 1), (45, .iload 4, 2), (47, .iand, 1), (48, .ior, 1), (49, .istore 5, 2), (51, .iload_n 1, 1), (52, .ifCond .ne 8, 3), (55, .iload 5, 2), (57, .goto 14, 3), (60, .iload_n 2, 1), (61, .iload_n 3, 1)]
def hb_c242_1 : List (Nat × Instr × Nat) := [(62, .ior, 1), (63, .iload 4, 2), (65, .ior, 1), (66, .iload 5, 2), (68, .iconst (-1), 1), (69, .ixor, 1), (70, .iand, 1), (71, .ireturn, 1)]
def hb_m242 : px_M := (hb_h242, hb_c242_0 ++ (hb_c242_1), hb_L12)
def hb_c243_0 : List (Nat × Instr × Nat) := [(0, .iload_n 1, 1), (1, .ifCond .lt 15, 3), (4, .iload_n 1, 1), (5, .aload_n 0, 1), (6, .getfield 7, 3), (9, .bipush 9, 2), (11, .iaload, 1), (12, .ishr, 1), (13, .ifCond .eq 5, 3), (16, .iconst (-1), 1), (17, .ireturn, 1), (18, .aload_n 0, 1), (19, .getfield 7, 3), (22, .bipush 9, 2), (24, .iaload, 1), (25, .bipush 12, 2), (27, .if_icmp .ne 6, 3), (30, .bipush (-2), 2), (32, .ireturn, 1), (33, .sipush 318, 3), (36, .iconst 3, 1), (37, .aload_n 0, 1), (38, .getfield 7, 3), (41, .bipush 9, 2), (43, .iaload, 1), (44, .imul, 1), (45, .iadd, 1), (46, .istore_n 2, 1), (47, .aload_n 0, 1), (48, .getfield 7, 3), (51, .iload_n 2, 1), (52, .aload_n 0, 1), (53, .getfield 7, 3), (56, .iconst 0, 1), (57, .iaload, 1), (58, .iastore, 1), (59, .aload_n 0, 1), (60, .getfield 7, 3), (63, .iload_n 2, 1), (64, .iconst 1, 1)]
def hb_c243_1 : List (Nat × Instr × Nat) := [(65, .iadd, 1), (66, .iload_n 1, 1), (67, .iastore, 1), (68, .aload_n 0, 1), (69, .getfield 7, 3), (72, .iload_n 2, 1), (73, .iconst 2, 1), (74, .iadd, 1), (75, .iconst (-1), 1), (76, .iastore, 1), (77, .aload_n 0, 1), (78, .getfield 7, 3), (81, .bipush 9, 2), (83, .dup2, 1), (84, .iaload, 1), (85, .iconst 1, 1), (86, .iadd, 1), (87, .iastore, 1), (88, .aload_n 0, 1), (89, .getfield 7, 3), (92, .bipush 9, 2), (94, .iaload, 1), (95, .iconst 1, 1), (96, .isub, 1), (97, .ireturn, 1)]
def hb_m243 : px_M := (hb_h243, hb_c243_0 ++ (hb_c243_1), hb_L12)
def hb_c244_0 : List (Nat × Instr × Nat) := [(0, .iconst 0, 1), (1, .istore_n 2, 1), (2, .iconst 0, 1), (3, .istore_n 3, 1), (4, .iload_n 3, 1), (5, .aload_n 0, 1), (6, .getfield 7, 3), (9, .bipush 9, 2), (11, .iaload, 1), (12, .if_icmp .ge 92, 3), (15, .sipush 318, 3), (18, .iconst 3, 1), (19, .iload_n 3, 1), (20, .imul, 1), (21, .iadd, 1), (22, .istore 4, 2), (24, .aload_n 0, 1), (25, .getfield 7, 3), (28, .iload 4, 2), (30, .iaload, 1), (31, .iload_n 1, 1), (32, .if_icmp .gt 48, 3), (35, .aload_n 0, 1), (36, .getfield 7, 3), (39, .iload 4, 2), (41, .iconst 2, 1), (42, .iadd, 1), (43, .iaload, 1), (44, .ifCond .lt 16, 3), (47, .aload_n 0, 1), (48, .getfield 7, 3), (51, .iload 4, 2), (53, .iconst 2, 1), (54, .iadd, 1), (55, .iaload, 1), (56, .iload_n 1, 1), (57, .if_icmp .le 23, 3), (60, .aload_n 0, 1), (61, .getfield 7, 3), (64, .iload 4, 2)]
def hb_c244_1 : List (Nat × Instr × Nat) := [(66, .iconst 1, 1), (67, .iadd, 1), (68, .iaload, 1), (69, .iload_n 2, 1), (70, .iconst (-1), 1), (71, .ixor, 1), (72, .iand, 1), (73, .ifCond .ne 7, 3), (76, .iconst 1, 1), (77, .goto 4, 3), (80, .iconst 0, 1), (81, .istore 5, 2), (83, .iload_n 2, 1), (84, .iload 5, 2), (86, .ifCond .eq 9, 3), (89, .iconst 1, 1), (90, .iload_n 3, 1), (91, .ishl, 1), (92, .goto 4, 3), (95, .iconst 0, 1), (96, .ior, 1), (97, .istore_n 2, 1), (98, .iinc 3 1, 3), (101, .goto (-97), 3), (104, .iload_n 2, 1), (105, .ireturn, 1)]
def hb_m244 : px_M := (hb_h244, hb_c244_0 ++ (hb_c244_1), hb_L12)
def hb_c245_0 : List (Nat × Instr × Nat) := [(0, .iload_n 1, 1), (1, .iconst 0, 1), (2, .aload_n 0, 1), (3, .getfield 7, 3), (6, .bipush 9, 2), (8, .iaload, 1), (9, .iconst 1, 1), (10, .isub, 1), (11, .invokestatic 91, 3), (14, .ifCond .ne 5, 3), (17, .iconst (-1), 1), (18, .ireturn, 1), (19, .aload_n 0, 1), (20, .getfield 7, 3), (23, .sipush 318, 3), (26, .iconst 3, 1), (27, .iload_n 1, 1), (28, .imul, 1), (29, .iadd, 1), (30, .iconst 2, 1), (31, .iadd, 1), (32, .iaload, 1), (33, .ifCond .lt 6, 3), (36, .bipush (-4), 2), (38, .ireturn, 1), (39, .aload_n 0, 1), (40, .getfield 7, 3), (43, .sipush 318, 3), (46, .iconst 3, 1), (47, .iload_n 1, 1), (48, .imul, 1), (49, .iadd, 1), (50, .iconst 2, 1), (51, .iadd, 1), (52, .aload_n 0, 1), (53, .getfield 7, 3), (56, .iconst 0, 1), (57, .iaload, 1), (58, .iastore, 1), (59, .aload_n 0, 1)]
def hb_c245_1 : List (Nat × Instr × Nat) := [(60, .aload_n 0, 1), (61, .getfield 7, 3), (64, .iconst 0, 1), (65, .iaload, 1), (66, .invokevirtual 212, 3), (69, .invokestatic 133, 3), (72, .ireturn, 1)]
def hb_m245 : px_M := (hb_h245, hb_c245_0 ++ (hb_c245_1), hb_L12)
def hb_c246_0 : List (Nat × Instr × Nat) := [(0, .iload_n 1, 1), (1, .invokestatic 152, 3), (4, .ifCond .eq 11, 3), (7, .aload_n 0, 1), (8, .iload_n 1, 1), (9, .invokevirtual 212, 3), (12, .goto 4, 3), (15, .iconst (-1), 1), (16, .ireturn, 1)]
def hb_m246 : px_M := (hb_h246, hb_c246_0, hb_L12)
def hb_c247_0 : List (Nat × Instr × Nat) := [(0, .iload_n 3, 1), (1, .iconst 1, 1), (2, .bipush 8, 2), (4, .invokestatic 91, 3), (7, .ifCond .ne 5, 3), (10, .iconst (-1), 1), (11, .ireturn, 1), (12, .aload_n 0, 1), (13, .getfield 215, 3), (16, .iload_n 3, 1), (17, .iadd, 1), (18, .sipush 200, 3), (21, .if_icmp .le 6, 3), (24, .bipush (-2), 2), (26, .ireturn, 1), (27, .iconst 0, 1), (28, .istore 4, 2), (30, .iload 4, 2), (32, .iload_n 3, 1), (33, .if_icmp .ge 40, 3), (36, .aload_n 0, 1), (37, .getfield 16, 3), (40, .aload_n 0, 1), (41, .getfield 215, 3), (44, .lload_n 1, 1), (45, .bipush 8, 2), (47, .iload 4, 2), (49, .imul, 1), (50, .lshr, 1), (51, .ldc2_w 218, 3), (54, .land, 1), (55, .l2i, 1), (56, .iastore, 1), (57, .aload_n 0, 1), (58, .dup, 1), (59, .getfield 215, 3), (62, .iconst 1, 1), (63, .iadd, 1), (64, .putfield 215, 3), (67, .iinc 4 1, 3)]
def hb_c247_1 : List (Nat × Instr × Nat) := [(70, .goto (-40), 3), (73, .aload_n 0, 1), (74, .getfield 215, 3), (77, .ireturn, 1)]
def hb_m247 : px_M := (hb_h247, hb_c247_0 ++ (hb_c247_1), hb_L12)
def hb_c248_0 : List (Nat × Instr × Nat) := [(0, .iload_n 1, 1), (1, .aload_n 0, 1), (2, .getfield 220, 3), (5, .if_icmp .lt 7, 3), (8, .iconst (-1), 1), (9, .goto 30, 3), (12, .aload_n 0, 1), (13, .getfield 223, 3), (16, .ifCond .ge 12, 3), (19, .aload_n 0, 1), (20, .getfield 16, 3), (23, .iload_n 1, 1), (24, .iaload, 1), (25, .goto 14, 3), (28, .aload_n 0, 1), (29, .getfield 7, 3), (32, .aload_n 0, 1), (33, .getfield 223, 3), (36, .iload_n 1, 1), (37, .iadd, 1), (38, .iaload, 1), (39, .ireturn, 1)]
def hb_m248 : px_M := (hb_h248, hb_c248_0, hb_L12)
def hb_c249_0 : List (Nat × Instr × Nat) := [(0, .aload_n 0, 1), (1, .aload_n 0, 1), (2, .getfield 226, 3), (5, .invokevirtual 229, 3), (8, .bipush 32, 2), (10, .if_icmp .ne 16, 3), (13, .aload_n 0, 1), (14, .dup, 1), (15, .getfield 226, 3), (18, .iconst 1, 1), (19, .iadd, 1), (20, .putfield 226, 3), (23, .goto (-23), 3), (26, .aload_n 0, 1), (27, .aload_n 0, 1), (28, .getfield 226, 3), (31, .putfield 232, 3), (34, .aload_n 0, 1), (35, .aload_n 0, 1), (36, .getfield 226, 3), (39, .invokevirtual 229, 3), (42, .istore_n 1, 1), (43, .iload_n 1, 1), (44, .ifCond .ge 11, 3), (47, .aload_n 0, 1), (48, .iconst 0, 1), (49, .putfield 235, 3), (52, .goto 222, 3), (55, .iload_n 1, 1), (56, .bipush 48, 2), (58, .bipush 57, 2), (60, .invokestatic 91, 3), (63, .ifCond .eq 107, 3), (66, .aload_n 0, 1), (67, .iconst 0, 1), (68, .putfield 238, 3), (71, .aload_n 0, 1), (72, .aload_n 0, 1), (73, .getfield 226, 3), (76, .invokevirtual 229, 3)]
def hb_c249_1 : List (Nat × Instr × Nat) := [(79, .bipush 48, 2), (81, .bipush 57, 2), (83, .invokestatic 91, 3), (86, .ifCond .eq 59, 3), (89, .aload_n 0, 1), (90, .aload_n 0, 1), (91, .getfield 226, 3), (94, .aload_n 0, 1), (95, .getfield 232, 3), (98, .isub, 1), (99, .iconst 3, 1), (100, .if_icmp .ge 25, 3), (103, .bipush 10, 2), (105, .aload_n 0, 1), (106, .getfield 238, 3), (109, .imul, 1), (110, .aload_n 0, 1), (111, .aload_n 0, 1), (112, .getfield 226, 3), (115, .invokevirtual 229, 3), (118, .iadd, 1), (119, .bipush 48, 2), (121, .isub, 1), (122, .goto 7, 3), (125, .aload_n 0, 1), (126, .getfield 238, 3), (129, .putfield 238, 3), (132, .aload_n 0, 1), (133, .dup, 1), (134, .getfield 226, 3), (137, .iconst 1, 1), (138, .iadd, 1), (139, .putfield 226, 3), (142, .goto (-71), 3), (145, .aload_n 0, 1), (146, .aload_n 0, 1), (147, .getfield 226, 3), (150, .aload_n 0, 1), (151, .getfield 232, 3), (154, .isub, 1)]
def hb_c249_2 : List (Nat × Instr × Nat) := [(155, .iconst 3, 1), (156, .if_icmp .le 7, 3), (159, .iconst 1, 1), (160, .goto 4, 3), (163, .iconst 3, 1), (164, .putfield 235, 3), (167, .goto 107, 3), (170, .iload_n 1, 1), (171, .bipush 97, 2), (173, .bipush 122, 2), (175, .invokestatic 91, 3), (178, .ifCond .eq 41, 3), (181, .aload_n 0, 1), (182, .aload_n 0, 1), (183, .getfield 226, 3), (186, .invokevirtual 229, 3), (189, .bipush 97, 2), (191, .bipush 122, 2), (193, .invokestatic 91, 3), (196, .ifCond .eq 16, 3), (199, .aload_n 0, 1), (200, .dup, 1), (201, .getfield 226, 3), (204, .iconst 1, 1), (205, .iadd, 1), (206, .putfield 226, 3), (209, .goto (-28), 3), (212, .aload_n 0, 1), (213, .invokevirtual 241, 3), (216, .goto 58, 3), (219, .aload_n 0, 1), (220, .dup, 1), (221, .getfield 226, 3), (224, .iconst 1, 1), (225, .iadd, 1), (226, .putfield 226, 3), (229, .aload_n 0, 1), (230, .iload_n 1, 1), (231, .bipush 59, 2), (233, .if_icmp .eq 33, 3)]
def hb_c249_3 : List (Nat × Instr × Nat) := [(236, .iload_n 1, 1), (237, .bipush 40, 2), (239, .if_icmp .eq 27, 3), (242, .iload_n 1, 1), (243, .bipush 41, 2), (245, .if_icmp .eq 21, 3), (248, .iload_n 1, 1), (249, .bipush 60, 2), (251, .if_icmp .eq 15, 3), (254, .iload_n 1, 1), (255, .bipush 61, 2), (257, .if_icmp .eq 9, 3), (260, .iload_n 1, 1), (261, .bipush 62, 2), (263, .if_icmp .ne 7, 3), (266, .iload_n 1, 1), (267, .goto 4, 3), (270, .iconst 1, 1), (271, .putfield 235, 3), (274, .return_, 1)]
def hb_m249 : px_M := (hb_h249, hb_c249_0 ++ (hb_c249_1 ++ (hb_c249_2 ++ (hb_c249_3))), hb_L12)
def hb_c250_0 : List (Nat × Instr × Nat) := [(0, .aload_n 0, 1), (1, .iconst 1, 1), (2, .putfield 235, 3), (5, .iconst 0, 1), (6, .istore_n 1, 1), (7, .aload_n 0, 1), (8, .getfield 232, 3), (11, .istore_n 2, 1), (12, .iconst 1, 1), (13, .istore_n 3, 1), (14, .iconst 0, 1), (15, .istore 4, 2), (17, .iload 4, 2), (19, .aload_n 0, 1), (20, .getfield 58, 3), (23, .arraylength, 1), (24, .if_icmp .ge 90, 3), (27, .aload_n 0, 1), (28, .getfield 58, 3), (31, .iload 4, 2), (33, .iaload, 1), (34, .ifCond .ne 38, 3), (37, .iload_n 3, 1), (38, .ifCond .eq 21, 3), (41, .iload_n 2, 1), (42, .aload_n 0, 1), (43, .getfield 226, 3), (46, .if_icmp .ne 13, 3), (49, .aload_n 0, 1), (50, .iconst 2, 1), (51, .putfield 235, 3), (54, .aload_n 0, 1), (55, .iload_n 1, 1), (56, .putfield 238, 3), (59, .iinc 1 1, 3), (62, .aload_n 0, 1), (63, .getfield 232, 3), (66, .istore_n 2, 1), (67, .iconst 1, 1), (68, .istore_n 3, 1)]
def hb_c250_1 : List (Nat × Instr × Nat) := [(69, .goto 39, 3), (72, .iload_n 3, 1), (73, .ifCond .eq 30, 3), (76, .iload_n 2, 1), (77, .aload_n 0, 1), (78, .getfield 226, 3), (81, .if_icmp .ge 22, 3), (84, .aload_n 0, 1), (85, .iload_n 2, 1), (86, .invokevirtual 229, 3), (89, .aload_n 0, 1), (90, .getfield 58, 3), (93, .iload 4, 2), (95, .iaload, 1), (96, .if_icmp .ne 7, 3), (99, .iconst 1, 1), (100, .goto 4, 3), (103, .iconst 0, 1), (104, .istore_n 3, 1), (105, .iinc 2 1, 3), (108, .iinc 4 1, 3), (111, .goto (-94), 3), (114, .return_, 1)]
def hb_m250 : px_M := (hb_h250, hb_c250_0 ++ (hb_c250_1), hb_L12)
def hb_c251_0 : List (Nat × Instr × Nat) := [(0, .aload_n 0, 1), (1, .aload_n 0, 1), (2, .getfield 244, 3), (5, .ifCond .ge 10, 3), (8, .aload_n 0, 1), (9, .getfield 232, 3), (12, .goto 7, 3), (15, .aload_n 0, 1), (16, .getfield 244, 3), (19, .putfield 244, 3), (22, .return_, 1)]
def hb_m251 : px_M := (hb_h251, hb_c251_0, hb_L12)
def hb_c252_0 : List (Nat × Instr × Nat) := [(0, .aload_n 0, 1), (1, .getfield 244, 3), (4, .ifCond .ge 27, 3), (7, .aload_n 0, 1), (8, .getfield 235, 3), (11, .iconst 2, 1), (12, .if_icmp .ne 19, 3), (15, .aload_n 0, 1), (16, .getfield 238, 3), (19, .iload_n 1, 1), (20, .iload_n 2, 1), (21, .invokestatic 91, 3), (24, .ifCond .eq 7, 3), (27, .iconst 1, 1), (28, .goto 4, 3), (31, .iconst 0, 1), (32, .ireturn, 1)]
def hb_m252 : px_M := (hb_h252, hb_c252_0, hb_L12)
def hb_c253_0 : List (Nat × Instr × Nat) := [(0, .aload_n 0, 1), (1, .iload_n 1, 1), (2, .iload_n 1, 1), (3, .invokevirtual 247, 3), (6, .ifCond .eq 10, 3), (9, .aload_n 0, 1), (10, .invokevirtual 250, 3), (13, .goto 7, 3), (16, .aload_n 0, 1), (17, .invokevirtual 253, 3), (20, .return_, 1)]
def hb_m253 : px_M := (hb_h253, hb_c253_0, hb_L12)
def hb_c254_0 : List (Nat × Instr × Nat) := [(0, .aload_n 0, 1), (1, .getfield 238, 3), (4, .istore_n 2, 1), (5, .aload_n 0, 1), (6, .getfield 244, 3), (9, .ifCond .ge 16, 3), (12, .aload_n 0, 1), (13, .getfield 235, 3), (16, .iconst 3, 1), (17, .if_icmp .ne 8, 3), (20, .iload_n 2, 1), (21, .iload_n 1, 1), (22, .if_icmp .ge 9, 3), (25, .aload_n 0, 1), (26, .invokevirtual 253, 3), (29, .iconst 1, 1), (30, .ireturn, 1), (31, .aload_n 0, 1), (32, .invokevirtual 250, 3), (35, .iload_n 2, 1), (36, .ireturn, 1)]
def hb_m254 : px_M := (hb_h254, hb_c254_0, hb_L12)
def hb_c255_0 : List (Nat × Instr × Nat) := [(0, .iconst 0, 1), (1, .istore_n 1, 1), (2, .aload_n 0, 1), (3, .bipush 8, 2), (5, .bipush 8, 2), (7, .invokevirtual 247, 3), (10, .ifCond .eq 20, 3), (13, .iload_n 1, 1), (14, .ifCond .ne 7, 3), (17, .iconst 1, 1), (18, .goto 4, 3), (21, .iconst 0, 1), (22, .istore_n 1, 1), (23, .aload_n 0, 1), (24, .invokevirtual 250, 3), (27, .goto (-25), 3), (30, .iconst 0, 1), (31, .istore_n 2, 1), (32, .aload_n 0, 1), (33, .getfield 244, 3), (36, .ifCond .ge 89, 3), (39, .aload_n 0, 1), (40, .getfield 235, 3), (43, .bipush 40, 2), (45, .if_icmp .ne 80, 3), (48, .aload_n 0, 1), (49, .getfield 256, 3), (52, .iconst 4, 1), (53, .if_icmp .ne 9, 3), (56, .aload_n 0, 1), (57, .invokevirtual 253, 3), (60, .iconst 0, 1), (61, .ireturn, 1), (62, .aload_n 0, 1), (63, .dup, 1), (64, .getfield 256, 3), (67, .iconst 1, 1), (68, .iadd, 1), (69, .putfield 256, 3), (72, .aload_n 0, 1)]
def hb_c255_1 : List (Nat × Instr × Nat) := [(73, .invokevirtual 250, 3), (76, .aload_n 0, 1), (77, .invokevirtual 259, 3), (80, .istore_n 2, 1), (81, .aload_n 0, 1), (82, .getfield 244, 3), (85, .ifCond .ge 16, 3), (88, .aload_n 0, 1), (89, .getfield 235, 3), (92, .bipush 41, 2), (94, .if_icmp .eq 7, 3), (97, .aload_n 0, 1), (98, .invokevirtual 253, 3), (101, .aload_n 0, 1), (102, .getfield 244, 3), (105, .ifCond .ge 7, 3), (108, .aload_n 0, 1), (109, .invokevirtual 250, 3), (112, .aload_n 0, 1), (113, .dup, 1), (114, .getfield 256, 3), (117, .iconst 1, 1), (118, .isub, 1), (119, .putfield 256, 3), (122, .goto 166, 3), (125, .aload_n 0, 1), (126, .bipush 9, 2), (128, .bipush 9, 2), (130, .invokevirtual 247, 3), (133, .ifCond .eq 15, 3), (136, .aload_n 0, 1), (137, .getfield 262, 3), (140, .istore_n 2, 1), (141, .aload_n 0, 1), (142, .invokevirtual 250, 3), (145, .goto 143, 3), (148, .aload_n 0, 1), (149, .bipush 10, 2), (151, .bipush 12, 2), (153, .invokevirtual 247, 3)]
def hb_c255_2 : List (Nat × Instr × Nat) := [(156, .ifCond .eq 128, 3), (159, .aload_n 0, 1), (160, .getfield 61, 3), (163, .aload_n 0, 1), (164, .getfield 238, 3), (167, .bipush 10, 2), (169, .isub, 1), (170, .iaload, 1), (171, .istore_n 3, 1), (172, .aload_n 0, 1), (173, .invokevirtual 250, 3), (176, .aload_n 0, 1), (177, .getfield 235, 3), (180, .istore 4, 2), (182, .aload_n 0, 1), (183, .getfield 244, 3), (186, .ifCond .ge 24, 3), (189, .iload 4, 2), (191, .bipush 60, 2), (193, .if_icmp .eq 23, 3), (196, .iload 4, 2), (198, .bipush 61, 2), (200, .if_icmp .eq 16, 3), (203, .iload 4, 2), (205, .bipush 62, 2), (207, .if_icmp .eq 9, 3), (210, .aload_n 0, 1), (211, .invokevirtual 253, 3), (214, .iconst 0, 1), (215, .ireturn, 1), (216, .aload_n 0, 1), (217, .invokevirtual 250, 3), (220, .aload_n 0, 1), (221, .iconst 0, 1), (222, .invokevirtual 266, 3), (225, .istore 5, 2), (227, .iload 4, 2), (229, .bipush 60, 2), (231, .if_icmp .ne 17, 3), (234, .iload_n 3, 1)]
def hb_c255_3 : List (Nat × Instr × Nat) := [(235, .iload 5, 2), (237, .if_icmp .ge 7, 3), (240, .iconst 1, 1), (241, .goto 39, 3), (244, .iconst 0, 1), (245, .goto 35, 3), (248, .iload 4, 2), (250, .bipush 61, 2), (252, .if_icmp .ne 17, 3), (255, .iload_n 3, 1), (256, .iload 5, 2), (258, .if_icmp .ne 7, 3), (261, .iconst 1, 1), (262, .goto 18, 3), (265, .iconst 0, 1), (266, .goto 14, 3), (269, .iload_n 3, 1), (270, .iload 5, 2), (272, .if_icmp .le 7, 3), (275, .iconst 1, 1), (276, .goto 4, 3), (279, .iconst 0, 1), (280, .istore_n 2, 1), (281, .goto 7, 3), (284, .aload_n 0, 1), (285, .invokevirtual 253, 3), (288, .iload_n 2, 1), (289, .iload_n 1, 1), (290, .if_icmp .eq 7, 3), (293, .iconst 1, 1), (294, .goto 4, 3), (297, .iconst 0, 1), (298, .ireturn, 1)]
def hb_m255 : px_M := (hb_h255, hb_c255_0 ++ (hb_c255_1 ++ (hb_c255_2 ++ (hb_c255_3))), hb_L12)
def hb_c256_0 : List (Nat × Instr × Nat) := [(0, .aload_n 0, 1), (1, .invokevirtual 269, 3), (4, .istore_n 1, 1), (5, .aload_n 0, 1), (6, .bipush 7, 2), (8, .bipush 7, 2), (10, .invokevirtual 247, 3), (13, .ifCond .eq 19, 3), (16, .aload_n 0, 1), (17, .invokevirtual 250, 3), (20, .aload_n 0, 1), (21, .invokevirtual 269, 3), (24, .istore_n 2, 1), (25, .iload_n 1, 1), (26, .iload_n 2, 1), (27, .iand, 1), (28, .istore_n 1, 1), (29, .goto (-24), 3), (32, .iload_n 1, 1), (33, .ireturn, 1)]
def hb_m256 : px_M := (hb_h256, hb_c256_0, hb_L12)
def hb_c257_0 : List (Nat × Instr × Nat) := [(0, .aload_n 0, 1), (1, .invokevirtual 272, 3), (4, .istore_n 1, 1), (5, .aload_n 0, 1), (6, .bipush 6, 2), (8, .bipush 6, 2), (10, .invokevirtual 247, 3), (13, .ifCond .eq 19, 3), (16, .aload_n 0, 1), (17, .invokevirtual 250, 3), (20, .aload_n 0, 1), (21, .invokevirtual 272, 3), (24, .istore_n 2, 1), (25, .iload_n 1, 1), (26, .iload_n 2, 1), (27, .ior, 1), (28, .istore_n 1, 1), (29, .goto (-24), 3), (32, .iload_n 1, 1), (33, .ireturn, 1)]
def hb_m257 : px_M := (hb_h257, hb_c257_0, hb_L12)
def hb_c258_0 : List (Nat × Instr × Nat) := [(0, .iconst 0, 1), (1, .istore_n 1, 1), (2, .iconst 0, 1), (3, .istore_n 2, 1), (4, .iload_n 2, 1), (5, .iconst 3, 1), (6, .if_icmp .ge 17, 3), (9, .aload_n 0, 1), (10, .getfield 67, 3), (13, .iload_n 2, 1), (14, .bipush 9, 2), (16, .iastore, 1), (17, .iinc 2 1, 3), (20, .goto (-16), 3), (23, .iconst 1, 1), (24, .istore_n 2, 1), (25, .iconst 0, 1), (26, .istore_n 3, 1), (27, .iload_n 2, 1), (28, .ifCond .eq 83, 3), (31, .aload_n 0, 1), (32, .bipush 13, 2), (34, .bipush 15, 2), (36, .invokevirtual 247, 3), (39, .ifCond .eq 18, 3), (42, .iload_n 1, 1), (43, .aload_n 0, 1), (44, .getfield 238, 3), (47, .bipush 13, 2), (49, .isub, 1), (50, .ishr, 1), (51, .iconst 1, 1), (52, .iand, 1), (53, .iconst 1, 1), (54, .if_icmp .ne 8, 3), (57, .aload_n 0, 1), (58, .invokevirtual 253, 3), (61, .return_, 1), (62, .aload_n 0, 1), (63, .getfield 238, 3)]
def hb_c258_1 : List (Nat × Instr × Nat) := [(66, .bipush 13, 2), (68, .isub, 1), (69, .istore 4, 2), (71, .iload_n 1, 1), (72, .iconst 1, 1), (73, .iload 4, 2), (75, .ishl, 1), (76, .ior, 1), (77, .istore_n 1, 1), (78, .aload_n 0, 1), (79, .getfield 67, 3), (82, .iload 4, 2), (84, .iload_n 3, 1), (85, .iastore, 1), (86, .aload_n 0, 1), (87, .invokevirtual 250, 3), (90, .aload_n 0, 1), (91, .iconst 4, 1), (92, .iconst 4, 1), (93, .invokevirtual 247, 3), (96, .istore_n 2, 1), (97, .iload_n 2, 1), (98, .ifCond .eq 7, 3), (101, .aload_n 0, 1), (102, .invokevirtual 250, 3), (105, .iinc 3 1, 3), (108, .goto (-81), 3), (111, .return_, 1)]
def hb_m258 : px_M := (hb_h258, hb_c258_0 ++ (hb_c258_1), hb_L12)
def hb_c259_0 : List (Nat × Instr × Nat) := [(0, .aload_n 0, 1), (1, .getfield 238, 3), (4, .istore_n 1, 1), (5, .aload_n 0, 1), (6, .invokevirtual 250, 3), (9, .iload_n 1, 1), (10, .ifCond .ne 29, 3), (13, .aload_n 0, 1), (14, .aload_n 0, 1), (15, .iconst 0, 1), (16, .invokevirtual 266, 3), (19, .putfield 275, 3), (22, .aload_n 0, 1), (23, .iconst 3, 1), (24, .invokevirtual 278, 3), (27, .aload_n 0, 1), (28, .aload_n 0, 1), (29, .iconst 1, 1), (30, .invokevirtual 266, 3), (33, .putfield 281, 3), (36, .goto 50, 3), (39, .iload_n 1, 1), (40, .iconst 1, 1), (41, .if_icmp .ne 10, 3), (44, .aload_n 0, 1), (45, .invokevirtual 284, 3), (48, .goto 38, 3), (51, .aload_n 0, 1), (52, .iconst 5, 1), (53, .invokevirtual 278, 3), (56, .aload_n 0, 1), (57, .invokevirtual 259, 3), (60, .istore_n 2, 1), (61, .aload_n 0, 1), (62, .dup, 1), (63, .getfield 287, 3), (66, .aload_n 0, 1), (67, .getfield 244, 3), (70, .ifCond .ge 11, 3), (73, .iload_n 2, 1)]
def hb_c259_1 : List (Nat × Instr × Nat) := [(74, .ifCond .eq 7, 3), (77, .iconst 1, 1), (78, .goto 4, 3), (81, .iconst 0, 1), (82, .ior, 1), (83, .putfield 287, 3), (86, .aload_n 0, 1), (87, .getfield 244, 3), (90, .ifCond .ge 16, 3), (93, .aload_n 0, 1), (94, .getfield 235, 3), (97, .bipush 59, 2), (99, .if_icmp .eq 7, 3), (102, .aload_n 0, 1), (103, .invokevirtual 253, 3), (106, .aload_n 0, 1), (107, .getfield 244, 3), (110, .ifCond .ge 7, 3), (113, .aload_n 0, 1), (114, .invokevirtual 250, 3), (117, .aload_n 0, 1), (118, .getfield 64, 3), (121, .aload_n 0, 1), (122, .getfield 290, 3), (125, .iload_n 1, 1), (126, .iastore, 1), (127, .aload_n 0, 1), (128, .dup, 1), (129, .getfield 290, 3), (132, .iconst 1, 1), (133, .iadd, 1), (134, .putfield 290, 3), (137, .return_, 1)]
def hb_m259 : px_M := (hb_h259, hb_c259_0 ++ (hb_c259_1), hb_L12)
def hb_c260_0 : List (Nat × Instr × Nat) := [(0, .aload_n 0, 1), (1, .iload_n 1, 1), (2, .putfield 223, 3), (5, .aload_n 0, 1), (6, .iload_n 2, 1), (7, .putfield 220, 3), (10, .aload_n 0, 1), (11, .iconst 0, 1), (12, .putfield 226, 3), (15, .aload_n 0, 1), (16, .iconst (-1), 1), (17, .putfield 244, 3), (20, .aload_n 0, 1), (21, .iconst 0, 1), (22, .putfield 256, 3), (25, .aload_n 0, 1), (26, .iconst 0, 1), (27, .putfield 290, 3), (30, .aload_n 0, 1), (31, .iconst 0, 1), (32, .putfield 275, 3), (35, .aload_n 0, 1), (36, .iconst 1, 1), (37, .putfield 281, 3), (40, .aload_n 0, 1), (41, .iconst 0, 1), (42, .putfield 287, 3), (45, .iconst 0, 1), (46, .istore_n 3, 1), (47, .iload_n 3, 1), (48, .iconst 3, 1), (49, .if_icmp .ge 17, 3), (52, .aload_n 0, 1), (53, .getfield 67, 3), (56, .iload_n 3, 1), (57, .bipush 9, 2), (59, .iastore, 1), (60, .iinc 3 1, 3), (63, .goto (-16), 3), (66, .aload_n 0, 1)]
def hb_c260_1 : List (Nat × Instr × Nat) := [(67, .invokevirtual 250, 3), (70, .aload_n 0, 1), (71, .getfield 244, 3), (74, .ifCond .ge 42, 3), (77, .aload_n 0, 1), (78, .getfield 235, 3), (81, .ifCond .eq 35, 3), (84, .aload_n 0, 1), (85, .iconst 0, 1), (86, .iconst 2, 1), (87, .invokevirtual 247, 3), (90, .ifCond .eq 19, 3), (93, .aload_n 0, 1), (94, .getfield 290, 3), (97, .bipush 8, 2), (99, .if_icmp .ge 10, 3), (102, .aload_n 0, 1), (103, .invokevirtual 293, 3), (106, .goto (-36), 3), (109, .aload_n 0, 1), (110, .invokevirtual 253, 3), (113, .goto (-43), 3), (116, .return_, 1)]
def hb_m260 : px_M := (hb_h260, hb_c260_0 ++ (hb_c260_1), hb_L12)
def hb_c261_0 : List (Nat × Instr × Nat) := [(0, .aload_n 0, 1), (1, .getfield 215, 3), (4, .istore_n 1, 1), (5, .aload_n 0, 1), (6, .iconst (-1), 1), (7, .iload_n 1, 1), (8, .invokevirtual 296, 3), (11, .aload_n 0, 1), (12, .iconst 0, 1), (13, .putfield 215, 3), (16, .aload_n 0, 1), (17, .getfield 244, 3), (20, .ifCond .lt 11, 3), (23, .bipush (-100), 2), (25, .aload_n 0, 1), (26, .getfield 244, 3), (29, .isub, 1), (30, .ireturn, 1), (31, .aload_n 0, 1), (32, .getfield 7, 3), (35, .bipush 10, 2), (37, .iaload, 1), (38, .bipush 6, 2), (40, .if_icmp .ne 6, 3), (43, .bipush (-2), 2), (45, .ireturn, 1), (46, .aload_n 0, 1), (47, .getfield 7, 3), (50, .bipush 10, 2), (52, .iaload, 1), (53, .istore_n 2, 1), (54, .aload_n 0, 1), (55, .getfield 7, 3), (58, .sipush 368, 3), (61, .iload_n 2, 1), (62, .iadd, 1), (63, .aload_n 0, 1), (64, .getfield 7, 3), (67, .iconst 0, 1), (68, .iaload, 1)]
def hb_c261_1 : List (Nat × Instr × Nat) := [(69, .iastore, 1), (70, .aload_n 0, 1), (71, .getfield 7, 3), (74, .sipush 374, 3), (77, .iload_n 2, 1), (78, .iadd, 1), (79, .iload_n 1, 1), (80, .iastore, 1), (81, .iconst 0, 1), (82, .istore_n 3, 1), (83, .iload_n 3, 1), (84, .iload_n 1, 1), (85, .if_icmp .ge 31, 3), (88, .aload_n 0, 1), (89, .getfield 7, 3), (92, .sipush 380, 3), (95, .sipush 200, 3), (98, .iload_n 2, 1), (99, .imul, 1), (100, .iadd, 1), (101, .iload_n 3, 1), (102, .iadd, 1), (103, .aload_n 0, 1), (104, .getfield 16, 3), (107, .iload_n 3, 1), (108, .iaload, 1), (109, .iastore, 1), (110, .iinc 3 1, 3), (113, .goto (-30), 3), (116, .aload_n 0, 1), (117, .getfield 7, 3), (120, .bipush 10, 2), (122, .dup2, 1), (123, .iaload, 1), (124, .iconst 1, 1), (125, .iadd, 1), (126, .iastore, 1), (127, .iload_n 2, 1), (128, .ireturn, 1)]
def hb_m261 : px_M := (hb_h261, hb_c261_0 ++ (hb_c261_1), hb_L12)
def hb_c262_0 : List (Nat × Instr × Nat) := [(0, .iload_n 1, 1), (1, .iconst 0, 1), (2, .aload_n 0, 1), (3, .getfield 7, 3), (6, .bipush 10, 2), (8, .iaload, 1), (9, .iconst 1, 1), (10, .isub, 1), (11, .invokestatic 91, 3), (14, .ifCond .ne 5, 3), (17, .iconst (-1), 1), (18, .ireturn, 1), (19, .aload_n 0, 1), (20, .sipush 380, 3), (23, .sipush 200, 3), (26, .iload_n 1, 1), (27, .imul, 1), (28, .iadd, 1), (29, .aload_n 0, 1), (30, .getfield 7, 3), (33, .sipush 374, 3), (36, .iload_n 1, 1), (37, .iadd, 1), (38, .iaload, 1), (39, .invokevirtual 296, 3), (42, .iload_n 2, 1), (43, .ifCond .eq 8, 3), (46, .iload_n 2, 1), (47, .iconst 1, 1), (48, .if_icmp .ne 25, 3), (51, .iload_n 2, 1), (52, .ifCond .ne 10, 3), (55, .aload_n 0, 1), (56, .getfield 290, 3), (59, .goto 13, 3), (62, .aload_n 0, 1), (63, .getfield 7, 3), (66, .sipush 368, 3), (69, .iload_n 1, 1), (70, .iadd, 1)]
def hb_c262_1 : List (Nat × Instr × Nat) := [(71, .iaload, 1), (72, .ireturn, 1), (73, .iload_n 2, 1), (74, .bipush 10, 2), (76, .bipush 9, 2), (78, .aload_n 0, 1), (79, .getfield 290, 3), (82, .iadd, 1), (83, .invokestatic 91, 3), (86, .ifCond .eq 15, 3), (89, .aload_n 0, 1), (90, .getfield 64, 3), (93, .iload_n 2, 1), (94, .bipush 10, 2), (96, .isub, 1), (97, .iaload, 1), (98, .goto 4, 3), (101, .iconst (-1), 1), (102, .ireturn, 1)]
def hb_m262 : px_M := (hb_h262, hb_c262_0 ++ (hb_c262_1), hb_L12)
def hb_c263_0 : List (Nat × Instr × Nat) := [(0, .iconst (-1), 1), (1, .istore_n 2, 1), (2, .iconst 0, 1), (3, .istore_n 3, 1), (4, .iload_n 3, 1), (5, .aload_n 0, 1), (6, .getfield 7, 3), (9, .bipush 10, 2), (11, .iaload, 1), (12, .if_icmp .ge 29, 3), (15, .aload_n 0, 1), (16, .getfield 7, 3), (19, .sipush 368, 3), (22, .iload_n 3, 1), (23, .iadd, 1), (24, .iaload, 1), (25, .iload_n 1, 1), (26, .if_icmp .gt 7, 3), (29, .iload_n 3, 1), (30, .goto 4, 3), (33, .iload_n 2, 1), (34, .istore_n 2, 1), (35, .iinc 3 1, 3), (38, .goto (-34), 3), (41, .aload_n 0, 1), (42, .sipush 380, 3), (45, .sipush 200, 3), (48, .iload_n 2, 1), (49, .ifCond .ge 7, 3), (52, .iconst 0, 1), (53, .goto 4, 3), (56, .iload_n 2, 1), (57, .imul, 1), (58, .iadd, 1), (59, .iload_n 2, 1), (60, .ifCond .ge 7, 3), (63, .iconst 0, 1), (64, .goto 13, 3), (67, .aload_n 0, 1), (68, .getfield 7, 3)]
def hb_c263_1 : List (Nat × Instr × Nat) := [(71, .sipush 374, 3), (74, .iload_n 2, 1), (75, .iadd, 1), (76, .iaload, 1), (77, .invokevirtual 296, 3), (80, .return_, 1)]
def hb_m263 : px_M := (hb_h263, hb_c263_0 ++ (hb_c263_1), hb_L12)
def hb_c264_0 : List (Nat × Instr × Nat) := [(0, .iconst 0, 1), (1, .istore 4, 2), (3, .iconst 0, 1), (4, .istore 5, 2), (6, .iload 5, 2), (8, .iload_n 2, 1), (9, .if_icmp .ge 25, 3), (12, .iload 4, 2), (14, .aload_n 0, 1), (15, .getfield 7, 3), (18, .iload_n 1, 1), (19, .iload_n 3, 1), (20, .iload 5, 2), (22, .imul, 1), (23, .iadd, 1), (24, .iaload, 1), (25, .iadd, 1), (26, .istore 4, 2), (28, .iinc 5 1, 3), (31, .goto (-25), 3), (34, .iload 4, 2), (36, .ireturn, 1)]
def hb_m264 : px_M := (hb_h264, hb_c264_0, hb_L12)
def hb_c265_0 : List (Nat × Instr × Nat) := [(0, .iload_n 1, 1), (1, .invokestatic 152, 3), (4, .ifCond .ne 5, 3), (7, .iconst (-1), 1), (8, .ireturn, 1), (9, .aload_n 0, 1), (10, .iload_n 1, 1), (11, .invokevirtual 299, 3), (14, .aload_n 0, 1), (15, .getfield 275, 3), (18, .aload_n 0, 1), (19, .bipush 16, 2), (21, .bipush 8, 2), (23, .iconst 1, 1), (24, .invokevirtual 302, 3), (27, .aload_n 0, 1), (28, .getfield 281, 3), (31, .idiv, 1), (32, .imul, 1), (33, .aload_n 0, 1), (34, .sipush 216, 3), (37, .aload_n 0, 1), (38, .getfield 7, 3), (41, .iconst 5, 1), (42, .iaload, 1), (43, .iconst 4, 1), (44, .invokevirtual 302, 3), (47, .isub, 1), (48, .istore_n 2, 1), (49, .iload_n 2, 1), (50, .ifCond .le 7, 3), (53, .iload_n 2, 1), (54, .goto 4, 3), (57, .iconst 0, 1), (58, .ireturn, 1)]
def hb_m265 : px_M := (hb_h265, hb_c265_0, hb_L12)
def hb_c266_0 : List (Nat × Instr × Nat) := [(0, .iload_n 1, 1), (1, .iconst 0, 1), (2, .iconst 2, 1), (3, .invokestatic 91, 3), (6, .ifCond .eq 10, 3), (9, .iload_n 2, 1), (10, .invokestatic 152, 3), (13, .ifCond .ne 5, 3), (16, .iconst (-1), 1), (17, .ireturn, 1), (18, .aload_n 0, 1), (19, .iload_n 2, 1), (20, .invokevirtual 299, 3), (23, .aload_n 0, 1), (24, .getfield 67, 3), (27, .iload_n 1, 1), (28, .iaload, 1), (29, .ireturn, 1)]
def hb_m266 : px_M := (hb_h266, hb_c266_0, hb_L12)
def hb_c267_0 : List (Nat × Instr × Nat) := [(0, .aload_n 0, 1), (1, .iload_n 1, 1), (2, .invokevirtual 200, 3), (5, .ifCond .eq 10, 3), (8, .iload_n 2, 1), (9, .invokestatic 152, 3), (12, .ifCond .ne 5, 3), (15, .iconst (-1), 1), (16, .ireturn, 1), (17, .aload_n 0, 1), (18, .aload_n 0, 1), (19, .iload_n 1, 1), (20, .invokevirtual 203, 3), (23, .iload_n 2, 1), (24, .if_icmp .gt 7, 3), (27, .iconst 1, 1), (28, .goto 4, 3), (31, .iconst 0, 1), (32, .putfield 262, 3), (35, .aload_n 0, 1), (36, .getfield 61, 3), (39, .iconst 0, 1), (40, .aload_n 0, 1), (41, .iload_n 1, 1), (42, .invokevirtual 194, 3), (45, .iastore, 1), (46, .aload_n 0, 1), (47, .getfield 61, 3), (50, .iconst 1, 1), (51, .aload_n 0, 1), (52, .getfield 7, 3), (55, .sipush 248, 3), (58, .bipush 6, 2), (60, .iload_n 1, 1), (61, .imul, 1), (62, .iadd, 1), (63, .iconst 2, 1), (64, .iadd, 1), (65, .iaload, 1), (66, .iastore, 1)]
def hb_c267_1 : List (Nat × Instr × Nat) := [(67, .aload_n 0, 1), (68, .getfield 61, 3), (71, .iconst 2, 1), (72, .iload_n 2, 1), (73, .iastore, 1), (74, .aload_n 0, 1), (75, .iload_n 2, 1), (76, .invokevirtual 299, 3), (79, .aload_n 0, 1), (80, .getfield 287, 3), (83, .ifCond .eq 7, 3), (86, .iconst 1, 1), (87, .goto 4, 3), (90, .iconst 0, 1), (91, .ireturn, 1)]
def hb_m267 : px_M := (hb_h267, hb_c267_0 ++ (hb_c267_1), hb_L12)
def hb_c268_0 : List (Nat × Instr × Nat) := [(0, .iload_n 1, 1), (1, .iconst 1, 1), (2, .bipush 99, 2), (4, .invokestatic 91, 3), (7, .ifCond .eq 13, 3), (10, .iload_n 2, 1), (11, .iconst 0, 1), (12, .bipush 9, 2), (14, .invokestatic 91, 3), (17, .ifCond .ne 5, 3), (20, .iconst (-1), 1), (21, .ireturn, 1), (22, .aload_n 0, 1), (23, .getfield 7, 3), (26, .bipush 11, 2), (28, .iaload, 1), (29, .bipush 7, 2), (31, .if_icmp .ne 6, 3), (34, .bipush (-2), 2), (36, .ireturn, 1), (37, .aload_n 0, 1), (38, .getfield 7, 3), (41, .sipush 354, 3), (44, .iconst 2, 1), (45, .aload_n 0, 1), (46, .getfield 7, 3), (49, .bipush 11, 2), (51, .iaload, 1), (52, .imul, 1), (53, .iadd, 1), (54, .iload_n 1, 1), (55, .iastore, 1), (56, .aload_n 0, 1), (57, .getfield 7, 3), (60, .sipush 354, 3), (63, .iconst 2, 1), (64, .aload_n 0, 1), (65, .getfield 7, 3), (68, .bipush 11, 2), (70, .iaload, 1)]
def hb_c268_1 : List (Nat × Instr × Nat) := [(71, .imul, 1), (72, .iadd, 1), (73, .iconst 1, 1), (74, .iadd, 1), (75, .iload_n 2, 1), (76, .iastore, 1), (77, .aload_n 0, 1), (78, .getfield 7, 3), (81, .bipush 11, 2), (83, .dup2, 1), (84, .iaload, 1), (85, .iconst 1, 1), (86, .iadd, 1), (87, .iastore, 1), (88, .aload_n 0, 1), (89, .getfield 7, 3), (92, .bipush 11, 2), (94, .iaload, 1), (95, .ireturn, 1)]
def hb_m268 : px_M := (hb_h268, hb_c268_0 ++ (hb_c268_1), hb_L12)
def hb_c269_0 : List (Nat × Instr × Nat) := [(0, .aload_n 0, 1), (1, .getfield 7, 3), (4, .bipush 11, 2), (6, .iaload, 1), (7, .istore_n 3, 1), (8, .iload_n 1, 1), (9, .iconst 0, 1), (10, .sipush 9999, 3), (13, .invokestatic 91, 3), (16, .ifCond .eq 15, 3), (19, .iload_n 2, 1), (20, .bipush (-2), 2), (22, .iload_n 3, 1), (23, .iconst 1, 1), (24, .isub, 1), (25, .invokestatic 91, 3), (28, .ifCond .ne 5, 3), (31, .iconst (-1), 1), (32, .ireturn, 1), (33, .iconst 1, 1), (34, .istore 4, 2), (36, .iconst 0, 1), (37, .istore 5, 2), (39, .iload 5, 2), (41, .iload_n 3, 1), (42, .if_icmp .ge 15, 3), (45, .iload 4, 2), (47, .iconst 4, 1), (48, .imul, 1), (49, .istore 4, 2), (51, .iinc 5 1, 3), (54, .goto (-15), 3), (57, .iconst (-1), 1), (58, .istore 5, 2), (60, .iconst 0, 1), (61, .istore 6, 2), (63, .iconst 0, 1), (64, .istore 7, 2), (66, .iconst 0, 1), (67, .istore 8, 2)]
def hb_c269_1 : List (Nat × Instr × Nat) := [(69, .iload 8, 2), (71, .iload 4, 2), (73, .if_icmp .ge 158, 3), (76, .iconst 0, 1), (77, .istore 9, 2), (79, .iconst 0, 1), (80, .istore 10, 2), (82, .iconst 0, 1), (83, .istore 11, 2), (85, .iload 11, 2), (87, .iload_n 3, 1), (88, .if_icmp .ge 81, 3), (91, .iload 8, 2), (93, .iload 11, 2), (95, .iload_n 3, 1), (96, .invokestatic 305, 3), (99, .istore 12, 2), (101, .aload_n 0, 1), (102, .getfield 7, 3), (105, .sipush 354, 3), (108, .iconst 2, 1), (109, .iload 11, 2), (111, .imul, 1), (112, .iadd, 1), (113, .iaload, 1), (114, .istore 13, 2), (116, .iload 10, 2), (118, .bipush 12, 2), (120, .iload 13, 2), (122, .imul, 1), (123, .iload 12, 2), (125, .iadd, 1), (126, .iconst 1, 1), (127, .isub, 1), (128, .iload 12, 2), (130, .idiv, 1), (131, .iadd, 1), (132, .istore 10, 2), (134, .iload 9, 2), (136, .aload_n 0, 1)]
def hb_c269_2 : List (Nat × Instr × Nat) := [(137, .getfield 7, 3), (140, .sipush 354, 3), (143, .iconst 2, 1), (144, .iload 11, 2), (146, .imul, 1), (147, .iadd, 1), (148, .iconst 1, 1), (149, .iadd, 1), (150, .iaload, 1), (151, .iload 13, 2), (153, .imul, 1), (154, .iload 12, 2), (156, .imul, 1), (157, .iload 12, 2), (159, .imul, 1), (160, .iadd, 1), (161, .istore 9, 2), (163, .iinc 11 1, 3), (166, .goto (-81), 3), (169, .iload 5, 2), (171, .ifCond .lt 24, 3), (174, .iload 9, 2), (176, .iload 6, 2), (178, .if_icmp .lt 17, 3), (181, .iload 9, 2), (183, .iload 6, 2), (185, .if_icmp .ne 14, 3), (188, .iload 10, 2), (190, .iload 7, 2), (192, .if_icmp .ge 7, 3), (195, .iconst 1, 1), (196, .goto 4, 3), (199, .iconst 0, 1), (200, .istore 11, 2), (202, .iload 10, 2), (204, .iload_n 1, 1), (205, .if_icmp .gt 20, 3), (208, .iload 11, 2), (210, .ifCond .eq 15, 3), (213, .iload 8, 2)]
def hb_c269_3 : List (Nat × Instr × Nat) := [(215, .istore 5, 2), (217, .iload 9, 2), (219, .istore 6, 2), (221, .iload 10, 2), (223, .istore 7, 2), (225, .iinc 8 1, 3), (228, .goto (-159), 3), (231, .iload 5, 2), (233, .ifCond .ge 6, 3), (236, .bipush (-4), 2), (238, .ireturn, 1), (239, .iload_n 2, 1), (240, .iconst (-1), 1), (241, .if_icmp .ne 8, 3), (244, .iload 6, 2), (246, .goto 21, 3), (249, .iload_n 2, 1), (250, .bipush (-2), 2), (252, .if_icmp .ne 8, 3), (255, .iload 7, 2), (257, .goto 10, 3), (260, .iload 5, 2), (262, .iload_n 2, 1), (263, .iload_n 3, 1), (264, .invokestatic 305, 3), (267, .ireturn, 1)]
def hb_m269 : px_M := (hb_h269, hb_c269_0 ++ (hb_c269_1 ++ (hb_c269_2 ++ (hb_c269_3))), hb_L12)
def hb_c270_0 : List (Nat × Instr × Nat) := [(0, .iload_n 0, 1), (1, .iconst 2, 1), (2, .iload_n 2, 1), (3, .iconst 1, 1), (4, .isub, 1), (5, .iload_n 1, 1), (6, .isub, 1), (7, .imul, 1), (8, .ishr, 1), (9, .iconst 3, 1), (10, .iand, 1), (11, .iconst 1, 1), (12, .iadd, 1), (13, .ireturn, 1)]
def hb_m270 : px_M := (hb_h270, hb_c270_0, hb_L12)
def hb_c271_0 : List (Nat × Instr × Nat) := [(0, .iload_n 0, 1), (1, .iconst 0, 1), (2, .iconst 3, 1), (3, .invokestatic 91, 3), (6, .ireturn, 1)]
def hb_m271 : px_M := (hb_h271, hb_c271_0, hb_L12)
def hb_c272_0 : List (Nat × Instr × Nat) := [(0, .iconst 0, 1), (1, .istore_n 1, 1), (2, .iconst 1, 1), (3, .istore_n 2, 1), (4, .iload_n 2, 1), (5, .ifCond .eq 72, 3), (8, .iconst 0, 1), (9, .istore_n 2, 1), (10, .iconst 0, 1), (11, .istore_n 3, 1), (12, .iload_n 3, 1), (13, .iconst 4, 1), (14, .if_icmp .ge 48, 3), (17, .iload_n 2, 1), (18, .aload_n 0, 1), (19, .getfield 70, 3), (22, .iload_n 3, 1), (23, .iaload, 1), (24, .iload_n 1, 1), (25, .if_icmp .eq 24, 3), (28, .aload_n 0, 1), (29, .getfield 82, 3), (32, .iload_n 3, 1), (33, .iaload, 1), (34, .bipush 6, 2), (36, .if_icmp .ne 17, 3), (39, .aload_n 0, 1), (40, .getfield 85, 3), (43, .iload_n 3, 1), (44, .iaload, 1), (45, .iload_n 1, 1), (46, .if_icmp .ne 7, 3), (49, .iconst 1, 1), (50, .goto 4, 3), (53, .iconst 0, 1), (54, .ior, 1), (55, .istore_n 2, 1), (56, .iinc 3 1, 3), (59, .goto (-47), 3), (62, .iload_n 1, 1)]
def hb_c272_1 : List (Nat × Instr × Nat) := [(63, .iload_n 2, 1), (64, .ifCond .eq 7, 3), (67, .iconst 1, 1), (68, .goto 4, 3), (71, .iconst 0, 1), (72, .iadd, 1), (73, .istore_n 1, 1), (74, .goto (-70), 3), (77, .iload_n 1, 1), (78, .ireturn, 1)]
def hb_m272 : px_M := (hb_h272, hb_c272_0 ++ (hb_c272_1), hb_L12)
def hb_c273_0 : List (Nat × Instr × Nat) := [(0, .iload_n 1, 1), (1, .invokestatic 308, 3), (4, .ifCond .eq 22, 3), (7, .iload_n 2, 1), (8, .iconst (-1), 1), (9, .iconst 4, 1), (10, .invokestatic 91, 3), (13, .ifCond .eq 13, 3), (16, .iload_n 2, 1), (17, .ifCond .lt 11, 3), (20, .iload_n 3, 1), (21, .bipush 40, 2), (23, .if_icmp .le 5, 3), (26, .iconst (-1), 1), (27, .ireturn, 1), (28, .iload_n 2, 1), (29, .ifCond .lt 10, 3), (32, .iload_n 3, 1), (33, .ifCond .ge 6, 3), (36, .bipush (-14), 2), (38, .ireturn, 1), (39, .aload_n 0, 1), (40, .getfield 70, 3), (43, .iload_n 1, 1), (44, .iconst (-1), 1), (45, .iastore, 1), (46, .iload_n 2, 1), (47, .ifCond .ge 5, 3), (50, .iconst 1, 1), (51, .ireturn, 1), (52, .aload_n 0, 1), (53, .invokevirtual 311, 3), (56, .istore 4, 2), (58, .aload_n 0, 1), (59, .getfield 70, 3), (62, .iload_n 1, 1), (63, .iload 4, 2), (65, .iastore, 1), (66, .aload_n 0, 1), (67, .getfield 73, 3)]
def hb_c273_1 : List (Nat × Instr × Nat) := [(70, .iload 4, 2), (72, .iload_n 2, 1), (73, .iastore, 1), (74, .aload_n 0, 1), (75, .getfield 76, 3), (78, .iload 4, 2), (80, .iload_n 3, 1), (81, .iastore, 1), (82, .iconst 0, 1), (83, .istore 5, 2), (85, .iload 5, 2), (87, .bipush 40, 2), (89, .if_icmp .ge 23, 3), (92, .aload_n 0, 1), (93, .getfield 79, 3), (96, .bipush 40, 2), (98, .iload 4, 2), (100, .imul, 1), (101, .iload 5, 2), (103, .iadd, 1), (104, .iconst 0, 1), (105, .iastore, 1), (106, .iinc 5 1, 3), (109, .goto (-24), 3), (112, .iconst 1, 1), (113, .ireturn, 1)]
def hb_m273 : px_M := (hb_h273, hb_c273_0 ++ (hb_c273_1), hb_L12)
def hb_c274_0 : List (Nat × Instr × Nat) := [(0, .iload_n 1, 1), (1, .invokestatic 308, 3), (4, .ifCond .ne 5, 3), (7, .iconst (-1), 1), (8, .ireturn, 1), (9, .aload_n 0, 1), (10, .getfield 70, 3), (13, .iload_n 1, 1), (14, .iaload, 1), (15, .istore 4, 2), (17, .iload 4, 2), (19, .ifCond .ge 6, 3), (22, .bipush (-11), 2), (24, .ireturn, 1), (25, .iload_n 2, 1), (26, .iconst 0, 1), (27, .aload_n 0, 1), (28, .getfield 76, 3), (31, .iload 4, 2), (33, .iaload, 1), (34, .iconst 1, 1), (35, .isub, 1), (36, .invokestatic 91, 3), (39, .ifCond .ne 6, 3), (42, .bipush (-12), 2), (44, .ireturn, 1), (45, .aload_n 0, 1), (46, .getfield 79, 3), (49, .bipush 40, 2), (51, .iload 4, 2), (53, .imul, 1), (54, .iload_n 2, 1), (55, .iadd, 1), (56, .aload_n 0, 1), (57, .getfield 73, 3), (60, .iload 4, 2), (62, .iaload, 1), (63, .ifCond .ne 8, 3), (66, .iload_n 3, 1), (67, .i2b, 1)]
def hb_c274_1 : List (Nat × Instr × Nat) := [(68, .goto 43, 3), (71, .aload_n 0, 1), (72, .getfield 73, 3), (75, .iload 4, 2), (77, .iaload, 1), (78, .iconst 1, 1), (79, .if_icmp .ne 8, 3), (82, .iload_n 3, 1), (83, .i2s, 1), (84, .goto 27, 3), (87, .aload_n 0, 1), (88, .getfield 73, 3), (91, .iload 4, 2), (93, .iaload, 1), (94, .iconst 4, 1), (95, .if_icmp .ne 15, 3), (98, .iload_n 3, 1), (99, .ifCond .eq 7, 3), (102, .iconst 1, 1), (103, .goto 8, 3), (106, .iconst 0, 1), (107, .goto 4, 3), (110, .iload_n 3, 1), (111, .iastore, 1), (112, .iconst 1, 1), (113, .ireturn, 1)]
def hb_m274 : px_M := (hb_h274, hb_c274_0 ++ (hb_c274_1), hb_L12)
def hb_c275_0 : List (Nat × Instr × Nat) := [(0, .iload_n 1, 1), (1, .invokestatic 308, 3), (4, .ifCond .eq 12, 3), (7, .iload_n 2, 1), (8, .iconst 0, 1), (9, .iconst 4, 1), (10, .invokestatic 91, 3), (13, .ifCond .ne 5, 3), (16, .iconst (-1), 1), (17, .ireturn, 1), (18, .aload_n 0, 1), (19, .getfield 70, 3), (22, .iload_n 1, 1), (23, .iaload, 1), (24, .istore 4, 2), (26, .iload 4, 2), (28, .ifCond .lt 17, 3), (31, .aload_n 0, 1), (32, .getfield 73, 3), (35, .iload 4, 2), (37, .iaload, 1), (38, .iload_n 2, 1), (39, .if_icmp .eq 6, 3), (42, .bipush (-13), 2), (44, .ireturn, 1), (45, .iload 4, 2), (47, .ifCond .ge 6, 3), (50, .bipush (-11), 2), (52, .ireturn, 1), (53, .iload_n 3, 1), (54, .iconst 0, 1), (55, .aload_n 0, 1), (56, .getfield 76, 3), (59, .iload 4, 2), (61, .iaload, 1), (62, .iconst 1, 1), (63, .isub, 1), (64, .invokestatic 91, 3), (67, .ifCond .eq 18, 3), (70, .aload_n 0, 1)]
def hb_c275_1 : List (Nat × Instr × Nat) := [(71, .getfield 79, 3), (74, .bipush 40, 2), (76, .iload 4, 2), (78, .imul, 1), (79, .iload_n 3, 1), (80, .iadd, 1), (81, .iaload, 1), (82, .goto 5, 3), (85, .bipush (-12), 2), (87, .ireturn, 1)]
def hb_m275 : px_M := (hb_h275, hb_c275_0 ++ (hb_c275_1), hb_L12)
def hb_c276_0 : List (Nat × Instr × Nat) := [(0, .iload_n 1, 1), (1, .invokestatic 123, 3), (4, .ifCond .eq 31, 3), (7, .iload_n 3, 1), (8, .invokestatic 308, 3), (11, .ifCond .eq 24, 3), (14, .iload 5, 2), (16, .iconst 0, 1), (17, .bipush 9, 2), (19, .invokestatic 91, 3), (22, .ifCond .eq 13, 3), (25, .iload_n 2, 1), (26, .iconst 0, 1), (27, .bipush 60, 2), (29, .invokestatic 91, 3), (32, .ifCond .ne 5, 3), (35, .iconst (-1), 1), (36, .ireturn, 1), (37, .aload_n 0, 1), (38, .getfield 70, 3), (41, .iload_n 3, 1), (42, .iaload, 1), (43, .istore 6, 2), (45, .iload 6, 2), (47, .ifCond .lt 16, 3), (50, .aload_n 0, 1), (51, .getfield 73, 3), (54, .iload 6, 2), (56, .iaload, 1), (57, .ifCond .eq 6, 3), (60, .bipush (-13), 2), (62, .ireturn, 1), (63, .iload 6, 2), (65, .ifCond .ge 6, 3), (68, .bipush (-11), 2), (70, .ireturn, 1), (71, .iconst 0, 1), (72, .istore 7, 2), (74, .iconst 0, 1), (75, .istore 8, 2)]
def hb_c276_1 : List (Nat × Instr × Nat) := [(77, .iload 8, 2), (79, .iload 5, 2), (81, .if_icmp .ge 92, 3), (84, .iload 4, 2), (86, .ifCond .lt 20, 3), (89, .iload 4, 2), (91, .aload_n 0, 1), (92, .getfield 76, 3), (95, .iload 6, 2), (97, .iaload, 1), (98, .iconst 1, 1), (99, .isub, 1), (100, .iload 8, 2), (102, .isub, 1), (103, .if_icmp .le 6, 3), (106, .bipush (-12), 2), (108, .ireturn, 1), (109, .aload_n 0, 1), (110, .getfield 79, 3), (113, .bipush 40, 2), (115, .iload 6, 2), (117, .imul, 1), (118, .iload 4, 2), (120, .iadd, 1), (121, .iload 8, 2), (123, .iadd, 1), (124, .iaload, 1), (125, .istore 9, 2), (127, .aload_n 0, 1), (128, .iload_n 1, 1), (129, .iload_n 2, 1), (130, .iload 8, 2), (132, .iadd, 1), (133, .iload 9, 2), (135, .iload 9, 2), (137, .invokevirtual 314, 3), (140, .istore 10, 2), (142, .iload 10, 2), (144, .bipush (-2), 2), (146, .if_icmp .ne 6, 3)]
def hb_c276_2 : List (Nat × Instr × Nat) := [(149, .bipush (-2), 2), (151, .ireturn, 1), (152, .iload 7, 2), (154, .iload 10, 2), (156, .ifCond .lt 7, 3), (159, .iconst 1, 1), (160, .goto 4, 3), (163, .iconst 0, 1), (164, .iadd, 1), (165, .istore 7, 2), (167, .iinc 8 1, 3), (170, .goto (-93), 3), (173, .iload 7, 2), (175, .ireturn, 1)]
def hb_m276 : px_M := (hb_h276, hb_c276_0 ++ (hb_c276_1 ++ (hb_c276_2)), hb_L12)
def hb_c277_0 : List (Nat × Instr × Nat) := [(0, .iload_n 1, 1), (1, .invokestatic 308, 3), (4, .ifCond .eq 13, 3), (7, .iload_n 2, 1), (8, .iconst 0, 1), (9, .bipush 6, 2), (11, .invokestatic 91, 3), (14, .ifCond .ne 5, 3), (17, .iconst (-1), 1), (18, .ireturn, 1), (19, .iload_n 2, 1), (20, .ifCond .ne 10, 3), (23, .iload_n 3, 1), (24, .invokestatic 123, 3), (27, .goto 91, 3), (30, .iload_n 2, 1), (31, .iconst 1, 1), (32, .if_icmp .ne 11, 3), (35, .aload_n 0, 1), (36, .iload_n 3, 1), (37, .invokevirtual 186, 3), (40, .goto 78, 3), (43, .iload_n 2, 1), (44, .iconst 2, 1), (45, .if_icmp .ne 20, 3), (48, .iload_n 3, 1), (49, .iconst 0, 1), (50, .aload_n 0, 1), (51, .getfield 7, 3), (54, .bipush 7, 2), (56, .iaload, 1), (57, .iconst 1, 1), (58, .isub, 1), (59, .invokestatic 91, 3), (62, .goto 56, 3), (65, .iload_n 2, 1), (66, .iconst 3, 1), (67, .if_icmp .ne 11, 3), (70, .aload_n 0, 1), (71, .iload_n 3, 1)]
def hb_c277_1 : List (Nat × Instr × Nat) := [(72, .invokevirtual 206, 3), (75, .goto 43, 3), (78, .iload_n 2, 1), (79, .iconst 4, 1), (80, .if_icmp .ne 20, 3), (83, .iload_n 3, 1), (84, .iconst 0, 1), (85, .aload_n 0, 1), (86, .getfield 7, 3), (89, .bipush 9, 2), (91, .iaload, 1), (92, .iconst 1, 1), (93, .isub, 1), (94, .invokestatic 91, 3), (97, .goto 21, 3), (100, .iload_n 2, 1), (101, .bipush 6, 2), (103, .if_icmp .eq 10, 3), (106, .iload_n 3, 1), (107, .invokestatic 308, 3), (110, .ifCond .eq 7, 3), (113, .iconst 1, 1), (114, .goto 4, 3), (117, .iconst 0, 1), (118, .istore 4, 2), (120, .iload 4, 2), (122, .ifCond .ne 5, 3), (125, .iconst (-1), 1), (126, .ireturn, 1), (127, .iload_n 2, 1), (128, .bipush 6, 2), (130, .if_icmp .eq 17, 3), (133, .iload_n 2, 1), (134, .iconst 5, 1), (135, .if_icmp .ne 16, 3), (138, .aload_n 0, 1), (139, .getfield 70, 3), (142, .iload_n 3, 1), (143, .iaload, 1), (144, .ifCond .ge 7, 3)]
def hb_c277_2 : List (Nat × Instr × Nat) := [(147, .iconst 1, 1), (148, .goto 4, 3), (151, .iconst 0, 1), (152, .istore 5, 2), (154, .aload_n 0, 1), (155, .getfield 82, 3), (158, .iload_n 1, 1), (159, .iload 5, 2), (161, .ifCond .eq 7, 3), (164, .iconst 0, 1), (165, .goto 6, 3), (168, .iload_n 2, 1), (169, .iconst 1, 1), (170, .iadd, 1), (171, .iastore, 1), (172, .aload_n 0, 1), (173, .getfield 85, 3), (176, .iload_n 1, 1), (177, .iload 5, 2), (179, .ifCond .eq 7, 3), (182, .iconst 0, 1), (183, .goto 18, 3), (186, .iload_n 2, 1), (187, .iconst 5, 1), (188, .if_icmp .ne 12, 3), (191, .aload_n 0, 1), (192, .getfield 70, 3), (195, .iload_n 3, 1), (196, .iaload, 1), (197, .goto 4, 3), (200, .iload_n 3, 1), (201, .iastore, 1), (202, .iconst 1, 1), (203, .ireturn, 1)]
def hb_m277 : px_M := (hb_h277, hb_c277_0 ++ (hb_c277_1 ++ (hb_c277_2)), hb_L12)
def hb_c278_0 : List (Nat × Instr × Nat) := [(0, .aload_n 0, 1), (1, .getfield 85, 3), (4, .iload_n 1, 1), (5, .iaload, 1), (6, .istore_n 2, 1), (7, .aload_n 0, 1), (8, .getfield 82, 3), (11, .iload_n 1, 1), (12, .iaload, 1), (13, .tableswitch 129 1 6 #[39, 41, 77, 94, 108, 126], 39), (52, .iconst 1, 1), (53, .ireturn, 1), (54, .aload_n 0, 1), (55, .iload_n 2, 1), (56, .invokevirtual 186, 3), (59, .ifCond .ne 7, 3), (62, .iconst (-1), 1), (63, .goto 26, 3), (66, .aload_n 0, 1), (67, .getfield 7, 3), (70, .sipush 216, 3), (73, .iconst 4, 1), (74, .iload_n 2, 1), (75, .imul, 1), (76, .iadd, 1), (77, .iconst 3, 1), (78, .iadd, 1), (79, .iaload, 1), (80, .iconst 1, 1), (81, .if_icmp .ne 7, 3), (84, .iconst 3, 1), (85, .goto 4, 3), (88, .iconst 2, 1), (89, .ireturn, 1), (90, .iload_n 2, 1), (91, .aload_n 0, 1), (92, .getfield 7, 3), (95, .bipush 7, 2), (97, .iaload, 1), (98, .if_icmp .ge 7, 3)]
def hb_c278_1 : List (Nat × Instr × Nat) := [(101, .iconst 4, 1), (102, .goto 4, 3), (105, .iconst (-1), 1), (106, .ireturn, 1), (107, .aload_n 0, 1), (108, .iload_n 2, 1), (109, .invokevirtual 206, 3), (112, .ifCond .eq 7, 3), (115, .iconst 5, 1), (116, .goto 4, 3), (119, .iconst (-1), 1), (120, .ireturn, 1), (121, .iload_n 2, 1), (122, .aload_n 0, 1), (123, .getfield 7, 3), (126, .bipush 9, 2), (128, .iaload, 1), (129, .if_icmp .ge 8, 3), (132, .bipush 6, 2), (134, .goto 4, 3), (137, .iconst (-1), 1), (138, .ireturn, 1), (139, .bipush (-2), 2), (141, .ireturn, 1), (142, .iconst (-1), 1), (143, .ireturn, 1)]
def hb_m278 : px_M := (hb_h278, hb_c278_0 ++ (hb_c278_1), hb_L12)
def hb_c279_0 : List (Nat × Instr × Nat) := [(0, .iload_n 1, 1), (1, .invokestatic 308, 3), (4, .ifCond .eq 24, 3), (7, .iload_n 2, 1), (8, .iconst 0, 1), (9, .bipush 6, 2), (11, .invokestatic 91, 3), (14, .ifCond .ne 16, 3), (17, .iload_n 2, 1), (18, .bipush 10, 2), (20, .bipush 14, 2), (22, .invokestatic 91, 3), (25, .ifCond .ne 5, 3), (28, .iconst (-1), 1), (29, .ireturn, 1), (30, .aload_n 0, 1), (31, .iload_n 1, 1), (32, .invokevirtual 318, 3), (35, .istore_n 3, 1), (36, .iload_n 3, 1), (37, .iconst (-1), 1), (38, .if_icmp .ne 6, 3), (41, .bipush (-11), 2), (43, .ireturn, 1), (44, .iload_n 3, 1), (45, .bipush (-2), 2), (47, .if_icmp .ne 44, 3), (50, .iload_n 2, 1), (51, .bipush 10, 2), (53, .if_icmp .lt 35, 3), (56, .aload_n 0, 1), (57, .getfield 73, 3), (60, .aload_n 0, 1), (61, .getfield 85, 3), (64, .iload_n 1, 1), (65, .iaload, 1), (66, .iaload, 1), (67, .iload_n 2, 1), (68, .bipush 10, 2), (70, .isub, 1)]
def hb_c279_1 : List (Nat × Instr × Nat) := [(71, .if_icmp .ne 17, 3), (74, .aload_n 0, 1), (75, .getfield 76, 3), (78, .aload_n 0, 1), (79, .getfield 85, 3), (82, .iload_n 1, 1), (83, .iaload, 1), (84, .iaload, 1), (85, .goto 5, 3), (88, .bipush (-13), 2), (90, .ireturn, 1), (91, .iload_n 2, 1), (92, .ifCond .eq 28, 3), (95, .iload_n 2, 1), (96, .iload_n 3, 1), (97, .if_icmp .eq 23, 3), (100, .iload_n 2, 1), (101, .iconst 2, 1), (102, .if_icmp .ne 8, 3), (105, .iload_n 3, 1), (106, .iconst 3, 1), (107, .if_icmp .eq 13, 3), (110, .iload_n 2, 1), (111, .iconst 4, 1), (112, .if_icmp .ne 12, 3), (115, .iload_n 3, 1), (116, .iconst 5, 1), (117, .if_icmp .ne 7, 3), (120, .iconst 1, 1), (121, .goto 4, 3), (124, .iconst 0, 1), (125, .istore 4, 2), (127, .iload 4, 2), (129, .ifCond .eq 12, 3), (132, .aload_n 0, 1), (133, .getfield 85, 3), (136, .iload_n 1, 1), (137, .iaload, 1), (138, .goto 5, 3), (141, .bipush (-13), 2)]
def hb_c279_2 : List (Nat × Instr × Nat) := [(143, .ireturn, 1)]
def hb_m279 : px_M := (hb_h279, hb_c279_0 ++ (hb_c279_1 ++ (hb_c279_2)), hb_L12)
def hb_c280_0 : List (Nat × Instr × Nat) := [(0, .aload_n 0, 1), (1, .getfield 321, 3), (4, .bipush 30, 2), (6, .if_icmp .ge 23, 3), (9, .aload_n 0, 1), (10, .getfield 88, 3), (13, .aload_n 0, 1), (14, .getfield 321, 3), (17, .iload_n 1, 1), (18, .iastore, 1), (19, .aload_n 0, 1), (20, .dup, 1), (21, .getfield 321, 3), (24, .iconst 1, 1), (25, .iadd, 1), (26, .putfield 321, 3), (29, .return_, 1)]
def hb_m280 : px_M := (hb_h280, hb_c280_0, hb_L12)
def hb_c281_0 : List (Nat × Instr × Nat) := [(0, .aload_n 0, 1), (1, .bipush 10, 2), (3, .invokevirtual 324, 3), (6, .iload_n 1, 1), (7, .aload_n 0, 1), (8, .getfield 327, 3), (11, .iadd, 1), (12, .ireturn, 1)]
def hb_m281 : px_M := (hb_h281, hb_c281_0, hb_L12)
def hb_c282_0 : List (Nat × Instr × Nat) := [(0, .aload_n 0, 1), (1, .getfield 330, 3), (4, .iconst 1, 1), (5, .if_icmp .ne 18, 3), (8, .aload_n 0, 1), (9, .bipush 20, 2), (11, .invokevirtual 324, 3), (14, .aload_n 0, 1), (15, .iload_n 1, 1), (16, .invokevirtual 333, 3), (19, .bipush 40, 2), (21, .isub, 1), (22, .ireturn, 1), (23, .aload_n 0, 1), (24, .getfield 330, 3), (27, .iconst 3, 1), (28, .if_icmp .ne 17, 3), (31, .aload_n 0, 1), (32, .bipush 40, 2), (34, .invokevirtual 324, 3), (37, .aload_n 0, 1), (38, .iload_n 1, 1), (39, .invokevirtual 333, 3), (42, .iconst 3, 1), (43, .imul, 1), (44, .ireturn, 1), (45, .aload_n 0, 1), (46, .iload_n 1, 1), (47, .invokevirtual 333, 3), (50, .ireturn, 1)]
def hb_m282 : px_M := (hb_h282, hb_c282_0, hb_L12)
def hb_c283_0 : List (Nat × Instr × Nat) := [(0, .aload_n 0, 1), (1, .bipush 11, 2), (3, .invokevirtual 324, 3), (6, .aload_n 0, 1), (7, .iload_n 1, 1), (8, .invokevirtual 336, 3), (11, .iconst 2, 1), (12, .imul, 1), (13, .aload_n 0, 1), (14, .getfield 339, 3), (17, .isub, 1), (18, .ireturn, 1)]
def hb_m283 : px_M := (hb_h283, hb_c283_0, hb_L12)
def hb_c284_0 : List (Nat × Instr × Nat) := [(0, .aload_n 0, 1), (1, .getfield 330, 3), (4, .tableswitch 87 2 6 #[36, 36, 87, 53, 67], 36), (40, .aload_n 0, 1), (41, .bipush 30, 2), (43, .invokevirtual 324, 3), (46, .aload_n 0, 1), (47, .iload_n 1, 1), (48, .invokevirtual 342, 3), (51, .aload_n 0, 1), (52, .getfield 327, 3), (55, .iadd, 1), (56, .ireturn, 1), (57, .aload_n 0, 1), (58, .bipush 60, 2), (60, .invokevirtual 324, 3), (63, .iconst 0, 1), (64, .aload_n 0, 1), (65, .iload_n 1, 1), (66, .invokevirtual 342, 3), (69, .isub, 1), (70, .ireturn, 1), (71, .aload_n 0, 1), (72, .bipush 71, 2), (74, .invokevirtual 324, 3), (77, .aload_n 0, 1), (78, .iload_n 1, 1), (79, .invokevirtual 342, 3), (82, .istore_n 2, 1), (83, .iload_n 2, 1), (84, .aload_n 0, 1), (85, .iconst 0, 1), (86, .invokevirtual 336, 3), (89, .iadd, 1), (90, .ireturn, 1), (91, .aload_n 0, 1), (92, .iload_n 1, 1), (93, .invokevirtual 342, 3), (96, .ireturn, 1)]
def hb_m284 : px_M := (hb_h284, hb_c284_0, hb_L12)
def hb_c285_0 : List (Nat × Instr × Nat) := [(0, .aload_n 0, 1), (1, .bipush 12, 2), (3, .invokevirtual 324, 3), (6, .aload_n 0, 1), (7, .aload_n 0, 1), (8, .getfield 327, 3), (11, .aload_n 0, 1), (12, .getfield 339, 3), (15, .if_icmp .ne 7, 3), (18, .iconst 1, 1), (19, .goto 4, 3), (22, .iconst 0, 1), (23, .putfield 345, 3), (26, .aload_n 0, 1), (27, .getfield 345, 3), (30, .ifCond .eq 7, 3), (33, .iconst 0, 1), (34, .goto 14, 3), (37, .iload_n 1, 1), (38, .aload_n 0, 1), (39, .getfield 327, 3), (42, .aload_n 0, 1), (43, .getfield 339, 3), (46, .isub, 1), (47, .idiv, 1), (48, .ireturn, 1)]
def hb_m285 : px_M := (hb_h285, hb_c285_0, hb_L12)
def hb_c286_0 : List (Nat × Instr × Nat) := [(0, .aload_n 0, 1), (1, .getfield 330, 3), (4, .iconst 1, 1), (5, .if_icmp .ne 34, 3), (8, .aload_n 0, 1), (9, .bipush 21, 2), (11, .invokevirtual 324, 3), (14, .aload_n 0, 1), (15, .iload_n 1, 1), (16, .invokevirtual 348, 3), (19, .istore_n 2, 1), (20, .aload_n 0, 1), (21, .getfield 345, 3), (24, .ifCond .eq 7, 3), (27, .iconst 0, 1), (28, .goto 10, 3), (31, .iload_n 2, 1), (32, .aload_n 0, 1), (33, .iconst 1, 1), (34, .invokevirtual 336, 3), (37, .iadd, 1), (38, .ireturn, 1), (39, .aload_n 0, 1), (40, .getfield 330, 3), (43, .bipush 6, 2), (45, .if_icmp .ne 17, 3), (48, .aload_n 0, 1), (49, .bipush 70, 2), (51, .invokevirtual 324, 3), (54, .aload_n 0, 1), (55, .iload_n 1, 1), (56, .iconst 2, 1), (57, .imul, 1), (58, .invokevirtual 348, 3), (61, .ireturn, 1), (62, .aload_n 0, 1), (63, .iload_n 1, 1), (64, .invokevirtual 348, 3), (67, .ireturn, 1)]
def hb_m286 : px_M := (hb_h286, hb_c286_0, hb_L12)
def hb_c287_0 : List (Nat × Instr × Nat) := [(0, .aload_n 0, 1), (1, .bipush 13, 2), (3, .invokevirtual 324, 3), (6, .aload_n 0, 1), (7, .iload_n 1, 1), (8, .invokevirtual 351, 3), (11, .aload_n 0, 1), (12, .getfield 327, 3), (15, .ixor, 1), (16, .ireturn, 1)]
def hb_m287 : px_M := (hb_h287, hb_c287_0, hb_L12)
def hb_c288_0 : List (Nat × Instr × Nat) := [(0, .aload_n 0, 1), (1, .getfield 330, 3), (4, .iconst 3, 1), (5, .if_icmp .ne 17, 3), (8, .aload_n 0, 1), (9, .bipush 41, 2), (11, .invokevirtual 324, 3), (14, .aload_n 0, 1), (15, .iload_n 1, 1), (16, .invokevirtual 354, 3), (19, .iconst 1, 1), (20, .isub, 1), (21, .ireturn, 1), (22, .aload_n 0, 1), (23, .getfield 330, 3), (26, .iconst 4, 1), (27, .if_icmp .eq 11, 3), (30, .aload_n 0, 1), (31, .getfield 330, 3), (34, .iconst 5, 1), (35, .if_icmp .ne 23, 3), (38, .aload_n 0, 1), (39, .bipush 50, 2), (41, .invokevirtual 324, 3), (44, .aload_n 0, 1), (45, .iload_n 1, 1), (46, .invokevirtual 354, 3), (49, .istore_n 2, 1), (50, .iload_n 2, 1), (51, .aload_n 0, 1), (52, .iload_n 1, 1), (53, .invokevirtual 336, 3), (56, .ixor, 1), (57, .ireturn, 1), (58, .aload_n 0, 1), (59, .iload_n 1, 1), (60, .invokevirtual 354, 3), (63, .ireturn, 1)]
def hb_m288 : px_M := (hb_h288, hb_c288_0, hb_L12)
def hb_c289_0 : List (Nat × Instr × Nat) := [(0, .aload_n 0, 1), (1, .iconst 0, 1), (2, .putfield 321, 3), (5, .iload_n 1, 1), (6, .invokestatic 308, 3), (9, .ifCond .eq 20, 3), (12, .iload_n 2, 1), (13, .iconst 0, 1), (14, .iconst 3, 1), (15, .invokestatic 91, 3), (18, .ifCond .eq 11, 3), (21, .aload_n 0, 1), (22, .iload_n 1, 1), (23, .invokevirtual 318, 3), (26, .ifCond .ge 5, 3), (29, .iconst 0, 1), (30, .ireturn, 1), (31, .aload_n 0, 1), (32, .aload_n 0, 1), (33, .iload_n 1, 1), (34, .invokevirtual 318, 3), (37, .putfield 330, 3), (40, .aload_n 0, 1), (41, .aload_n 0, 1), (42, .getfield 85, 3), (45, .iload_n 1, 1), (46, .iaload, 1), (47, .putfield 339, 3), (50, .aload_n 0, 1), (51, .aload_n 0, 1), (52, .getfield 330, 3), (55, .iconst 1, 1), (56, .if_icmp .ne 18, 3), (59, .aload_n 0, 1), (60, .getfield 7, 3), (63, .bipush 16, 2), (65, .aload_n 0, 1), (66, .getfield 339, 3), (69, .iadd, 1), (70, .iaload, 1)]
def hb_c289_1 : List (Nat × Instr × Nat) := [(71, .goto 96, 3), (74, .aload_n 0, 1), (75, .getfield 330, 3), (78, .iconst 4, 1), (79, .if_icmp .ge 21, 3), (82, .aload_n 0, 1), (83, .getfield 7, 3), (86, .sipush 216, 3), (89, .iconst 4, 1), (90, .aload_n 0, 1), (91, .getfield 339, 3), (94, .imul, 1), (95, .iadd, 1), (96, .iaload, 1), (97, .goto 70, 3), (100, .aload_n 0, 1), (101, .getfield 330, 3), (104, .iconst 4, 1), (105, .if_icmp .ne 19, 3), (108, .aload_n 0, 1), (109, .getfield 7, 3), (112, .sipush 284, 3), (115, .aload_n 0, 1), (116, .getfield 339, 3), (119, .iadd, 1), (120, .iaload, 1), (121, .goto 46, 3), (124, .aload_n 0, 1), (125, .getfield 330, 3), (128, .iconst 5, 1), (129, .if_icmp .ne 21, 3), (132, .aload_n 0, 1), (133, .getfield 7, 3), (136, .sipush 294, 3), (139, .iconst 3, 1), (140, .aload_n 0, 1), (141, .getfield 339, 3), (144, .imul, 1), (145, .iadd, 1), (146, .iaload, 1)]
def hb_c289_2 : List (Nat × Instr × Nat) := [(147, .goto 20, 3), (150, .aload_n 0, 1), (151, .getfield 7, 3), (154, .sipush 318, 3), (157, .iconst 3, 1), (158, .aload_n 0, 1), (159, .getfield 339, 3), (162, .imul, 1), (163, .iadd, 1), (164, .iconst 1, 1), (165, .iadd, 1), (166, .iaload, 1), (167, .putfield 327, 3), (170, .aload_n 0, 1), (171, .iconst 0, 1), (172, .putfield 345, 3), (175, .iload_n 2, 1), (176, .ifCond .ne 11, 3), (179, .aload_n 0, 1), (180, .iload_n 3, 1), (181, .invokevirtual 336, 3), (184, .goto 34, 3), (187, .iload_n 2, 1), (188, .iconst 1, 1), (189, .if_icmp .ne 11, 3), (192, .aload_n 0, 1), (193, .iload_n 3, 1), (194, .invokevirtual 351, 3), (197, .goto 21, 3), (200, .iload_n 2, 1), (201, .iconst 2, 1), (202, .if_icmp .ne 11, 3), (205, .aload_n 0, 1), (206, .iload_n 3, 1), (207, .invokevirtual 357, 3), (210, .goto 8, 3), (213, .aload_n 0, 1), (214, .iload_n 3, 1), (215, .invokevirtual 360, 3), (218, .istore 4, 2)]
def hb_c289_3 : List (Nat × Instr × Nat) := [(220, .aload_n 0, 1), (221, .getfield 345, 3), (224, .ifCond .eq 8, 3), (227, .bipush (-15), 2), (229, .goto 5, 3), (232, .iload 4, 2), (234, .ireturn, 1)]
def hb_m289 : px_M := (hb_h289, hb_c289_0 ++ (hb_c289_1 ++ (hb_c289_2 ++ (hb_c289_3))), hb_L12)
def hb_c290_0 : List (Nat × Instr × Nat) := [(0, .iload_n 1, 1), (1, .iconst 0, 1), (2, .aload_n 0, 1), (3, .getfield 321, 3), (6, .iconst 1, 1), (7, .isub, 1), (8, .invokestatic 91, 3), (11, .ifCond .eq 12, 3), (14, .aload_n 0, 1), (15, .getfield 88, 3), (18, .iload_n 1, 1), (19, .iaload, 1), (20, .goto 5, 3), (23, .bipush (-3), 2), (25, .ireturn, 1)]
def hb_m290 : px_M := (hb_h290, hb_c290_0, hb_L12)
def hb_c291_0 : List (Nat × Instr × Nat) := [(0, .iload_n 1, 1), (1, .tableswitch 137 0 15 #[79, 86, 86, 86, 86, 86, 86, 86, 86, 86, 86, 97, 102, 107, 112, 122], 79), (80, .aload_n 0, 1), (81, .getfield 7, 3), (84, .iconst 0, 1), (85, .iaload, 1), (86, .ireturn, 1), (87, .aload_n 0, 1), (88, .getfield 7, 3), (91, .iconst 2, 1), (92, .iload_n 1, 1), (93, .iadd, 1), (94, .iconst 1, 1), (95, .isub, 1), (96, .iaload, 1), (97, .ireturn, 1), (98, .aload_n 0, 1), (99, .getfield 177, 3), (102, .ireturn, 1), (103, .aload_n 0, 1), (104, .getfield 215, 3), (107, .ireturn, 1), (108, .aload_n 0, 1), (109, .getfield 321, 3), (112, .ireturn, 1), (113, .aload_n 0, 1), (114, .bipush 24, 2), (116, .bipush 8, 2), (118, .iconst 1, 1), (119, .invokevirtual 302, 3), (122, .ireturn, 1), (123, .aload_n 0, 1), (124, .sipush 176, 3), (127, .aload_n 0, 1), (128, .getfield 7, 3), (131, .iconst 4, 1), (132, .iaload, 1), (133, .iconst 4, 1), (134, .invokevirtual 302, 3), (137, .ireturn, 1)]
def hb_c291_1 : List (Nat × Instr × Nat) := [(138, .iconst (-1), 1), (139, .ireturn, 1)]
def hb_m291 : px_M := (hb_h291, hb_c291_0 ++ (hb_c291_1), hb_L12)
def hb_c292_0 : List (Nat × Instr × Nat) := [(0, .iconst 0, 1), (1, .istore_n 1, 1), (2, .iload_n 1, 1), (3, .sipush 1580, 3), (6, .if_icmp .ge 21, 3), (9, .aload_n 0, 1), (10, .getfield 13, 3), (13, .iload_n 1, 1), (14, .aload_n 0, 1), (15, .getfield 7, 3), (18, .iload_n 1, 1), (19, .iaload, 1), (20, .iastore, 1), (21, .iinc 1 1, 3), (24, .goto (-22), 3), (27, .aload_n 0, 1), (28, .iconst 1, 1), (29, .putfield 363, 3), (32, .iconst 1, 1), (33, .ireturn, 1)]
def hb_m292 : px_M := (hb_h292, hb_c292_0, hb_L12)
def hb_c293_0 : List (Nat × Instr × Nat) := [(0, .aload_n 0, 1), (1, .getfield 363, 3), (4, .ifCond .ne 6, 3), (7, .bipush (-3), 2), (9, .ireturn, 1), (10, .iconst 0, 1), (11, .istore_n 1, 1), (12, .iload_n 1, 1), (13, .sipush 1580, 3), (16, .if_icmp .ge 21, 3), (19, .aload_n 0, 1), (20, .getfield 7, 3), (23, .iload_n 1, 1), (24, .aload_n 0, 1), (25, .getfield 13, 3), (28, .iload_n 1, 1), (29, .iaload, 1), (30, .iastore, 1), (31, .iinc 1 1, 3), (34, .goto (-22), 3), (37, .iconst 1, 1), (38, .ireturn, 1)]
def hb_m293 : px_M := (hb_h293, hb_c293_0, hb_L12)
def hb_c294_0 : List (Nat × Instr × Nat) := [(0, .iload_n 0, 1), (1, .iload_n 0, 1), (2, .iconst 1, 1), (3, .iushr, 1), (4, .ldc_w 265, 3), (7, .iand, 1), (8, .isub, 1), (9, .istore_n 0, 1), (10, .iload_n 0, 1), (11, .ldc_w 266, 3), (14, .iand, 1), (15, .iload_n 0, 1), (16, .iconst 2, 1), (17, .iushr, 1), (18, .ldc_w 266, 3), (21, .iand, 1), (22, .iadd, 1), (23, .istore_n 0, 1), (24, .iload_n 0, 1), (25, .iload_n 0, 1), (26, .iconst 4, 1), (27, .iushr, 1), (28, .iadd, 1), (29, .ldc_w 267, 3), (32, .iand, 1), (33, .istore_n 0, 1), (34, .iload_n 0, 1), (35, .iload_n 0, 1), (36, .bipush 8, 2), (38, .iushr, 1), (39, .iadd, 1), (40, .istore_n 0, 1), (41, .iload_n 0, 1), (42, .iload_n 0, 1), (43, .bipush 16, 2), (45, .iushr, 1), (46, .iadd, 1), (47, .istore_n 0, 1), (48, .iload_n 0, 1), (49, .bipush 63, 2)]
def hb_c294_1 : List (Nat × Instr × Nat) := [(51, .iand, 1), (52, .ireturn, 1)]
def hb_m294 : px_M := (hb_h294, hb_c294_0 ++ (hb_c294_1), hb_L13)
def hb_c295_0 : List (Nat × Instr × Nat) := [(0, .aload_n 0, 1), (1, .getfield 9, 3), (4, .arraylength, 1), (5, .aload_n 0, 1), (6, .invokevirtual 335, 3), (9, .ishr, 1), (10, .ireturn, 1)]
def hb_m295 : px_M := (hb_h295, hb_c295_0, hb_L14)
def hb_c296_0 : List (Nat × Instr × Nat) := [(0, .aload_n 0, 1), (1, .invokevirtual 492, 3), (4, .ifCond .eq 12, 3), (7, .aload_n 0, 1), (8, .getfield 9, 3), (11, .iload_n 1, 1), (12, .invokestatic 495, 3), (15, .ireturn, 1), (16, .aload_n 0, 1), (17, .getfield 9, 3), (20, .iload_n 1, 1), (21, .invokestatic 498, 3), (24, .ireturn, 1)]
def hb_m296 : px_M := (hb_h296, hb_c296_0, hb_L14)
def hb_c297_0 : List (Nat × Instr × Nat) := [(0, .getstatic 38, 3), (3, .ifCond .eq 10, 3), (6, .aload_n 0, 1), (7, .getfield 15, 3), (10, .goto 4, 3), (13, .iconst 1, 1), (14, .ireturn, 1)]
def hb_m297 : px_M := (hb_h297, hb_c297_0, hb_L14)
def hb_c298_0 : List (Nat × Instr × Nat) := [(0, .getstatic 38, 3), (3, .ifCond .eq 14, 3), (6, .aload_n 0, 1), (7, .getfield 15, 3), (10, .ifCond .ne 7, 3), (13, .iconst 1, 1), (14, .goto 4, 3), (17, .iconst 0, 1), (18, .ireturn, 1)]
def hb_m298 : px_M := (hb_h298, hb_c298_0, hb_L14)
def hb_c299_0 : List (Nat × Instr × Nat) := [(0, .iload_n 0, 1), (1, .iload_n 1, 1), (2, .getstatic 1053, 3), (5, .invokestatic 1059, 3), (8, .pop, 1), (9, .return_, 1)]
def hb_m299 : px_M := (hb_h299, hb_c299_0, hb_L14)
def hb_c300_0 : List (Nat × Instr × Nat) := [(0, .iload_n 1, 1), (1, .aload_n 0, 1), (2, .arraylength, 1), (3, .invokestatic 9, 3), (6, .aload_n 0, 1), (7, .iload_n 1, 1), (8, .baload, 1), (9, .sipush 255, 3), (12, .iand, 1), (13, .i2c, 1), (14, .ireturn, 1)]
def hb_m300 : px_M := (hb_h300, hb_c300_0, hb_L15)
def hb_c301_0 : List (Nat × Instr × Nat) := [(0, .iload_n 0, 1), (1, .ifCond .lt 8, 3), (4, .iload_n 0, 1), (5, .iload_n 1, 1), (6, .if_icmp .lt 10, 3), (9, .aload_n 2, 1), (10, .iload_n 0, 1), (11, .iload_n 1, 1), (12, .invokestatic 95, 3), (15, .athrow, 1), (16, .iload_n 0, 1), (17, .ireturn, 1)]
def hb_m301 : px_M := (hb_h301, hb_c301_0, hb_L16)
def hb_c302_0 : List (Nat × Instr × Nat) := [(0, .new 7, 3), (3, .dup, 1), (4, .invokespecial 9, 3), (7, .astore_n 1, 1), (8, .new 10, 3), (11, .dup, 1), (12, .invokespecial 12, 3), (15, .astore_n 2, 1), (16, .iconst 0, 1), (17, .istore_n 3, 1), (18, .iload_n 3, 1), (19, .aload_n 0, 1), (20, .arraylength, 1), (21, .bipush 6, 2), (23, .isub, 1), (24, .if_icmp .gt 1920, 3), (27, .aload_n 0, 1), (28, .iload_n 3, 1), (29, .iaload, 1), (30, .bipush 63, 2), (32, .iand, 1), (33, .tableswitch 1905 0 51 #[223, 246, 289, 322, 371, 404, 417, 450, 503, 526, 579, 632, 665, 718, 741, 754, 767, 800, 843, 856, 899, 952, 975, 998, 1021, 1044, 1087, 1110, 1133, 1166, 1189, 1212, 1235, 1258, 1321, 1334, 1367, 1390, 1423, 1456, 1489, 1522, 1565, 1608, 1651, 1714, 1757, 1790, 1833, 1856, 1879, 1892], 223), (256, .aload_n 1, 1), (257, .aload_n 0, 1), (258, .iload_n 3, 1), (259, .iconst 1, 1), (260, .iadd, 1), (261, .iaload, 1), (262, .invokevirtual 13, 3), (265, .pop, 1), (266, .aload_n 2, 1), (267, .aload_n 0, 1), (268, .iload_n 3, 1), (269, .iconst 1, 1), (270, .iadd, 1), (271, .iaload, 1), (272, .invokevirtual 17, 3), (275, .pop, 1), (276, .goto 1662, 3), (279, .aload_n 1, 1)]
def hb_c302_1 : List (Nat × Instr × Nat) := [(280, .aload_n 0, 1), (281, .iload_n 3, 1), (282, .iconst 1, 1), (283, .iadd, 1), (284, .iaload, 1), (285, .aload_n 0, 1), (286, .iload_n 3, 1), (287, .iconst 2, 1), (288, .iadd, 1), (289, .iaload, 1), (290, .aload_n 0, 1), (291, .iload_n 3, 1), (292, .iconst 3, 1), (293, .iadd, 1), (294, .iaload, 1), (295, .invokevirtual 18, 3), (298, .pop, 1), (299, .aload_n 2, 1), (300, .aload_n 0, 1), (301, .iload_n 3, 1), (302, .iconst 1, 1), (303, .iadd, 1), (304, .iaload, 1), (305, .aload_n 0, 1), (306, .iload_n 3, 1), (307, .iconst 2, 1), (308, .iadd, 1), (309, .iaload, 1), (310, .aload_n 0, 1), (311, .iload_n 3, 1), (312, .iconst 3, 1), (313, .iadd, 1), (314, .iaload, 1), (315, .invokevirtual 22, 3), (318, .pop, 1), (319, .goto 1619, 3), (322, .aload_n 1, 1), (323, .aload_n 0, 1), (324, .iload_n 3, 1), (325, .iconst 1, 1)]
def hb_c302_2 : List (Nat × Instr × Nat) := [(326, .iadd, 1), (327, .iaload, 1), (328, .aload_n 0, 1), (329, .iload_n 3, 1), (330, .iconst 2, 1), (331, .iadd, 1), (332, .iaload, 1), (333, .invokevirtual 23, 3), (336, .pop, 1), (337, .aload_n 2, 1), (338, .aload_n 0, 1), (339, .iload_n 3, 1), (340, .iconst 1, 1), (341, .iadd, 1), (342, .iaload, 1), (343, .aload_n 0, 1), (344, .iload_n 3, 1), (345, .iconst 2, 1), (346, .iadd, 1), (347, .iaload, 1), (348, .invokevirtual 27, 3), (351, .pop, 1), (352, .goto 1586, 3), (355, .aload_n 1, 1), (356, .aload_n 0, 1), (357, .iload_n 3, 1), (358, .iconst 1, 1), (359, .iadd, 1), (360, .iaload, 1), (361, .aload_n 0, 1), (362, .iload_n 3, 1), (363, .iconst 2, 1), (364, .iadd, 1), (365, .iaload, 1), (366, .ifCond .eq 7, 3), (369, .iconst 1, 1), (370, .goto 4, 3), (373, .iconst 0, 1), (374, .invokevirtual 28, 3), (377, .pop, 1)]
def hb_c302_3 : List (Nat × Instr × Nat) := [(378, .aload_n 2, 1), (379, .aload_n 0, 1), (380, .iload_n 3, 1), (381, .iconst 1, 1), (382, .iadd, 1), (383, .iaload, 1), (384, .aload_n 0, 1), (385, .iload_n 3, 1), (386, .iconst 2, 1), (387, .iadd, 1), (388, .iaload, 1), (389, .ifCond .eq 7, 3), (392, .iconst 1, 1), (393, .goto 4, 3), (396, .iconst 0, 1), (397, .invokevirtual 32, 3), (400, .pop, 1), (401, .goto 1537, 3), (404, .aload_n 1, 1), (405, .aload_n 0, 1), (406, .iload_n 3, 1), (407, .iconst 1, 1), (408, .iadd, 1), (409, .iaload, 1), (410, .aload_n 0, 1), (411, .iload_n 3, 1), (412, .iconst 2, 1), (413, .iadd, 1), (414, .iaload, 1), (415, .invokevirtual 33, 3), (418, .pop, 1), (419, .aload_n 2, 1), (420, .aload_n 0, 1), (421, .iload_n 3, 1), (422, .iconst 1, 1), (423, .iadd, 1), (424, .iaload, 1), (425, .aload_n 0, 1), (426, .iload_n 3, 1), (427, .iconst 2, 1)]
def hb_c302_4 : List (Nat × Instr × Nat) := [(428, .iadd, 1), (429, .iaload, 1), (430, .invokevirtual 36, 3), (433, .pop, 1), (434, .goto 1504, 3), (437, .aload_n 1, 1), (438, .invokevirtual 37, 3), (441, .pop, 1), (442, .aload_n 2, 1), (443, .invokevirtual 41, 3), (446, .pop, 1), (447, .goto 1491, 3), (450, .aload_n 1, 1), (451, .aload_n 0, 1), (452, .iload_n 3, 1), (453, .iconst 1, 1), (454, .iadd, 1), (455, .iaload, 1), (456, .aload_n 0, 1), (457, .iload_n 3, 1), (458, .iconst 2, 1), (459, .iadd, 1), (460, .iaload, 1), (461, .invokevirtual 42, 3), (464, .pop, 1), (465, .aload_n 2, 1), (466, .aload_n 0, 1), (467, .iload_n 3, 1), (468, .iconst 1, 1), (469, .iadd, 1), (470, .iaload, 1), (471, .aload_n 0, 1), (472, .iload_n 3, 1), (473, .iconst 2, 1), (474, .iadd, 1), (475, .iaload, 1), (476, .invokevirtual 45, 3), (479, .pop, 1), (480, .goto 1458, 3), (483, .aload_n 1, 1)]
def hb_c302_5 : List (Nat × Instr × Nat) := [(484, .aload_n 0, 1), (485, .iload_n 3, 1), (486, .iconst 1, 1), (487, .iadd, 1), (488, .iaload, 1), (489, .aload_n 0, 1), (490, .iload_n 3, 1), (491, .iconst 2, 1), (492, .iadd, 1), (493, .iaload, 1), (494, .aload_n 0, 1), (495, .iload_n 3, 1), (496, .iconst 3, 1), (497, .iadd, 1), (498, .iaload, 1), (499, .aload_n 0, 1), (500, .iload_n 3, 1), (501, .iconst 4, 1), (502, .iadd, 1), (503, .iaload, 1), (504, .invokevirtual 46, 3), (507, .pop, 1), (508, .aload_n 2, 1), (509, .aload_n 0, 1), (510, .iload_n 3, 1), (511, .iconst 1, 1), (512, .iadd, 1), (513, .iaload, 1), (514, .aload_n 0, 1), (515, .iload_n 3, 1), (516, .iconst 2, 1), (517, .iadd, 1), (518, .iaload, 1), (519, .aload_n 0, 1), (520, .iload_n 3, 1), (521, .iconst 3, 1), (522, .iadd, 1), (523, .iaload, 1), (524, .aload_n 0, 1), (525, .iload_n 3, 1)]
def hb_c302_6 : List (Nat × Instr × Nat) := [(526, .iconst 4, 1), (527, .iadd, 1), (528, .iaload, 1), (529, .invokevirtual 50, 3), (532, .pop, 1), (533, .goto 1405, 3), (536, .aload_n 1, 1), (537, .aload_n 0, 1), (538, .iload_n 3, 1), (539, .iconst 1, 1), (540, .iadd, 1), (541, .iaload, 1), (542, .invokevirtual 51, 3), (545, .pop, 1), (546, .aload_n 2, 1), (547, .aload_n 0, 1), (548, .iload_n 3, 1), (549, .iconst 1, 1), (550, .iadd, 1), (551, .iaload, 1), (552, .invokevirtual 54, 3), (555, .pop, 1), (556, .goto 1382, 3), (559, .aload_n 1, 1), (560, .aload_n 0, 1), (561, .iload_n 3, 1), (562, .iconst 1, 1), (563, .iadd, 1), (564, .iaload, 1), (565, .aload_n 0, 1), (566, .iload_n 3, 1), (567, .iconst 2, 1), (568, .iadd, 1), (569, .iaload, 1), (570, .aload_n 0, 1), (571, .iload_n 3, 1), (572, .iconst 3, 1), (573, .iadd, 1), (574, .iaload, 1), (575, .aload_n 0, 1)]
def hb_c302_7 : List (Nat × Instr × Nat) := [(576, .iload_n 3, 1), (577, .iconst 4, 1), (578, .iadd, 1), (579, .iaload, 1), (580, .invokevirtual 55, 3), (583, .pop, 1), (584, .aload_n 2, 1), (585, .aload_n 0, 1), (586, .iload_n 3, 1), (587, .iconst 1, 1), (588, .iadd, 1), (589, .iaload, 1), (590, .aload_n 0, 1), (591, .iload_n 3, 1), (592, .iconst 2, 1), (593, .iadd, 1), (594, .iaload, 1), (595, .aload_n 0, 1), (596, .iload_n 3, 1), (597, .iconst 3, 1), (598, .iadd, 1), (599, .iaload, 1), (600, .aload_n 0, 1), (601, .iload_n 3, 1), (602, .iconst 4, 1), (603, .iadd, 1), (604, .iaload, 1), (605, .invokevirtual 58, 3), (608, .pop, 1), (609, .goto 1329, 3), (612, .aload_n 1, 1), (613, .aload_n 0, 1), (614, .iload_n 3, 1), (615, .iconst 1, 1), (616, .iadd, 1), (617, .iaload, 1), (618, .aload_n 0, 1), (619, .iload_n 3, 1), (620, .iconst 2, 1), (621, .iadd, 1)]
def hb_c302_8 : List (Nat × Instr × Nat) := [(622, .iaload, 1), (623, .aload_n 0, 1), (624, .iload_n 3, 1), (625, .iconst 3, 1), (626, .iadd, 1), (627, .iaload, 1), (628, .aload_n 0, 1), (629, .iload_n 3, 1), (630, .iconst 4, 1), (631, .iadd, 1), (632, .iaload, 1), (633, .invokevirtual 59, 3), (636, .pop, 1), (637, .aload_n 2, 1), (638, .aload_n 0, 1), (639, .iload_n 3, 1), (640, .iconst 1, 1), (641, .iadd, 1), (642, .iaload, 1), (643, .aload_n 0, 1), (644, .iload_n 3, 1), (645, .iconst 2, 1), (646, .iadd, 1), (647, .iaload, 1), (648, .aload_n 0, 1), (649, .iload_n 3, 1), (650, .iconst 3, 1), (651, .iadd, 1), (652, .iaload, 1), (653, .aload_n 0, 1), (654, .iload_n 3, 1), (655, .iconst 4, 1), (656, .iadd, 1), (657, .iaload, 1), (658, .invokevirtual 62, 3), (661, .pop, 1), (662, .goto 1276, 3), (665, .aload_n 1, 1), (666, .aload_n 0, 1), (667, .iload_n 3, 1)]
def hb_c302_9 : List (Nat × Instr × Nat) := [(668, .iconst 1, 1), (669, .iadd, 1), (670, .iaload, 1), (671, .aload_n 0, 1), (672, .iload_n 3, 1), (673, .iconst 2, 1), (674, .iadd, 1), (675, .iaload, 1), (676, .invokevirtual 63, 3), (679, .pop, 1), (680, .aload_n 2, 1), (681, .aload_n 0, 1), (682, .iload_n 3, 1), (683, .iconst 1, 1), (684, .iadd, 1), (685, .iaload, 1), (686, .aload_n 0, 1), (687, .iload_n 3, 1), (688, .iconst 2, 1), (689, .iadd, 1), (690, .iaload, 1), (691, .invokevirtual 66, 3), (694, .pop, 1), (695, .goto 1243, 3), (698, .aload_n 1, 1), (699, .aload_n 0, 1), (700, .iload_n 3, 1), (701, .iconst 1, 1), (702, .iadd, 1), (703, .iaload, 1), (704, .aload_n 0, 1), (705, .iload_n 3, 1), (706, .iconst 2, 1), (707, .iadd, 1), (708, .iaload, 1), (709, .aload_n 0, 1), (710, .iload_n 3, 1), (711, .iconst 3, 1), (712, .iadd, 1), (713, .iaload, 1)]
def hb_c302_10 : List (Nat × Instr × Nat) := [(714, .aload_n 0, 1), (715, .iload_n 3, 1), (716, .iconst 4, 1), (717, .iadd, 1), (718, .iaload, 1), (719, .invokevirtual 67, 3), (722, .pop, 1), (723, .aload_n 2, 1), (724, .aload_n 0, 1), (725, .iload_n 3, 1), (726, .iconst 1, 1), (727, .iadd, 1), (728, .iaload, 1), (729, .aload_n 0, 1), (730, .iload_n 3, 1), (731, .iconst 2, 1), (732, .iadd, 1), (733, .iaload, 1), (734, .aload_n 0, 1), (735, .iload_n 3, 1), (736, .iconst 3, 1), (737, .iadd, 1), (738, .iaload, 1), (739, .aload_n 0, 1), (740, .iload_n 3, 1), (741, .iconst 4, 1), (742, .iadd, 1), (743, .iaload, 1), (744, .invokevirtual 70, 3), (747, .pop, 1), (748, .goto 1190, 3), (751, .aload_n 1, 1), (752, .aload_n 0, 1), (753, .iload_n 3, 1), (754, .iconst 1, 1), (755, .iadd, 1), (756, .iaload, 1), (757, .invokevirtual 71, 3), (760, .pop, 1), (761, .aload_n 2, 1)]
def hb_c302_11 : List (Nat × Instr × Nat) := [(762, .aload_n 0, 1), (763, .iload_n 3, 1), (764, .iconst 1, 1), (765, .iadd, 1), (766, .iaload, 1), (767, .invokevirtual 74, 3), (770, .pop, 1), (771, .goto 1167, 3), (774, .aload_n 1, 1), (775, .invokevirtual 75, 3), (778, .pop, 1), (779, .aload_n 2, 1), (780, .invokevirtual 78, 3), (783, .pop, 1), (784, .goto 1154, 3), (787, .aload_n 1, 1), (788, .invokevirtual 79, 3), (791, .pop, 1), (792, .aload_n 2, 1), (793, .invokevirtual 82, 3), (796, .pop, 1), (797, .goto 1141, 3), (800, .aload_n 1, 1), (801, .aload_n 0, 1), (802, .iload_n 3, 1), (803, .iconst 1, 1), (804, .iadd, 1), (805, .iaload, 1), (806, .aload_n 0, 1), (807, .iload_n 3, 1), (808, .iconst 2, 1), (809, .iadd, 1), (810, .iaload, 1), (811, .invokevirtual 83, 3), (814, .pop, 1), (815, .aload_n 2, 1), (816, .aload_n 0, 1), (817, .iload_n 3, 1), (818, .iconst 1, 1), (819, .iadd, 1)]
def hb_c302_12 : List (Nat × Instr × Nat) := [(820, .iaload, 1), (821, .aload_n 0, 1), (822, .iload_n 3, 1), (823, .iconst 2, 1), (824, .iadd, 1), (825, .iaload, 1), (826, .invokevirtual 86, 3), (829, .pop, 1), (830, .goto 1108, 3), (833, .aload_n 1, 1), (834, .aload_n 0, 1), (835, .iload_n 3, 1), (836, .iconst 1, 1), (837, .iadd, 1), (838, .iaload, 1), (839, .aload_n 0, 1), (840, .iload_n 3, 1), (841, .iconst 2, 1), (842, .iadd, 1), (843, .iaload, 1), (844, .aload_n 0, 1), (845, .iload_n 3, 1), (846, .iconst 3, 1), (847, .iadd, 1), (848, .iaload, 1), (849, .invokevirtual 87, 3), (852, .pop, 1), (853, .aload_n 2, 1), (854, .aload_n 0, 1), (855, .iload_n 3, 1), (856, .iconst 1, 1), (857, .iadd, 1), (858, .iaload, 1), (859, .aload_n 0, 1), (860, .iload_n 3, 1), (861, .iconst 2, 1), (862, .iadd, 1), (863, .iaload, 1), (864, .aload_n 0, 1), (865, .iload_n 3, 1)]
def hb_c302_13 : List (Nat × Instr × Nat) := [(866, .iconst 3, 1), (867, .iadd, 1), (868, .iaload, 1), (869, .invokevirtual 90, 3), (872, .pop, 1), (873, .goto 1065, 3), (876, .aload_n 1, 1), (877, .invokevirtual 91, 3), (880, .pop, 1), (881, .aload_n 2, 1), (882, .invokevirtual 94, 3), (885, .pop, 1), (886, .goto 1052, 3), (889, .aload_n 1, 1), (890, .aload_n 0, 1), (891, .iload_n 3, 1), (892, .iconst 1, 1), (893, .iadd, 1), (894, .iaload, 1), (895, .aload_n 0, 1), (896, .iload_n 3, 1), (897, .iconst 2, 1), (898, .iadd, 1), (899, .iaload, 1), (900, .aload_n 0, 1), (901, .iload_n 3, 1), (902, .iconst 3, 1), (903, .iadd, 1), (904, .iaload, 1), (905, .invokevirtual 95, 3), (908, .pop, 1), (909, .aload_n 2, 1), (910, .aload_n 0, 1), (911, .iload_n 3, 1), (912, .iconst 1, 1), (913, .iadd, 1), (914, .iaload, 1), (915, .aload_n 0, 1), (916, .iload_n 3, 1), (917, .iconst 2, 1)]
def hb_c302_14 : List (Nat × Instr × Nat) := [(918, .iadd, 1), (919, .iaload, 1), (920, .aload_n 0, 1), (921, .iload_n 3, 1), (922, .iconst 3, 1), (923, .iadd, 1), (924, .iaload, 1), (925, .invokevirtual 98, 3), (928, .pop, 1), (929, .goto 1009, 3), (932, .aload_n 1, 1), (933, .aload_n 0, 1), (934, .iload_n 3, 1), (935, .iconst 1, 1), (936, .iadd, 1), (937, .iaload, 1), (938, .aload_n 0, 1), (939, .iload_n 3, 1), (940, .iconst 2, 1), (941, .iadd, 1), (942, .iaload, 1), (943, .aload_n 0, 1), (944, .iload_n 3, 1), (945, .iconst 3, 1), (946, .iadd, 1), (947, .iaload, 1), (948, .aload_n 0, 1), (949, .iload_n 3, 1), (950, .iconst 4, 1), (951, .iadd, 1), (952, .iaload, 1), (953, .invokevirtual 99, 3), (956, .pop, 1), (957, .aload_n 2, 1), (958, .aload_n 0, 1), (959, .iload_n 3, 1), (960, .iconst 1, 1), (961, .iadd, 1), (962, .iaload, 1), (963, .aload_n 0, 1)]
def hb_c302_15 : List (Nat × Instr × Nat) := [(964, .iload_n 3, 1), (965, .iconst 2, 1), (966, .iadd, 1), (967, .iaload, 1), (968, .aload_n 0, 1), (969, .iload_n 3, 1), (970, .iconst 3, 1), (971, .iadd, 1), (972, .iaload, 1), (973, .aload_n 0, 1), (974, .iload_n 3, 1), (975, .iconst 4, 1), (976, .iadd, 1), (977, .iaload, 1), (978, .invokevirtual 102, 3), (981, .pop, 1), (982, .goto 956, 3), (985, .aload_n 1, 1), (986, .aload_n 0, 1), (987, .iload_n 3, 1), (988, .iconst 1, 1), (989, .iadd, 1), (990, .iaload, 1), (991, .invokevirtual 103, 3), (994, .pop, 1), (995, .aload_n 2, 1), (996, .aload_n 0, 1), (997, .iload_n 3, 1), (998, .iconst 1, 1), (999, .iadd, 1), (1000, .iaload, 1), (1001, .invokevirtual 106, 3), (1004, .pop, 1), (1005, .goto 933, 3), (1008, .aload_n 1, 1), (1009, .aload_n 0, 1), (1010, .iload_n 3, 1), (1011, .iconst 1, 1), (1012, .iadd, 1), (1013, .iaload, 1)]
def hb_c302_16 : List (Nat × Instr × Nat) := [(1014, .invokevirtual 107, 3), (1017, .pop, 1), (1018, .aload_n 2, 1), (1019, .aload_n 0, 1), (1020, .iload_n 3, 1), (1021, .iconst 1, 1), (1022, .iadd, 1), (1023, .iaload, 1), (1024, .invokevirtual 110, 3), (1027, .pop, 1), (1028, .goto 910, 3), (1031, .aload_n 1, 1), (1032, .aload_n 0, 1), (1033, .iload_n 3, 1), (1034, .iconst 1, 1), (1035, .iadd, 1), (1036, .iaload, 1), (1037, .invokevirtual 111, 3), (1040, .pop, 1), (1041, .aload_n 2, 1), (1042, .aload_n 0, 1), (1043, .iload_n 3, 1), (1044, .iconst 1, 1), (1045, .iadd, 1), (1046, .iaload, 1), (1047, .invokevirtual 114, 3), (1050, .pop, 1), (1051, .goto 887, 3), (1054, .aload_n 1, 1), (1055, .aload_n 0, 1), (1056, .iload_n 3, 1), (1057, .iconst 1, 1), (1058, .iadd, 1), (1059, .iaload, 1), (1060, .invokevirtual 115, 3), (1063, .pop, 1), (1064, .aload_n 2, 1), (1065, .aload_n 0, 1), (1066, .iload_n 3, 1), (1067, .iconst 1, 1)]
def hb_c302_17 : List (Nat × Instr × Nat) := [(1068, .iadd, 1), (1069, .iaload, 1), (1070, .invokevirtual 118, 3), (1073, .pop, 1), (1074, .goto 864, 3), (1077, .aload_n 1, 1), (1078, .aload_n 0, 1), (1079, .iload_n 3, 1), (1080, .iconst 1, 1), (1081, .iadd, 1), (1082, .iaload, 1), (1083, .aload_n 0, 1), (1084, .iload_n 3, 1), (1085, .iconst 2, 1), (1086, .iadd, 1), (1087, .iaload, 1), (1088, .aload_n 0, 1), (1089, .iload_n 3, 1), (1090, .iconst 3, 1), (1091, .iadd, 1), (1092, .iaload, 1), (1093, .invokevirtual 119, 3), (1096, .pop, 1), (1097, .aload_n 2, 1), (1098, .aload_n 0, 1), (1099, .iload_n 3, 1), (1100, .iconst 1, 1), (1101, .iadd, 1), (1102, .iaload, 1), (1103, .aload_n 0, 1), (1104, .iload_n 3, 1), (1105, .iconst 2, 1), (1106, .iadd, 1), (1107, .iaload, 1), (1108, .aload_n 0, 1), (1109, .iload_n 3, 1), (1110, .iconst 3, 1), (1111, .iadd, 1), (1112, .iaload, 1), (1113, .invokevirtual 122, 3)]
def hb_c302_18 : List (Nat × Instr × Nat) := [(1116, .pop, 1), (1117, .goto 821, 3), (1120, .aload_n 1, 1), (1121, .aload_n 0, 1), (1122, .iload_n 3, 1), (1123, .iconst 1, 1), (1124, .iadd, 1), (1125, .iaload, 1), (1126, .invokevirtual 123, 3), (1129, .pop, 1), (1130, .aload_n 2, 1), (1131, .aload_n 0, 1), (1132, .iload_n 3, 1), (1133, .iconst 1, 1), (1134, .iadd, 1), (1135, .iaload, 1), (1136, .invokevirtual 126, 3), (1139, .pop, 1), (1140, .goto 798, 3), (1143, .aload_n 1, 1), (1144, .aload_n 0, 1), (1145, .iload_n 3, 1), (1146, .iconst 1, 1), (1147, .iadd, 1), (1148, .iaload, 1), (1149, .invokevirtual 127, 3), (1152, .pop, 1), (1153, .aload_n 2, 1), (1154, .aload_n 0, 1), (1155, .iload_n 3, 1), (1156, .iconst 1, 1), (1157, .iadd, 1), (1158, .iaload, 1), (1159, .invokevirtual 130, 3), (1162, .pop, 1), (1163, .goto 775, 3), (1166, .aload_n 1, 1), (1167, .aload_n 0, 1), (1168, .iload_n 3, 1), (1169, .iconst 1, 1)]
def hb_c302_19 : List (Nat × Instr × Nat) := [(1170, .iadd, 1), (1171, .iaload, 1), (1172, .aload_n 0, 1), (1173, .iload_n 3, 1), (1174, .iconst 2, 1), (1175, .iadd, 1), (1176, .iaload, 1), (1177, .invokevirtual 131, 3), (1180, .pop, 1), (1181, .aload_n 2, 1), (1182, .aload_n 0, 1), (1183, .iload_n 3, 1), (1184, .iconst 1, 1), (1185, .iadd, 1), (1186, .iaload, 1), (1187, .aload_n 0, 1), (1188, .iload_n 3, 1), (1189, .iconst 2, 1), (1190, .iadd, 1), (1191, .iaload, 1), (1192, .invokevirtual 134, 3), (1195, .pop, 1), (1196, .goto 742, 3), (1199, .aload_n 1, 1), (1200, .aload_n 0, 1), (1201, .iload_n 3, 1), (1202, .iconst 1, 1), (1203, .iadd, 1), (1204, .iaload, 1), (1205, .invokevirtual 135, 3), (1208, .pop, 1), (1209, .aload_n 2, 1), (1210, .aload_n 0, 1), (1211, .iload_n 3, 1), (1212, .iconst 1, 1), (1213, .iadd, 1), (1214, .iaload, 1), (1215, .invokevirtual 138, 3), (1218, .pop, 1), (1219, .goto 719, 3)]
def hb_c302_20 : List (Nat × Instr × Nat) := [(1222, .aload_n 1, 1), (1223, .aload_n 0, 1), (1224, .iload_n 3, 1), (1225, .iconst 1, 1), (1226, .iadd, 1), (1227, .iaload, 1), (1228, .invokevirtual 139, 3), (1231, .pop, 1), (1232, .aload_n 2, 1), (1233, .aload_n 0, 1), (1234, .iload_n 3, 1), (1235, .iconst 1, 1), (1236, .iadd, 1), (1237, .iaload, 1), (1238, .invokevirtual 142, 3), (1241, .pop, 1), (1242, .goto 696, 3), (1245, .aload_n 1, 1), (1246, .aload_n 0, 1), (1247, .iload_n 3, 1), (1248, .iconst 1, 1), (1249, .iadd, 1), (1250, .iaload, 1), (1251, .invokevirtual 143, 3), (1254, .pop, 1), (1255, .aload_n 2, 1), (1256, .aload_n 0, 1), (1257, .iload_n 3, 1), (1258, .iconst 1, 1), (1259, .iadd, 1), (1260, .iaload, 1), (1261, .invokevirtual 146, 3), (1264, .pop, 1), (1265, .goto 673, 3), (1268, .aload_n 1, 1), (1269, .aload_n 0, 1), (1270, .iload_n 3, 1), (1271, .iconst 1, 1), (1272, .iadd, 1), (1273, .iaload, 1)]
def hb_c302_21 : List (Nat × Instr × Nat) := [(1274, .invokevirtual 147, 3), (1277, .pop, 1), (1278, .aload_n 2, 1), (1279, .aload_n 0, 1), (1280, .iload_n 3, 1), (1281, .iconst 1, 1), (1282, .iadd, 1), (1283, .iaload, 1), (1284, .invokevirtual 150, 3), (1287, .pop, 1), (1288, .goto 650, 3), (1291, .aload_n 1, 1), (1292, .aload_n 0, 1), (1293, .iload_n 3, 1), (1294, .iconst 1, 1), (1295, .iadd, 1), (1296, .iaload, 1), (1297, .i2l, 1), (1298, .bipush 32, 2), (1300, .lshl, 1), (1301, .aload_n 0, 1), (1302, .iload_n 3, 1), (1303, .iconst 2, 1), (1304, .iadd, 1), (1305, .iaload, 1), (1306, .i2l, 1), (1307, .ldc2_w 151, 3), (1310, .land, 1), (1311, .lor, 1), (1312, .aload_n 0, 1), (1313, .iload_n 3, 1), (1314, .iconst 3, 1), (1315, .iadd, 1), (1316, .iaload, 1), (1317, .invokevirtual 153, 3), (1320, .pop, 1), (1321, .aload_n 2, 1), (1322, .aload_n 0, 1), (1323, .iload_n 3, 1), (1324, .iconst 1, 1)]
def hb_c302_22 : List (Nat × Instr × Nat) := [(1325, .iadd, 1), (1326, .iaload, 1), (1327, .i2l, 1), (1328, .bipush 32, 2), (1330, .lshl, 1), (1331, .aload_n 0, 1), (1332, .iload_n 3, 1), (1333, .iconst 2, 1), (1334, .iadd, 1), (1335, .iaload, 1), (1336, .i2l, 1), (1337, .ldc2_w 151, 3), (1340, .land, 1), (1341, .lor, 1), (1342, .aload_n 0, 1), (1343, .iload_n 3, 1), (1344, .iconst 3, 1), (1345, .iadd, 1), (1346, .iaload, 1), (1347, .invokevirtual 157, 3), (1350, .pop, 1), (1351, .goto 587, 3), (1354, .aload_n 1, 1), (1355, .invokevirtual 158, 3), (1358, .pop, 1), (1359, .aload_n 2, 1), (1360, .invokevirtual 161, 3), (1363, .pop, 1), (1364, .goto 574, 3), (1367, .aload_n 1, 1), (1368, .aload_n 0, 1), (1369, .iload_n 3, 1), (1370, .iconst 1, 1), (1371, .iadd, 1), (1372, .iaload, 1), (1373, .aload_n 0, 1), (1374, .iload_n 3, 1), (1375, .iconst 2, 1), (1376, .iadd, 1), (1377, .iaload, 1)]
def hb_c302_23 : List (Nat × Instr × Nat) := [(1378, .invokevirtual 162, 3), (1381, .pop, 1), (1382, .aload_n 2, 1), (1383, .aload_n 0, 1), (1384, .iload_n 3, 1), (1385, .iconst 1, 1), (1386, .iadd, 1), (1387, .iaload, 1), (1388, .aload_n 0, 1), (1389, .iload_n 3, 1), (1390, .iconst 2, 1), (1391, .iadd, 1), (1392, .iaload, 1), (1393, .invokevirtual 165, 3), (1396, .pop, 1), (1397, .goto 541, 3), (1400, .aload_n 1, 1), (1401, .aload_n 0, 1), (1402, .iload_n 3, 1), (1403, .iconst 1, 1), (1404, .iadd, 1), (1405, .iaload, 1), (1406, .invokevirtual 166, 3), (1409, .pop, 1), (1410, .aload_n 2, 1), (1411, .aload_n 0, 1), (1412, .iload_n 3, 1), (1413, .iconst 1, 1), (1414, .iadd, 1), (1415, .iaload, 1), (1416, .invokevirtual 169, 3), (1419, .pop, 1), (1420, .goto 518, 3), (1423, .aload_n 1, 1), (1424, .aload_n 0, 1), (1425, .iload_n 3, 1), (1426, .iconst 1, 1), (1427, .iadd, 1), (1428, .iaload, 1), (1429, .aload_n 0, 1)]
def hb_c302_24 : List (Nat × Instr × Nat) := [(1430, .iload_n 3, 1), (1431, .iconst 2, 1), (1432, .iadd, 1), (1433, .iaload, 1), (1434, .invokevirtual 170, 3), (1437, .pop, 1), (1438, .aload_n 2, 1), (1439, .aload_n 0, 1), (1440, .iload_n 3, 1), (1441, .iconst 1, 1), (1442, .iadd, 1), (1443, .iaload, 1), (1444, .aload_n 0, 1), (1445, .iload_n 3, 1), (1446, .iconst 2, 1), (1447, .iadd, 1), (1448, .iaload, 1), (1449, .invokevirtual 173, 3), (1452, .pop, 1), (1453, .goto 485, 3), (1456, .aload_n 1, 1), (1457, .aload_n 0, 1), (1458, .iload_n 3, 1), (1459, .iconst 1, 1), (1460, .iadd, 1), (1461, .iaload, 1), (1462, .aload_n 0, 1), (1463, .iload_n 3, 1), (1464, .iconst 2, 1), (1465, .iadd, 1), (1466, .iaload, 1), (1467, .invokevirtual 174, 3), (1470, .pop, 1), (1471, .aload_n 2, 1), (1472, .aload_n 0, 1), (1473, .iload_n 3, 1), (1474, .iconst 1, 1), (1475, .iadd, 1), (1476, .iaload, 1), (1477, .aload_n 0, 1)]
def hb_c302_25 : List (Nat × Instr × Nat) := [(1478, .iload_n 3, 1), (1479, .iconst 2, 1), (1480, .iadd, 1), (1481, .iaload, 1), (1482, .invokevirtual 177, 3), (1485, .pop, 1), (1486, .goto 452, 3), (1489, .aload_n 1, 1), (1490, .aload_n 0, 1), (1491, .iload_n 3, 1), (1492, .iconst 1, 1), (1493, .iadd, 1), (1494, .iaload, 1), (1495, .aload_n 0, 1), (1496, .iload_n 3, 1), (1497, .iconst 2, 1), (1498, .iadd, 1), (1499, .iaload, 1), (1500, .invokevirtual 178, 3), (1503, .pop, 1), (1504, .aload_n 2, 1), (1505, .aload_n 0, 1), (1506, .iload_n 3, 1), (1507, .iconst 1, 1), (1508, .iadd, 1), (1509, .iaload, 1), (1510, .aload_n 0, 1), (1511, .iload_n 3, 1), (1512, .iconst 2, 1), (1513, .iadd, 1), (1514, .iaload, 1), (1515, .invokevirtual 181, 3), (1518, .pop, 1), (1519, .goto 419, 3), (1522, .aload_n 1, 1), (1523, .aload_n 0, 1), (1524, .iload_n 3, 1), (1525, .iconst 1, 1), (1526, .iadd, 1), (1527, .iaload, 1)]
def hb_c302_26 : List (Nat × Instr × Nat) := [(1528, .aload_n 0, 1), (1529, .iload_n 3, 1), (1530, .iconst 2, 1), (1531, .iadd, 1), (1532, .iaload, 1), (1533, .invokevirtual 182, 3), (1536, .pop, 1), (1537, .aload_n 2, 1), (1538, .aload_n 0, 1), (1539, .iload_n 3, 1), (1540, .iconst 1, 1), (1541, .iadd, 1), (1542, .iaload, 1), (1543, .aload_n 0, 1), (1544, .iload_n 3, 1), (1545, .iconst 2, 1), (1546, .iadd, 1), (1547, .iaload, 1), (1548, .invokevirtual 185, 3), (1551, .pop, 1), (1552, .goto 386, 3), (1555, .aload_n 1, 1), (1556, .aload_n 0, 1), (1557, .iload_n 3, 1), (1558, .iconst 1, 1), (1559, .iadd, 1), (1560, .iaload, 1), (1561, .aload_n 0, 1), (1562, .iload_n 3, 1), (1563, .iconst 2, 1), (1564, .iadd, 1), (1565, .iaload, 1), (1566, .aload_n 0, 1), (1567, .iload_n 3, 1), (1568, .iconst 3, 1), (1569, .iadd, 1), (1570, .iaload, 1), (1571, .invokevirtual 186, 3), (1574, .pop, 1), (1575, .aload_n 2, 1)]
def hb_c302_27 : List (Nat × Instr × Nat) := [(1576, .aload_n 0, 1), (1577, .iload_n 3, 1), (1578, .iconst 1, 1), (1579, .iadd, 1), (1580, .iaload, 1), (1581, .aload_n 0, 1), (1582, .iload_n 3, 1), (1583, .iconst 2, 1), (1584, .iadd, 1), (1585, .iaload, 1), (1586, .aload_n 0, 1), (1587, .iload_n 3, 1), (1588, .iconst 3, 1), (1589, .iadd, 1), (1590, .iaload, 1), (1591, .invokevirtual 189, 3), (1594, .pop, 1), (1595, .goto 343, 3), (1598, .aload_n 1, 1), (1599, .aload_n 0, 1), (1600, .iload_n 3, 1), (1601, .iconst 1, 1), (1602, .iadd, 1), (1603, .iaload, 1), (1604, .aload_n 0, 1), (1605, .iload_n 3, 1), (1606, .iconst 2, 1), (1607, .iadd, 1), (1608, .iaload, 1), (1609, .aload_n 0, 1), (1610, .iload_n 3, 1), (1611, .iconst 3, 1), (1612, .iadd, 1), (1613, .iaload, 1), (1614, .invokevirtual 190, 3), (1617, .pop, 1), (1618, .aload_n 2, 1), (1619, .aload_n 0, 1), (1620, .iload_n 3, 1), (1621, .iconst 1, 1)]
def hb_c302_28 : List (Nat × Instr × Nat) := [(1622, .iadd, 1), (1623, .iaload, 1), (1624, .aload_n 0, 1), (1625, .iload_n 3, 1), (1626, .iconst 2, 1), (1627, .iadd, 1), (1628, .iaload, 1), (1629, .aload_n 0, 1), (1630, .iload_n 3, 1), (1631, .iconst 3, 1), (1632, .iadd, 1), (1633, .iaload, 1), (1634, .invokevirtual 193, 3), (1637, .pop, 1), (1638, .goto 300, 3), (1641, .aload_n 1, 1), (1642, .aload_n 0, 1), (1643, .iload_n 3, 1), (1644, .iconst 1, 1), (1645, .iadd, 1), (1646, .iaload, 1), (1647, .aload_n 0, 1), (1648, .iload_n 3, 1), (1649, .iconst 2, 1), (1650, .iadd, 1), (1651, .iaload, 1), (1652, .aload_n 0, 1), (1653, .iload_n 3, 1), (1654, .iconst 3, 1), (1655, .iadd, 1), (1656, .iaload, 1), (1657, .invokevirtual 194, 3), (1660, .pop, 1), (1661, .aload_n 2, 1), (1662, .aload_n 0, 1), (1663, .iload_n 3, 1), (1664, .iconst 1, 1), (1665, .iadd, 1), (1666, .iaload, 1), (1667, .aload_n 0, 1)]
def hb_c302_29 : List (Nat × Instr × Nat) := [(1668, .iload_n 3, 1), (1669, .iconst 2, 1), (1670, .iadd, 1), (1671, .iaload, 1), (1672, .aload_n 0, 1), (1673, .iload_n 3, 1), (1674, .iconst 3, 1), (1675, .iadd, 1), (1676, .iaload, 1), (1677, .invokevirtual 197, 3), (1680, .pop, 1), (1681, .goto 257, 3), (1684, .aload_n 1, 1), (1685, .aload_n 0, 1), (1686, .iload_n 3, 1), (1687, .iconst 1, 1), (1688, .iadd, 1), (1689, .iaload, 1), (1690, .aload_n 0, 1), (1691, .iload_n 3, 1), (1692, .iconst 2, 1), (1693, .iadd, 1), (1694, .iaload, 1), (1695, .aload_n 0, 1), (1696, .iload_n 3, 1), (1697, .iconst 3, 1), (1698, .iadd, 1), (1699, .iaload, 1), (1700, .aload_n 0, 1), (1701, .iload_n 3, 1), (1702, .iconst 4, 1), (1703, .iadd, 1), (1704, .iaload, 1), (1705, .aload_n 0, 1), (1706, .iload_n 3, 1), (1707, .iconst 5, 1), (1708, .iadd, 1), (1709, .iaload, 1), (1710, .invokevirtual 198, 3), (1713, .pop, 1)]
def hb_c302_30 : List (Nat × Instr × Nat) := [(1714, .aload_n 2, 1), (1715, .aload_n 0, 1), (1716, .iload_n 3, 1), (1717, .iconst 1, 1), (1718, .iadd, 1), (1719, .iaload, 1), (1720, .aload_n 0, 1), (1721, .iload_n 3, 1), (1722, .iconst 2, 1), (1723, .iadd, 1), (1724, .iaload, 1), (1725, .aload_n 0, 1), (1726, .iload_n 3, 1), (1727, .iconst 3, 1), (1728, .iadd, 1), (1729, .iaload, 1), (1730, .aload_n 0, 1), (1731, .iload_n 3, 1), (1732, .iconst 4, 1), (1733, .iadd, 1), (1734, .iaload, 1), (1735, .aload_n 0, 1), (1736, .iload_n 3, 1), (1737, .iconst 5, 1), (1738, .iadd, 1), (1739, .iaload, 1), (1740, .invokevirtual 202, 3), (1743, .pop, 1), (1744, .goto 194, 3), (1747, .aload_n 1, 1), (1748, .aload_n 0, 1), (1749, .iload_n 3, 1), (1750, .iconst 1, 1), (1751, .iadd, 1), (1752, .iaload, 1), (1753, .aload_n 0, 1), (1754, .iload_n 3, 1), (1755, .iconst 2, 1), (1756, .iadd, 1), (1757, .iaload, 1)]
def hb_c302_31 : List (Nat × Instr × Nat) := [(1758, .aload_n 0, 1), (1759, .iload_n 3, 1), (1760, .iconst 3, 1), (1761, .iadd, 1), (1762, .iaload, 1), (1763, .invokevirtual 203, 3), (1766, .pop, 1), (1767, .aload_n 2, 1), (1768, .aload_n 0, 1), (1769, .iload_n 3, 1), (1770, .iconst 1, 1), (1771, .iadd, 1), (1772, .iaload, 1), (1773, .aload_n 0, 1), (1774, .iload_n 3, 1), (1775, .iconst 2, 1), (1776, .iadd, 1), (1777, .iaload, 1), (1778, .aload_n 0, 1), (1779, .iload_n 3, 1), (1780, .iconst 3, 1), (1781, .iadd, 1), (1782, .iaload, 1), (1783, .invokevirtual 206, 3), (1786, .pop, 1), (1787, .goto 151, 3), (1790, .aload_n 1, 1), (1791, .aload_n 0, 1), (1792, .iload_n 3, 1), (1793, .iconst 1, 1), (1794, .iadd, 1), (1795, .iaload, 1), (1796, .aload_n 0, 1), (1797, .iload_n 3, 1), (1798, .iconst 2, 1), (1799, .iadd, 1), (1800, .iaload, 1), (1801, .invokevirtual 207, 3), (1804, .pop, 1), (1805, .aload_n 2, 1)]
def hb_c302_32 : List (Nat × Instr × Nat) := [(1806, .aload_n 0, 1), (1807, .iload_n 3, 1), (1808, .iconst 1, 1), (1809, .iadd, 1), (1810, .iaload, 1), (1811, .aload_n 0, 1), (1812, .iload_n 3, 1), (1813, .iconst 2, 1), (1814, .iadd, 1), (1815, .iaload, 1), (1816, .invokevirtual 210, 3), (1819, .pop, 1), (1820, .goto 118, 3), (1823, .aload_n 1, 1), (1824, .aload_n 0, 1), (1825, .iload_n 3, 1), (1826, .iconst 1, 1), (1827, .iadd, 1), (1828, .iaload, 1), (1829, .aload_n 0, 1), (1830, .iload_n 3, 1), (1831, .iconst 2, 1), (1832, .iadd, 1), (1833, .iaload, 1), (1834, .aload_n 0, 1), (1835, .iload_n 3, 1), (1836, .iconst 3, 1), (1837, .iadd, 1), (1838, .iaload, 1), (1839, .invokevirtual 211, 3), (1842, .pop, 1), (1843, .aload_n 2, 1), (1844, .aload_n 0, 1), (1845, .iload_n 3, 1), (1846, .iconst 1, 1), (1847, .iadd, 1), (1848, .iaload, 1), (1849, .aload_n 0, 1), (1850, .iload_n 3, 1), (1851, .iconst 2, 1)]
def hb_c302_33 : List (Nat × Instr × Nat) := [(1852, .iadd, 1), (1853, .iaload, 1), (1854, .aload_n 0, 1), (1855, .iload_n 3, 1), (1856, .iconst 3, 1), (1857, .iadd, 1), (1858, .iaload, 1), (1859, .invokevirtual 214, 3), (1862, .pop, 1), (1863, .goto 75, 3), (1866, .aload_n 1, 1), (1867, .aload_n 0, 1), (1868, .iload_n 3, 1), (1869, .iconst 1, 1), (1870, .iadd, 1), (1871, .iaload, 1), (1872, .invokevirtual 215, 3), (1875, .pop, 1), (1876, .aload_n 2, 1), (1877, .aload_n 0, 1), (1878, .iload_n 3, 1), (1879, .iconst 1, 1), (1880, .iadd, 1), (1881, .iaload, 1), (1882, .invokevirtual 218, 3), (1885, .pop, 1), (1886, .goto 52, 3), (1889, .aload_n 1, 1), (1890, .aload_n 0, 1), (1891, .iload_n 3, 1), (1892, .iconst 1, 1), (1893, .iadd, 1), (1894, .iaload, 1), (1895, .invokevirtual 219, 3), (1898, .pop, 1), (1899, .aload_n 2, 1), (1900, .aload_n 0, 1), (1901, .iload_n 3, 1), (1902, .iconst 1, 1), (1903, .iadd, 1)]
def hb_c302_34 : List (Nat × Instr × Nat) := [(1904, .iaload, 1), (1905, .invokevirtual 222, 3), (1908, .pop, 1), (1909, .goto 29, 3), (1912, .aload_n 1, 1), (1913, .invokevirtual 223, 3), (1916, .aload_n 2, 1), (1917, .invokevirtual 226, 3), (1920, .if_icmp .eq 18, 3), (1923, .iconst 0, 1), (1924, .ireturn, 1), (1925, .aload_n 1, 1), (1926, .invokevirtual 227, 3), (1929, .pop, 1), (1930, .aload_n 2, 1), (1931, .invokevirtual 230, 3), (1934, .pop, 1), (1935, .goto 3, 3), (1938, .iinc 3 6, 3), (1941, .goto (-1923), 3), (1944, .iconst 1, 1), (1945, .ireturn, 1)]
def hb_m302 : px_M := (hb_h302, hb_c302_0 ++ (hb_c302_1 ++ (hb_c302_2 ++ (hb_c302_3 ++ (hb_c302_4 ++ (hb_c302_5 ++ (hb_c302_6 ++ (hb_c302_7 ++ (hb_c302_8 ++ (hb_c302_9 ++ (hb_c302_10 ++ (hb_c302_11 ++ (hb_c302_12 ++ (hb_c302_13 ++ (hb_c302_14 ++ (hb_c302_15 ++ (hb_c302_16 ++ (hb_c302_17 ++ (hb_c302_18 ++ (hb_c302_19 ++ (hb_c302_20 ++ (hb_c302_21 ++ (hb_c302_22 ++ (hb_c302_23 ++ (hb_c302_24 ++ (hb_c302_25 ++ (hb_c302_26 ++ (hb_c302_27 ++ (hb_c302_28 ++ (hb_c302_29 ++ (hb_c302_30 ++ (hb_c302_31 ++ (hb_c302_32 ++ (hb_c302_33 ++ (hb_c302_34)))))))))))))))))))))))))))))))))), hb_L17)
def hb_P0 : List px_M := [hb_m0, hb_m1, hb_m2, hb_m3, hb_m4, hb_m5, hb_m6, hb_m7, hb_m8, hb_m9, hb_m10, hb_m11, hb_m12, hb_m13, hb_m14, hb_m15, hb_m16, hb_m17, hb_m18, hb_m19]
def hb_P1 : List px_M := [hb_m20, hb_m21, hb_m22, hb_m23, hb_m24, hb_m25, hb_m26, hb_m27, hb_m28, hb_m29, hb_m30, hb_m31, hb_m32, hb_m33, hb_m34, hb_m35, hb_m36, hb_m37, hb_m38, hb_m39]
def hb_P2 : List px_M := [hb_m40, hb_m41, hb_m42, hb_m43, hb_m44, hb_m45, hb_m46, hb_m47, hb_m48, hb_m49, hb_m50, hb_m51, hb_m52, hb_m53, hb_m54, hb_m55, hb_m56, hb_m57, hb_m58, hb_m59]
def hb_P3 : List px_M := [hb_m60, hb_m61, hb_m62, hb_m63, hb_m64, hb_m65, hb_m66, hb_m67, hb_m68, hb_m69, hb_m70, hb_m71, hb_m72, hb_m73, hb_m74, hb_m75, hb_m76, hb_m77, hb_m78, hb_m79]
def hb_P4 : List px_M := [hb_m80, hb_m81, hb_m82, hb_m83, hb_m84, hb_m85, hb_m86, hb_m87, hb_m88, hb_m89, hb_m90, hb_m91, hb_m92, hb_m93, hb_m94, hb_m95, hb_m96, hb_m97, hb_m98, hb_m99]
def hb_P5 : List px_M := [hb_m100, hb_m101, hb_m102, hb_m103, hb_m104, hb_m105, hb_m106, hb_m107, hb_m108, hb_m109, hb_m110, hb_m111, hb_m112, hb_m113, hb_m114, hb_m115, hb_m116, hb_m117, hb_m118, hb_m119]
def hb_P6 : List px_M := [hb_m120, hb_m121, hb_m122, hb_m123, hb_m124, hb_m125, hb_m126, hb_m127, hb_m128, hb_m129, hb_m130, hb_m131, hb_m132, hb_m133, hb_m134, hb_m135, hb_m136, hb_m137, hb_m138, hb_m139]
def hb_P7 : List px_M := [hb_m140, hb_m141, hb_m142, hb_m143, hb_m144, hb_m145, hb_m146, hb_m147, hb_m148, hb_m149, hb_m150, hb_m151, hb_m152, hb_m153, hb_m154, hb_m155, hb_m156, hb_m157, hb_m158, hb_m159]
def hb_P8 : List px_M := [hb_m160, hb_m161, hb_m162, hb_m163, hb_m164, hb_m165, hb_m166, hb_m167, hb_m168, hb_m169, hb_m170, hb_m171, hb_m172, hb_m173, hb_m174, hb_m175, hb_m176, hb_m177, hb_m178, hb_m179]
def hb_P9 : List px_M := [hb_m180, hb_m181, hb_m182, hb_m183, hb_m184, hb_m185, hb_m186, hb_m187, hb_m188, hb_m189, hb_m190, hb_m191, hb_m192, hb_m193, hb_m194, hb_m195, hb_m196, hb_m197, hb_m198, hb_m199]
def hb_P10 : List px_M := [hb_m200, hb_m201, hb_m202, hb_m203, hb_m204, hb_m205, hb_m206, hb_m207, hb_m208, hb_m209, hb_m210, hb_m211, hb_m212, hb_m213, hb_m214, hb_m215, hb_m216, hb_m217, hb_m218, hb_m219]
def hb_P11 : List px_M := [hb_m220, hb_m221, hb_m222, hb_m223, hb_m224, hb_m225, hb_m226, hb_m227, hb_m228, hb_m229, hb_m230, hb_m231, hb_m232, hb_m233, hb_m234, hb_m235, hb_m236, hb_m237, hb_m238, hb_m239]
def hb_P12 : List px_M := [hb_m240, hb_m241, hb_m242, hb_m243, hb_m244, hb_m245, hb_m246, hb_m247, hb_m248, hb_m249, hb_m250, hb_m251, hb_m252, hb_m253, hb_m254, hb_m255, hb_m256, hb_m257, hb_m258, hb_m259]
def hb_P13 : List px_M := [hb_m260, hb_m261, hb_m262, hb_m263, hb_m264, hb_m265, hb_m266, hb_m267, hb_m268, hb_m269, hb_m270, hb_m271, hb_m272, hb_m273, hb_m274, hb_m275, hb_m276, hb_m277, hb_m278, hb_m279]
def hb_P14 : List px_M := [hb_m280, hb_m281, hb_m282, hb_m283, hb_m284, hb_m285, hb_m286, hb_m287, hb_m288, hb_m289, hb_m290, hb_m291, hb_m292, hb_m293, hb_m294, hb_m295, hb_m296, hb_m297, hb_m298, hb_m299]
def hb_P15 : List px_M := [hb_m300, hb_m301]
def hb_P : List px_M := hb_P0 ++ (hb_P1 ++ (hb_P2 ++ (hb_P3 ++ (hb_P4 ++ (hb_P5 ++ (hb_P6 ++ (hb_P7 ++ (hb_P8 ++ (hb_P9 ++ (hb_P10 ++ (hb_P11 ++ (hb_P12 ++ (hb_P13 ++ (hb_P14 ++ (hb_P15)))))))))))))))
end
section
theorem hb_k0 : px_bK ("HalfBoats$Acts", px_T hb_F0, 6) [578, 580, 582, 584, 586, 588] 564 106 = true := by decide +kernel
theorem hb_k1 : px_bK ("HalfBoats$Crowd", px_T hb_F1, 16) [246, 248, 250, 252, 254, 256, 258, 260, 262, 264, 266, 268, 270, 272, 274, 276] 210 98 = true := by decide +kernel
theorem hb_k2 : px_bK ("HalfBoats$Host", px_T hb_F2, 6) [549, 551, 553, 555, 557, 559] 534 105 = true := by decide +kernel
theorem hb_k3 : px_bK ("HalfBoats$Hull", px_T hb_F3, 12) [149, 151, 153, 155, 157, 159, 161, 163, 165, 167, 169, 171] 124 96 = true := by decide +kernel
theorem hb_k4 : px_bK ("HalfBoats$Passage", px_T hb_F4, 11) [415, 417, 419, 421, 423, 425, 427, 429, 431, 433, 435] 395 102 = true := by decide +kernel
theorem hb_k5 : px_bK ("HalfBoats$Reader", px_T hb_F5, 8) [516, 518, 520, 522, 524, 526, 528, 530] 502 104 = true := by decide +kernel
theorem hb_k6 : px_bK ("HalfBoats$Rules", px_T hb_F6, 8) [377, 379, 381, 383, 385, 387, 389, 391] 360 101 = true := by decide +kernel
theorem hb_k7 : px_bK ("HalfBoats$Sea", px_T hb_F7, 13) [306, 308, 310, 312, 314, 316, 318, 320, 322, 324, 326, 328, 330] 280 99 = true := by decide +kernel
theorem hb_k8 : px_bK ("HalfBoats$Seating", px_T hb_F8, 17) [466, 468, 470, 472, 474, 476, 478, 480, 482, 484, 486, 488, 490, 492, 494, 496, 498] 439 103 = true := by decide +kernel
theorem hb_k9 : px_bK ("HalfBoats$Soundings", px_T hb_F9, 8) [192, 194, 196, 198, 200, 202, 204, 206] 176 97 = true := by decide +kernel
theorem hb_k10 : px_bK ("HalfBoats$Words", px_T hb_F10, 5) [348, 350, 352, 354, 356] 334 100 = true := by decide +kernel
theorem hb_k11 : px_bK ("HalfBoats", px_T hb_F11, 20) [611, 613, 615, 617, 619, 621, 623, 625, 627, 629, 631, 633, 635, 637, 639, 641, 643, 645, 647, 649] 116 95 = true := by decide +kernel
theorem hb_k12 : px_bK ("HalfBoatsModel", px_T hb_F12, 52) [1494, 1496, 1498, 1500, 1502, 1504, 1506, 1508, 1510, 1512, 1514, 1516, 1518, 1520, 1522, 1524, 1526, 1528, 1530, 1532, 1534, 1536, 1538, 1540, 1542, 1544, 1546, 1548, 1550, 1552, 1554, 1556, 1558, 1560, 1562, 1564, 1566, 1568, 1570, 1572, 1574, 1576, 1578, 1580, 1582, 1584, 1586, 1588, 1590, 1592, 1594, 1596] 1437 107 = true := by decide +kernel
theorem hb_clok : ∀ r ∈ hb_cl, px_okK px_Ts r := List.forall_mem_cons.mpr ⟨px_bK_ok hb_k0, List.forall_mem_cons.mpr ⟨px_bK_ok hb_k1, List.forall_mem_cons.mpr ⟨px_bK_ok hb_k2, List.forall_mem_cons.mpr ⟨px_bK_ok hb_k3, List.forall_mem_cons.mpr ⟨px_bK_ok hb_k4, List.forall_mem_cons.mpr ⟨px_bK_ok hb_k5, List.forall_mem_cons.mpr ⟨px_bK_ok hb_k6, List.forall_mem_cons.mpr ⟨px_bK_ok hb_k7, List.forall_mem_cons.mpr ⟨px_bK_ok hb_k8, List.forall_mem_cons.mpr ⟨px_bK_ok hb_k9, List.forall_mem_cons.mpr ⟨px_bK_ok hb_k10, List.forall_mem_cons.mpr ⟨px_bK_ok hb_k11, List.forall_mem_cons.mpr ⟨px_bK_ok hb_k12, fun _ h => absurd h List.not_mem_nil⟩⟩⟩⟩⟩⟩⟩⟩⟩⟩⟩⟩⟩
theorem hb_l0 : px_bL hb_cl hb_SL hb_P "HalfBoats$Acts" hb_L0 ([569, 571, 573, 575, 576, 577], [[568, 121, 122], [1357, 1359, 39], [1365, 1367, 40], [1369, 1354, 1355], [1374, 1376, 41], [1382, 1384, 42], [1386, 1362, 1363]], [], [], [], [], []) = true := by decide +kernel
theorem hb_l1 : px_bL hb_cl hb_SL hb_P "HalfBoats$Crowd" hb_L1 ([215, 217, 218, 219, 220, 221, 224, 226, 228, 229, 230, 233, 236, 238, 240, 243], [[214, 121, 122], [19, 736], [806, 808, 5], [810, 679, 108, 680]], [], [805], [], [], []) = true := by decide +kernel
theorem hb_l2 : px_bL hb_cl hb_SL hb_P "HalfBoats$Host" hb_L2 ([539, 541, 543, 545, 547, 548], [[538, 121, 122], [1290, 1291]], [], [], [], [], []) = true := by decide +kernel
theorem hb_l3 : px_bL hb_cl hb_SL hb_P "HalfBoats$Hull" hb_L3 ([129, 131, 133, 135, 138, 139, 140, 142, 144, 146, 147, 148], [[128, 121, 122], [10, 736], [689, 691, 3], [9, 657], [675, 676, 108, 677], [678, 679, 108, 680], [663, 665, 0], [685, 687, 2], [671, 672, 673], [667, 668, 669], [681, 683, 1]], [], [], [], [], []) = true := by decide +kernel
theorem hb_l4 : px_bL hb_cl hb_SL hb_P "HalfBoats$Passage" hb_L4 ([400, 402, 404, 406, 408, 409, 410, 411, 412, 413, 414], [[399, 121, 122], [17, 736], [1254, 1256, 32], [1258, 1260, 33], [1262, 1264, 34]], [], [], [], [], []) = true := by decide +kernel
theorem hb_l5 : px_bL hb_cl hb_SL hb_P "HalfBoats$Reader" hb_L5 ([507, 509, 510, 511, 512, 513, 514, 515], [[506, 121, 122], [1029, 1031, 13], [1119, 1120, 1121], [1123, 1125, 18], [1139, 1141, 21], [1148, 1150, 23], [1144, 1146, 22], [1033, 1034], [1036, 1038, 14], [1108, 1110, 16], [1112, 1113], [1115, 1117, 17], [1041, 1043, 15], [1045, 1046, 1047], [1055, 1056, 1057], [1127, 1129, 19], [1131, 1133, 20], [1135, 1136, 1137], [16, 657], [1152, 1153, 1154], [1156, 1158, 24], [1160, 1162, 25], [1176, 1177, 1178], [1164, 1166, 26], [1168, 1170, 27], [1172, 1174, 28]], [], [], [1020], [], []) = true := by decide +kernel
theorem hb_l6 : px_bL hb_cl hb_SL hb_P "HalfBoats$Rules" hb_L6 ([365, 367, 369, 371, 373, 374, 375, 376, 290, 292], [[364, 121, 122], [22, 736], [1201, 1203, 29], [1205, 1207, 30], [1230, 1232, 31], [1234, 1235], [1237, 945, 946]], [], [], [], [], []) = true := by decide +kernel
theorem hb_l7 : px_bL hb_cl hb_SL hb_P "HalfBoats$Sea" hb_L7 ([285, 287, 289, 291, 293, 294, 295, 296, 298, 300, 302, 304, 305], [[284, 121, 122], [20, 736], [908, 909, 108, 910], [931, 933, 11], [15, 657], [944, 945, 946], [964, 966, 12], [968, 679, 108, 680]], [], [], [], [], []) = true := by decide +kernel
theorem hb_l8 : px_bL hb_cl hb_SL hb_P "HalfBoats$Seating" hb_L8 ([444, 446, 448, 450, 452, 454, 455, 456, 457, 458, 459, 460, 461, 462, 463, 464, 465, 222, 231, 225, 234, 239, 241, 227, 244, 237], [[443, 121, 122], [12, 736], [829, 802, 803], [831, 833, 6], [843, 676, 108, 677], [852, 840, 841], [853, 855, 7], [857, 859, 8], [877, 879, 9], [13, 657], [891, 760], [892, 894, 10], [14, 897]], [], [830], [], [], []) = true := by decide +kernel
theorem hb_l9 : px_bL hb_cl hb_SL hb_P "HalfBoats$Soundings" hb_L9 ([181, 183, 185, 187, 188, 189, 190, 191, 137], [[180, 121, 122], [18, 736], [758, 732, 733], [759, 760], [765, 767, 4], [769, 770, 771], [773, 660, 661], [11, 657]], [], [], [], [], []) = true := by decide +kernel
theorem hb_l10 : px_bL hb_cl hb_SL hb_P "HalfBoats$Words" hb_L10 ([339, 341, 343, 345, 347], [[338, 121, 122], [21, 736], [991, 984, 985]], [], [], [], [], []) = true := by decide +kernel
theorem hb_l11 : px_bL hb_cl hb_SL hb_P "HalfBoats" hb_L11 ([591, 592, 593, 594, 595, 596, 597, 598, 599, 600, 601, 602, 603, 604, 605, 606, 607, 608, 609, 610, 130, 141, 143, 136, 132, 182, 184, 186, 216, 223, 245, 232, 449, 445, 447, 451, 453, 288, 286, 297, 301, 340, 342, 346, 508, 366, 370, 368, 372, 401, 403, 405, 407, 540, 544, 542, 570, 572, 145, 546, 242, 574, 134, 235, 299, 303, 344], [[120, 121, 122], [125, 126], [0, 178], [1, 212], [2, 282], [3, 336], [4, 362], [5, 397], [6, 441], [7, 504], [535, 536], [8, 566], [656, 657], [659, 660, 661], [697, 698], [701, 702, 703], [705, 706, 707], [721, 668, 669], [722, 672, 673], [731, 732, 733], [746, 747, 748], [754, 755, 756], [779, 780], [782, 783], [785, 786, 787], [793, 794, 795], [801, 802, 803], [816, 817, 818], [824, 825, 826], [839, 840, 841], [848, 849, 850], [873, 874, 875], [886, 760], [887, 888, 889], [904, 905, 906], [919, 920, 921], [927, 928, 929], [940, 941, 942], [952, 953, 954], [960, 961, 962], [973, 897], [983, 984, 985], [987, 988, 989], [996, 997, 998], [1004, 1005, 1006], [1016, 1017, 1018], [1025, 1026, 1027], [1180, 1181, 1182], [1193, 1194, 1195], [1197, 1198, 1199], [1209, 1210, 1211], [1213, 679, 108, 680], [1218, 1219, 1220], [1226, 1227, 1228], [1242, 1243, 1244], [1250, 1251, 1252], [1271, 1272], [1274, 1275, 1276], [1282, 1283, 1284], [1286, 1287, 1288], [1297, 1298, 1299], [1301, 1302, 1303], [1309, 743, 744], [1314, 1316, 35], [1318, 1319, 1320], [1326, 1328, 36], [1330, 1331], [1337, 1338, 1339], [1341, 1343, 37], [1345, 1346, 1347], [1349, 1351, 38], [1395, 1396, 1397], [1403, 1404, 1405], [1408, 1409, 1410], [1413, 1414, 1415], [1418, 1419, 1420], [1423, 1424, 1425], [1428, 1429, 1430], [738, 676, 108, 677], [739, 741, 740, 109], [1353, 1354, 1355], [1361, 1362, 1363], [1370, 1371, 1372], [1378, 1379, 1380]], [123, 175, 209, 279, 333, 359, 394, 438, 501, 533, 563], [811, 903, 978], [], [], []) = true := by decide +kernel
theorem hb_l12 : px_bL hb_cl hb_SL hb_P "HalfBoatsModel" hb_L12 ([1442, 1443, 1445, 1447, 1448, 1449, 1450, 1455, 1456, 1457, 1458, 1459, 1460, 1462, 1463, 1464, 1465, 1475, 1476, 1480, 1482, 1483, 1484, 1485, 1486, 1487, 1488, 1451, 1452, 1453, 1454, 1461, 1446, 1467, 1466, 1468, 1469, 1470, 1471, 1472, 1473, 1474, 1478, 1479, 1481, 1477, 1489, 1492, 1490, 1491, 1493, 1444], [[1441, 121, 122], [1603, 1604], [1622, 1623], [1614, 1616, 45], [1618, 1620, 46], [1625, 1627, 47], [1606, 1608, 43], [1610, 1612, 44], [1633, 1634], [1640, 1641], [1678, 1680, 50], [1671, 1672], [1674, 1676, 49], [1667, 1669, 48], [1686, 1687], [1689, 1690], [1709, 1711, 53], [1700, 1702, 51], [1704, 1706, 52], [1721, 1723, 54], [1725, 1727, 55], [1733, 1735, 56], [1741, 1743, 57], [1749, 1751, 58], [1761, 1763, 59], [1769, 1771, 60], [1794, 1796, 62], [1790, 1792, 61], [1802, 1804, 63], [1806, 1808, 64], [1818, 1820, 65], [1822, 1824, 66], [1846, 1848, 67], [1871, 1873, 70], [1875, 1877, 71], [1879, 1881, 72], [1867, 1869, 69], [1891, 1893, 75], [1903, 1905, 78], [1887, 1889, 74], [1911, 1913, 80], [1907, 1909, 79], [1895, 1897, 76], [1899, 1901, 77], [1883, 1885, 73], [1863, 1865, 68], [1923, 1925, 81], [1927, 1929, 82], [1947, 1948], [1954, 1955], [1957, 1959, 83], [1973, 1660, 1661], [1982, 1984, 84], [1994, 1996, 86], [1998, 2000, 87], [1990, 1992, 85], [2006, 2008, 89], [2014, 2016, 91], [2002, 2004, 88], [2022, 2024, 93], [2010, 2012, 90], [2018, 2020, 92]], [], [1708, 1777], [1858], [], []) = true := by decide +kernel
theorem hb_l13 : px_bL hb_cl hb_SL hb_P "java/lang/Integer" hb_L13 ([], [], [], [762, 763, 764], [], [], []) = true := by decide +kernel
theorem hb_l14 : px_bL hb_cl hb_SL hb_P "java/lang/String" hb_L14 ([], [[1049, 1050, 1051], [1059, 1060, 1061], [1063, 1064], [1071, 1072]], [], [], [], [1053, 1069], [2043, 2044]) = true := by decide +kernel
theorem hb_l15 : px_bL hb_cl hb_SL hb_P "java/lang/StringLatin1" hb_L15 ([], [[1066, 1067]], [], [], [], [], []) = true := by decide +kernel
theorem hb_l16 : px_bL hb_cl hb_SL hb_P "jdk/internal/util/Preconditions" hb_L16 ([], [], [], [], [], [], []) = true := by decide +kernel
theorem hb_l17 : px_bL hb_cl hb_SL hb_P "HalfBoatsLaw" hb_L17 ([], [[117, 118], [1438, 1439], [652, 653, 654], [1599, 1600, 1601], [693, 694, 695], [1629, 1630, 1631], [709, 710, 711], [1636, 1637, 1638], [713, 714, 715], [1643, 1644, 1645], [717, 718, 719], [1647, 1648, 1649], [723, 724, 725], [1651, 1652, 1653], [727, 728, 729], [1655, 1656, 1657], [742, 743, 744], [1659, 1660, 1661], [750, 751, 752], [1663, 1664, 1665], [775, 776, 777], [1682, 1683, 1684], [789, 790, 791], [1692, 1693, 1694], [797, 798, 799], [1696, 1697, 1698], [812, 813, 814], [1713, 1714, 1715], [820, 821, 822], [1717, 1718, 1719], [835, 836, 837], [1729, 1730, 1731], [844, 845, 846], [1737, 1738, 1739], [861, 862, 863], [1745, 1746, 1747], [865, 866, 867], [1753, 1754, 1755], [869, 870, 871], [1757, 1758, 1759], [882, 883, 884], [1765, 1766, 1767], [899, 900, 901], [1773, 1774, 1775], [911, 912, 913], [1778, 1779, 1780], [915, 916, 917], [1782, 1783, 1784], [923, 924, 925], [1786, 1787, 1788], [936, 937, 938], [1798, 1799, 1800], [948, 949, 950], [1810, 1811, 1812], [956, 957, 958], [1814, 1815, 1816], [969, 970, 971], [1826, 1827, 1828], [974, 975, 976], [1830, 1831, 1832], [979, 980, 981], [1834, 1835, 1836], [992, 993, 994], [1838, 1839, 1840], [1000, 1001, 1002], [1842, 1843, 1844], [1008, 1009, 1010], [1850, 1851, 1852], [1012, 1013, 1014], [1854, 1855, 1856], [1021, 1022, 1023], [1859, 1860, 1861], [1185, 1186, 1187], [1915, 1916, 1917], [1189, 1190, 1191], [1919, 1920, 1921], [1214, 1215, 1216], [1931, 1932, 1933], [1222, 1223, 1224], [1935, 1936, 1937], [1238, 1239, 1240], [1939, 1940, 1941], [1246, 1247, 1248], [1943, 1944, 1945], [1267, 1268, 1269], [1950, 1951, 1952], [1278, 1279, 1280], [1961, 1962, 1963], [1293, 1294, 1295], [1965, 1966, 1967], [1305, 1306, 1307], [1969, 1970, 1971], [1310, 1311, 1312], [1974, 1975, 1976], [1322, 1323, 1324], [1978, 1979, 1980], [1333, 1334, 1335], [1986, 1987, 1988], [1387, 1388, 1389], [2026, 2027, 2028], [1391, 1392, 1393], [2030, 2031, 2032], [1399, 1400, 1401], [2034, 2035, 2036], [1432, 1433, 1434], [2038, 2039, 2040]], [115, 1436], [], [2042], [], []) = true := by decide +kernel
end
section
theorem hb_d0_0 : ∀ q ∈ hb_c0_0, decode hb_h0.2.1 q.1 = .ok q.2 := by decide +kernel
set_option maxRecDepth 100000 in
theorem hb_w0 : lw_tbl[567]? = some (Cond.code hb_h0.1 hb_h0.2.1 hb_h0.2.2.1 hb_h0.2.2.2.1) := by rfl
theorem hb_g0 : px_bM hb_h0 106 = true := by decide +kernel
theorem hb_o0 : px_okM px_Ts px_Ns hb_cl hb_SL hb_P hb_m0 := ⟨px_bM_ok hb_w0 hb_g0, hb_d0_0, px_bL_ok hb_l0⟩
theorem hb_d1_0 : ∀ q ∈ hb_c1_0, decode hb_h1.2.1 q.1 = .ok q.2 := by decide +kernel
set_option maxRecDepth 100000 in
theorem hb_w1 : lw_tbl[1332]? = some (Cond.code hb_h1.1 hb_h1.2.1 hb_h1.2.2.1 hb_h1.2.2.2.1) := by rfl
theorem hb_g1 : px_bM hb_h1 106 = true := by decide +kernel
theorem hb_o1 : px_okM px_Ts px_Ns hb_cl hb_SL hb_P hb_m1 := ⟨px_bM_ok hb_w1 hb_g1, hb_d1_0, px_bL_ok hb_l0⟩
theorem hb_d2_0 : ∀ q ∈ hb_c2_0, decode hb_h2.2.1 q.1 = .ok q.2 := by decide +kernel
set_option maxRecDepth 100000 in
theorem hb_w2 : lw_tbl[1340]? = some (Cond.code hb_h2.1 hb_h2.2.1 hb_h2.2.2.1 hb_h2.2.2.2.1) := by rfl
theorem hb_g2 : px_bM hb_h2 106 = true := by decide +kernel
theorem hb_o2 : px_okM px_Ts px_Ns hb_cl hb_SL hb_P hb_m2 := ⟨px_bM_ok hb_w2 hb_g2, hb_d2_0, px_bL_ok hb_l0⟩
theorem hb_d3_0 : ∀ q ∈ hb_c3_0, decode hb_h3.2.1 q.1 = .ok q.2 := by decide +kernel
set_option maxRecDepth 100000 in
theorem hb_w3 : lw_tbl[1348]? = some (Cond.code hb_h3.1 hb_h3.2.1 hb_h3.2.2.1 hb_h3.2.2.2.1) := by rfl
theorem hb_g3 : px_bM hb_h3 106 = true := by decide +kernel
theorem hb_o3 : px_okM px_Ts px_Ns hb_cl hb_SL hb_P hb_m3 := ⟨px_bM_ok hb_w3 hb_g3, hb_d3_0, px_bL_ok hb_l0⟩
theorem hb_d4_0 : ∀ q ∈ hb_c4_0, decode hb_h4.2.1 q.1 = .ok q.2 := by decide +kernel
set_option maxRecDepth 100000 in
theorem hb_w4 : lw_tbl[1360]? = some (Cond.code hb_h4.1 hb_h4.2.1 hb_h4.2.2.1 hb_h4.2.2.2.1) := by rfl
theorem hb_g4 : px_bM hb_h4 106 = true := by decide +kernel
theorem hb_o4 : px_okM px_Ts px_Ns hb_cl hb_SL hb_P hb_m4 := ⟨px_bM_ok hb_w4 hb_g4, hb_d4_0, px_bL_ok hb_l0⟩
theorem hb_d5_0 : ∀ q ∈ hb_c5_0, decode hb_h5.2.1 q.1 = .ok q.2 := by decide +kernel
theorem hb_d5_1 : ∀ q ∈ hb_c5_1, decode hb_h5.2.1 q.1 = .ok q.2 := by decide +kernel
set_option maxRecDepth 100000 in
theorem hb_w5 : lw_tbl[1356]? = some (Cond.code hb_h5.1 hb_h5.2.1 hb_h5.2.2.1 hb_h5.2.2.2.1) := by rfl
theorem hb_g5 : px_bM hb_h5 106 = true := by decide +kernel
theorem hb_o5 : px_okM px_Ts px_Ns hb_cl hb_SL hb_P hb_m5 := ⟨px_bM_ok hb_w5 hb_g5, List.forall_mem_append.mpr ⟨hb_d5_0, hb_d5_1⟩, px_bL_ok hb_l0⟩
theorem hb_d6_0 : ∀ q ∈ hb_c6_0, decode hb_h6.2.1 q.1 = .ok q.2 := by decide +kernel
theorem hb_d6_1 : ∀ q ∈ hb_c6_1, decode hb_h6.2.1 q.1 = .ok q.2 := by decide +kernel
set_option maxRecDepth 100000 in
theorem hb_w6 : lw_tbl[1364]? = some (Cond.code hb_h6.1 hb_h6.2.1 hb_h6.2.2.1 hb_h6.2.2.2.1) := by rfl
theorem hb_g6 : px_bM hb_h6 106 = true := by decide +kernel
theorem hb_o6 : px_okM px_Ts px_Ns hb_cl hb_SL hb_P hb_m6 := ⟨px_bM_ok hb_w6 hb_g6, List.forall_mem_append.mpr ⟨hb_d6_0, hb_d6_1⟩, px_bL_ok hb_l0⟩
theorem hb_d7_0 : ∀ q ∈ hb_c7_0, decode hb_h7.2.1 q.1 = .ok q.2 := by decide +kernel
set_option maxRecDepth 100000 in
theorem hb_w7 : lw_tbl[1373]? = some (Cond.code hb_h7.1 hb_h7.2.1 hb_h7.2.2.1 hb_h7.2.2.2.1) := by rfl
theorem hb_g7 : px_bM hb_h7 106 = true := by decide +kernel
theorem hb_o7 : px_okM px_Ts px_Ns hb_cl hb_SL hb_P hb_m7 := ⟨px_bM_ok hb_w7 hb_g7, hb_d7_0, px_bL_ok hb_l0⟩
theorem hb_d8_0 : ∀ q ∈ hb_c8_0, decode hb_h8.2.1 q.1 = .ok q.2 := by decide +kernel
set_option maxRecDepth 100000 in
theorem hb_w8 : lw_tbl[1381]? = some (Cond.code hb_h8.1 hb_h8.2.1 hb_h8.2.2.1 hb_h8.2.2.2.1) := by rfl
theorem hb_g8 : px_bM hb_h8 106 = true := by decide +kernel
theorem hb_o8 : px_okM px_Ts px_Ns hb_cl hb_SL hb_P hb_m8 := ⟨px_bM_ok hb_w8 hb_g8, hb_d8_0, px_bL_ok hb_l0⟩
theorem hb_d9_0 : ∀ q ∈ hb_c9_0, decode hb_h9.2.1 q.1 = .ok q.2 := by decide +kernel
set_option maxRecDepth 100000 in
theorem hb_w9 : lw_tbl[1368]? = some (Cond.code hb_h9.1 hb_h9.2.1 hb_h9.2.2.1 hb_h9.2.2.2.1) := by rfl
theorem hb_g9 : px_bM hb_h9 106 = true := by decide +kernel
theorem hb_o9 : px_okM px_Ts px_Ns hb_cl hb_SL hb_P hb_m9 := ⟨px_bM_ok hb_w9 hb_g9, hb_d9_0, px_bL_ok hb_l0⟩
theorem hb_d10_0 : ∀ q ∈ hb_c10_0, decode hb_h10.2.1 q.1 = .ok q.2 := by decide +kernel
set_option maxRecDepth 100000 in
theorem hb_w10 : lw_tbl[1377]? = some (Cond.code hb_h10.1 hb_h10.2.1 hb_h10.2.2.1 hb_h10.2.2.2.1) := by rfl
theorem hb_g10 : px_bM hb_h10 106 = true := by decide +kernel
theorem hb_o10 : px_okM px_Ts px_Ns hb_cl hb_SL hb_P hb_m10 := ⟨px_bM_ok hb_w10 hb_g10, hb_d10_0, px_bL_ok hb_l0⟩
theorem hb_d11_0 : ∀ q ∈ hb_c11_0, decode hb_h11.2.1 q.1 = .ok q.2 := by decide +kernel
set_option maxRecDepth 100000 in
theorem hb_w11 : lw_tbl[1385]? = some (Cond.code hb_h11.1 hb_h11.2.1 hb_h11.2.2.1 hb_h11.2.2.2.1) := by rfl
theorem hb_g11 : px_bM hb_h11 106 = true := by decide +kernel
theorem hb_o11 : px_okM px_Ts px_Ns hb_cl hb_SL hb_P hb_m11 := ⟨px_bM_ok hb_w11 hb_g11, hb_d11_0, px_bL_ok hb_l0⟩
theorem hb_d12_0 : ∀ q ∈ hb_c12_0, decode hb_h12.2.1 q.1 = .ok q.2 := by decide +kernel
theorem hb_d12_1 : ∀ q ∈ hb_c12_1, decode hb_h12.2.1 q.1 = .ok q.2 := by decide +kernel
set_option maxRecDepth 100000 in
theorem hb_w12 : lw_tbl[213]? = some (Cond.code hb_h12.1 hb_h12.2.1 hb_h12.2.2.1 hb_h12.2.2.2.1) := by rfl
theorem hb_g12 : px_bM hb_h12 98 = true := by decide +kernel
theorem hb_o12 : px_okM px_Ts px_Ns hb_cl hb_SL hb_P hb_m12 := ⟨px_bM_ok hb_w12 hb_g12, List.forall_mem_append.mpr ⟨hb_d12_0, hb_d12_1⟩, px_bL_ok hb_l1⟩
theorem hb_d13_0 : ∀ q ∈ hb_c13_0, decode hb_h13.2.1 q.1 = .ok q.2 := by decide +kernel
set_option maxRecDepth 100000 in
theorem hb_w13 : lw_tbl[781]? = some (Cond.code hb_h13.1 hb_h13.2.1 hb_h13.2.2.1 hb_h13.2.2.2.1) := by rfl
theorem hb_g13 : px_bM hb_h13 98 = true := by decide +kernel
theorem hb_o13 : px_okM px_Ts px_Ns hb_cl hb_SL hb_P hb_m13 := ⟨px_bM_ok hb_w13 hb_g13, hb_d13_0, px_bL_ok hb_l1⟩
theorem hb_d14_0 : ∀ q ∈ hb_c14_0, decode hb_h14.2.1 q.1 = .ok q.2 := by decide +kernel
theorem hb_d14_1 : ∀ q ∈ hb_c14_1, decode hb_h14.2.1 q.1 = .ok q.2 := by decide +kernel
set_option maxRecDepth 100000 in
theorem hb_w14 : lw_tbl[1411]? = some (Cond.code hb_h14.1 hb_h14.2.1 hb_h14.2.2.1 hb_h14.2.2.2.1) := by rfl
theorem hb_g14 : px_bM hb_h14 98 = true := by decide +kernel
theorem hb_o14 : px_okM px_Ts px_Ns hb_cl hb_SL hb_P hb_m14 := ⟨px_bM_ok hb_w14 hb_g14, List.forall_mem_append.mpr ⟨hb_d14_0, hb_d14_1⟩, px_bL_ok hb_l1⟩
theorem hb_d15_0 : ∀ q ∈ hb_c15_0, decode hb_h15.2.1 q.1 = .ok q.2 := by decide +kernel
set_option maxRecDepth 100000 in
theorem hb_w15 : lw_tbl[788]? = some (Cond.code hb_h15.1 hb_h15.2.1 hb_h15.2.2.1 hb_h15.2.2.2.1) := by rfl
theorem hb_g15 : px_bM hb_h15 98 = true := by decide +kernel
theorem hb_o15 : px_okM px_Ts px_Ns hb_cl hb_SL hb_P hb_m15 := ⟨px_bM_ok hb_w15 hb_g15, hb_d15_0, px_bL_ok hb_l1⟩
theorem hb_d16_0 : ∀ q ∈ hb_c16_0, decode hb_h16.2.1 q.1 = .ok q.2 := by decide +kernel
set_option maxRecDepth 100000 in
theorem hb_w16 : lw_tbl[796]? = some (Cond.code hb_h16.1 hb_h16.2.1 hb_h16.2.2.1 hb_h16.2.2.2.1) := by rfl
theorem hb_g16 : px_bM hb_h16 98 = true := by decide +kernel
theorem hb_o16 : px_okM px_Ts px_Ns hb_cl hb_SL hb_P hb_m16 := ⟨px_bM_ok hb_w16 hb_g16, hb_d16_0, px_bL_ok hb_l1⟩
theorem hb_d17_0 : ∀ q ∈ hb_c17_0, decode hb_h17.2.1 q.1 = .ok q.2 := by decide +kernel
set_option maxRecDepth 100000 in
theorem hb_w17 : lw_tbl[819]? = some (Cond.code hb_h17.1 hb_h17.2.1 hb_h17.2.2.1 hb_h17.2.2.2.1) := by rfl
theorem hb_g17 : px_bM hb_h17 98 = true := by decide +kernel
theorem hb_o17 : px_okM px_Ts px_Ns hb_cl hb_SL hb_P hb_m17 := ⟨px_bM_ok hb_w17 hb_g17, hb_d17_0, px_bL_ok hb_l1⟩
theorem hb_d18_0 : ∀ q ∈ hb_c18_0, decode hb_h18.2.1 q.1 = .ok q.2 := by decide +kernel
set_option maxRecDepth 100000 in
theorem hb_w18 : lw_tbl[1212]? = some (Cond.code hb_h18.1 hb_h18.2.1 hb_h18.2.2.1 hb_h18.2.2.2.1) := by rfl
theorem hb_g18 : px_bM hb_h18 98 = true := by decide +kernel
theorem hb_o18 : px_okM px_Ts px_Ns hb_cl hb_SL hb_P hb_m18 := ⟨px_bM_ok hb_w18 hb_g18, hb_d18_0, px_bL_ok hb_l1⟩
theorem hb_d19_0 : ∀ q ∈ hb_c19_0, decode hb_h19.2.1 q.1 = .ok q.2 := by decide +kernel
set_option maxRecDepth 100000 in
theorem hb_w19 : lw_tbl[1398]? = some (Cond.code hb_h19.1 hb_h19.2.1 hb_h19.2.2.1 hb_h19.2.2.2.1) := by rfl
theorem hb_g19 : px_bM hb_h19 98 = true := by decide +kernel
theorem hb_o19 : px_okM px_Ts px_Ns hb_cl hb_SL hb_P hb_m19 := ⟨px_bM_ok hb_w19 hb_g19, hb_d19_0, px_bL_ok hb_l1⟩
end
section
theorem hb_d20_0 : ∀ q ∈ hb_c20_0, decode hb_h20.2.1 q.1 = .ok q.2 := by decide +kernel
theorem hb_d20_1 : ∀ q ∈ hb_c20_1, decode hb_h20.2.1 q.1 = .ok q.2 := by decide +kernel
set_option maxRecDepth 100000 in
theorem hb_w20 : lw_tbl[804]? = some (Cond.code hb_h20.1 hb_h20.2.1 hb_h20.2.2.1 hb_h20.2.2.2.1) := by rfl
theorem hb_g20 : px_bM hb_h20 98 = true := by decide +kernel
theorem hb_o20 : px_okM px_Ts px_Ns hb_cl hb_SL hb_P hb_m20 := ⟨px_bM_ok hb_w20 hb_g20, List.forall_mem_append.mpr ⟨hb_d20_0, hb_d20_1⟩, px_bL_ok hb_l1⟩
theorem hb_d21_0 : ∀ q ∈ hb_c21_0, decode hb_h21.2.1 q.1 = .ok q.2 := by decide +kernel
set_option maxRecDepth 100000 in
theorem hb_w21 : lw_tbl[809]? = some (Cond.code hb_h21.1 hb_h21.2.1 hb_h21.2.2.1 hb_h21.2.2.2.1) := by rfl
theorem hb_g21 : px_bM hb_h21 98 = true := by decide +kernel
theorem hb_o21 : px_okM px_Ts px_Ns hb_cl hb_SL hb_P hb_m21 := ⟨px_bM_ok hb_w21 hb_g21, hb_d21_0, px_bL_ok hb_l1⟩
theorem hb_d22_0 : ∀ q ∈ hb_c22_0, decode hb_h22.2.1 q.1 = .ok q.2 := by decide +kernel
theorem hb_d22_1 : ∀ q ∈ hb_c22_1, decode hb_h22.2.1 q.1 = .ok q.2 := by decide +kernel
set_option maxRecDepth 100000 in
theorem hb_w22 : lw_tbl[537]? = some (Cond.code hb_h22.1 hb_h22.2.1 hb_h22.2.2.1 hb_h22.2.2.2.1) := by rfl
theorem hb_g22 : px_bM hb_h22 105 = true := by decide +kernel
theorem hb_o22 : px_okM px_Ts px_Ns hb_cl hb_SL hb_P hb_m22 := ⟨px_bM_ok hb_w22 hb_g22, List.forall_mem_append.mpr ⟨hb_d22_0, hb_d22_1⟩, px_bL_ok hb_l2⟩
theorem hb_d23_0 : ∀ q ∈ hb_c23_0, decode hb_h23.2.1 q.1 = .ok q.2 := by decide +kernel
set_option maxRecDepth 100000 in
theorem hb_w23 : lw_tbl[1273]? = some (Cond.code hb_h23.1 hb_h23.2.1 hb_h23.2.2.1 hb_h23.2.2.2.1) := by rfl
theorem hb_g23 : px_bM hb_h23 105 = true := by decide +kernel
theorem hb_o23 : px_okM px_Ts px_Ns hb_cl hb_SL hb_P hb_m23 := ⟨px_bM_ok hb_w23 hb_g23, hb_d23_0, px_bL_ok hb_l2⟩
theorem hb_d24_0 : ∀ q ∈ hb_c24_0, decode hb_h24.2.1 q.1 = .ok q.2 := by decide +kernel
set_option maxRecDepth 100000 in
theorem hb_w24 : lw_tbl[1277]? = some (Cond.code hb_h24.1 hb_h24.2.1 hb_h24.2.2.1 hb_h24.2.2.2.1) := by rfl
theorem hb_g24 : px_bM hb_h24 105 = true := by decide +kernel
theorem hb_o24 : px_okM px_Ts px_Ns hb_cl hb_SL hb_P hb_m24 := ⟨px_bM_ok hb_w24 hb_g24, hb_d24_0, px_bL_ok hb_l2⟩
theorem hb_d25_0 : ∀ q ∈ hb_c25_0, decode hb_h25.2.1 q.1 = .ok q.2 := by decide +kernel
set_option maxRecDepth 100000 in
theorem hb_w25 : lw_tbl[1285]? = some (Cond.code hb_h25.1 hb_h25.2.1 hb_h25.2.2.1 hb_h25.2.2.2.1) := by rfl
theorem hb_g25 : px_bM hb_h25 105 = true := by decide +kernel
theorem hb_o25 : px_okM px_Ts px_Ns hb_cl hb_SL hb_P hb_m25 := ⟨px_bM_ok hb_w25 hb_g25, hb_d25_0, px_bL_ok hb_l2⟩
theorem hb_d26_0 : ∀ q ∈ hb_c26_0, decode hb_h26.2.1 q.1 = .ok q.2 := by decide +kernel
set_option maxRecDepth 100000 in
theorem hb_w26 : lw_tbl[1300]? = some (Cond.code hb_h26.1 hb_h26.2.1 hb_h26.2.2.1 hb_h26.2.2.2.1) := by rfl
theorem hb_g26 : px_bM hb_h26 105 = true := by decide +kernel
theorem hb_o26 : px_okM px_Ts px_Ns hb_cl hb_SL hb_P hb_m26 := ⟨px_bM_ok hb_w26 hb_g26, hb_d26_0, px_bL_ok hb_l2⟩
theorem hb_d27_0 : ∀ q ∈ hb_c27_0, decode hb_h27.2.1 q.1 = .ok q.2 := by decide +kernel
set_option maxRecDepth 100000 in
theorem hb_w27 : lw_tbl[1289]? = some (Cond.code hb_h27.1 hb_h27.2.1 hb_h27.2.2.1 hb_h27.2.2.2.1) := by rfl
theorem hb_g27 : px_bM hb_h27 105 = true := by decide +kernel
theorem hb_o27 : px_okM px_Ts px_Ns hb_cl hb_SL hb_P hb_m27 := ⟨px_bM_ok hb_w27 hb_g27, hb_d27_0, px_bL_ok hb_l2⟩
theorem hb_d28_0 : ∀ q ∈ hb_c28_0, decode hb_h28.2.1 q.1 = .ok q.2 := by decide +kernel
set_option maxRecDepth 100000 in
theorem hb_w28 : lw_tbl[1304]? = some (Cond.code hb_h28.1 hb_h28.2.1 hb_h28.2.2.1 hb_h28.2.2.2.1) := by rfl
theorem hb_g28 : px_bM hb_h28 105 = true := by decide +kernel
theorem hb_o28 : px_okM px_Ts px_Ns hb_cl hb_SL hb_P hb_m28 := ⟨px_bM_ok hb_w28 hb_g28, hb_d28_0, px_bL_ok hb_l2⟩
theorem hb_d29_0 : ∀ q ∈ hb_c29_0, decode hb_h29.2.1 q.1 = .ok q.2 := by decide +kernel
set_option maxRecDepth 100000 in
theorem hb_w29 : lw_tbl[1292]? = some (Cond.code hb_h29.1 hb_h29.2.1 hb_h29.2.2.1 hb_h29.2.2.2.1) := by rfl
theorem hb_g29 : px_bM hb_h29 105 = true := by decide +kernel
theorem hb_o29 : px_okM px_Ts px_Ns hb_cl hb_SL hb_P hb_m29 := ⟨px_bM_ok hb_w29 hb_g29, hb_d29_0, px_bL_ok hb_l2⟩
theorem hb_d30_0 : ∀ q ∈ hb_c30_0, decode hb_h30.2.1 q.1 = .ok q.2 := by decide +kernel
theorem hb_d30_1 : ∀ q ∈ hb_c30_1, decode hb_h30.2.1 q.1 = .ok q.2 := by decide +kernel
set_option maxRecDepth 100000 in
theorem hb_w30 : lw_tbl[1321]? = some (Cond.code hb_h30.1 hb_h30.2.1 hb_h30.2.2.1 hb_h30.2.2.2.1) := by rfl
theorem hb_g30 : px_bM hb_h30 105 = true := by decide +kernel
theorem hb_o30 : px_okM px_Ts px_Ns hb_cl hb_SL hb_P hb_m30 := ⟨px_bM_ok hb_w30 hb_g30, List.forall_mem_append.mpr ⟨hb_d30_0, hb_d30_1⟩, px_bL_ok hb_l2⟩
theorem hb_d31_0 : ∀ q ∈ hb_c31_0, decode hb_h31.2.1 q.1 = .ok q.2 := by decide +kernel
theorem hb_d31_1 : ∀ q ∈ hb_c31_1, decode hb_h31.2.1 q.1 = .ok q.2 := by decide +kernel
set_option maxRecDepth 100000 in
theorem hb_w31 : lw_tbl[127]? = some (Cond.code hb_h31.1 hb_h31.2.1 hb_h31.2.2.1 hb_h31.2.2.2.1) := by rfl
theorem hb_g31 : px_bM hb_h31 96 = true := by decide +kernel
theorem hb_o31 : px_okM px_Ts px_Ns hb_cl hb_SL hb_P hb_m31 := ⟨px_bM_ok hb_w31 hb_g31, List.forall_mem_append.mpr ⟨hb_d31_0, hb_d31_1⟩, px_bL_ok hb_l3⟩
theorem hb_d32_0 : ∀ q ∈ hb_c32_0, decode hb_h32.2.1 q.1 = .ok q.2 := by decide +kernel
theorem hb_d32_1 : ∀ q ∈ hb_c32_1, decode hb_h32.2.1 q.1 = .ok q.2 := by decide +kernel
set_option maxRecDepth 100000 in
theorem hb_w32 : lw_tbl[734]? = some (Cond.code hb_h32.1 hb_h32.2.1 hb_h32.2.2.1 hb_h32.2.2.2.1) := by rfl
theorem hb_g32 : px_bM hb_h32 96 = true := by decide +kernel
theorem hb_o32 : px_okM px_Ts px_Ns hb_cl hb_SL hb_P hb_m32 := ⟨px_bM_ok hb_w32 hb_g32, List.forall_mem_append.mpr ⟨hb_d32_0, hb_d32_1⟩, px_bL_ok hb_l3⟩
theorem hb_d33_0 : ∀ q ∈ hb_c33_0, decode hb_h33.2.1 q.1 = .ok q.2 := by decide +kernel
set_option maxRecDepth 100000 in
theorem hb_w33 : lw_tbl[699]? = some (Cond.code hb_h33.1 hb_h33.2.1 hb_h33.2.2.1 hb_h33.2.2.2.1) := by rfl
theorem hb_g33 : px_bM hb_h33 96 = true := by decide +kernel
theorem hb_o33 : px_okM px_Ts px_Ns hb_cl hb_SL hb_P hb_m33 := ⟨px_bM_ok hb_w33 hb_g33, hb_d33_0, px_bL_ok hb_l3⟩
theorem hb_d34_0 : ∀ q ∈ hb_c34_0, decode hb_h34.2.1 q.1 = .ok q.2 := by decide +kernel
set_option maxRecDepth 100000 in
theorem hb_w34 : lw_tbl[708]? = some (Cond.code hb_h34.1 hb_h34.2.1 hb_h34.2.2.1 hb_h34.2.2.2.1) := by rfl
theorem hb_g34 : px_bM hb_h34 96 = true := by decide +kernel
theorem hb_o34 : px_okM px_Ts px_Ns hb_cl hb_SL hb_P hb_m34 := ⟨px_bM_ok hb_w34 hb_g34, hb_d34_0, px_bL_ok hb_l3⟩
theorem hb_d35_0 : ∀ q ∈ hb_c35_0, decode hb_h35.2.1 q.1 = .ok q.2 := by decide +kernel
set_option maxRecDepth 100000 in
theorem hb_w35 : lw_tbl[772]? = some (Cond.code hb_h35.1 hb_h35.2.1 hb_h35.2.2.1 hb_h35.2.2.2.1) := by rfl
theorem hb_g35 : px_bM hb_h35 96 = true := by decide +kernel
theorem hb_o35 : px_okM px_Ts px_Ns hb_cl hb_SL hb_P hb_m35 := ⟨px_bM_ok hb_w35 hb_g35, hb_d35_0, px_bL_ok hb_l3⟩
theorem hb_d36_0 : ∀ q ∈ hb_c36_0, decode hb_h36.2.1 q.1 = .ok q.2 := by decide +kernel
set_option maxRecDepth 100000 in
theorem hb_w36 : lw_tbl[670]? = some (Cond.code hb_h36.1 hb_h36.2.1 hb_h36.2.2.1 hb_h36.2.2.2.1) := by rfl
theorem hb_g36 : px_bM hb_h36 96 = true := by decide +kernel
theorem hb_o36 : px_okM px_Ts px_Ns hb_cl hb_SL hb_P hb_m36 := ⟨px_bM_ok hb_w36 hb_g36, hb_d36_0, px_bL_ok hb_l3⟩
theorem hb_d37_0 : ∀ q ∈ hb_c37_0, decode hb_h37.2.1 q.1 = .ok q.2 := by decide +kernel
set_option maxRecDepth 100000 in
theorem hb_w37 : lw_tbl[674]? = some (Cond.code hb_h37.1 hb_h37.2.1 hb_h37.2.2.1 hb_h37.2.2.2.1) := by rfl
theorem hb_g37 : px_bM hb_h37 96 = true := by decide +kernel
theorem hb_o37 : px_okM px_Ts px_Ns hb_cl hb_SL hb_P hb_m37 := ⟨px_bM_ok hb_w37 hb_g37, hb_d37_0, px_bL_ok hb_l3⟩
theorem hb_d38_0 : ∀ q ∈ hb_c38_0, decode hb_h38.2.1 q.1 = .ok q.2 := by decide +kernel
set_option maxRecDepth 100000 in
theorem hb_w38 : lw_tbl[1196]? = some (Cond.code hb_h38.1 hb_h38.2.1 hb_h38.2.2.1 hb_h38.2.2.2.1) := by rfl
theorem hb_g38 : px_bM hb_h38 96 = true := by decide +kernel
theorem hb_o38 : px_okM px_Ts px_Ns hb_cl hb_SL hb_P hb_m38 := ⟨px_bM_ok hb_w38 hb_g38, hb_d38_0, px_bL_ok hb_l3⟩
theorem hb_d39_0 : ∀ q ∈ hb_c39_0, decode hb_h39.2.1 q.1 = .ok q.2 := by decide +kernel
set_option maxRecDepth 100000 in
theorem hb_w39 : lw_tbl[662]? = some (Cond.code hb_h39.1 hb_h39.2.1 hb_h39.2.2.1 hb_h39.2.2.2.1) := by rfl
theorem hb_g39 : px_bM hb_h39 96 = true := by decide +kernel
theorem hb_o39 : px_okM px_Ts px_Ns hb_cl hb_SL hb_P hb_m39 := ⟨px_bM_ok hb_w39 hb_g39, hb_d39_0, px_bL_ok hb_l3⟩
end
section
theorem hb_d40_0 : ∀ q ∈ hb_c40_0, decode hb_h40.2.1 q.1 = .ok q.2 := by decide +kernel
set_option maxRecDepth 100000 in
theorem hb_w40 : lw_tbl[692]? = some (Cond.code hb_h40.1 hb_h40.2.1 hb_h40.2.2.1 hb_h40.2.2.2.1) := by rfl
theorem hb_g40 : px_bM hb_h40 96 = true := by decide +kernel
theorem hb_o40 : px_okM px_Ts px_Ns hb_cl hb_SL hb_P hb_m40 := ⟨px_bM_ok hb_w40 hb_g40, hb_d40_0, px_bL_ok hb_l3⟩
theorem hb_d41_0 : ∀ q ∈ hb_c41_0, decode hb_h41.2.1 q.1 = .ok q.2 := by decide +kernel
theorem hb_d41_1 : ∀ q ∈ hb_c41_1, decode hb_h41.2.1 q.1 = .ok q.2 := by decide +kernel
set_option maxRecDepth 100000 in
theorem hb_w41 : lw_tbl[666]? = some (Cond.code hb_h41.1 hb_h41.2.1 hb_h41.2.2.1 hb_h41.2.2.2.1) := by rfl
theorem hb_g41 : px_bM hb_h41 96 = true := by decide +kernel
theorem hb_o41 : px_okM px_Ts px_Ns hb_cl hb_SL hb_P hb_m41 := ⟨px_bM_ok hb_w41 hb_g41, List.forall_mem_append.mpr ⟨hb_d41_0, hb_d41_1⟩, px_bL_ok hb_l3⟩
theorem hb_d42_0 : ∀ q ∈ hb_c42_0, decode hb_h42.2.1 q.1 = .ok q.2 := by decide +kernel
theorem hb_d42_1 : ∀ q ∈ hb_c42_1, decode hb_h42.2.1 q.1 = .ok q.2 := by decide +kernel
theorem hb_d42_2 : ∀ q ∈ hb_c42_2, decode hb_h42.2.1 q.1 = .ok q.2 := by decide +kernel
set_option maxRecDepth 100000 in
theorem hb_w42 : lw_tbl[684]? = some (Cond.code hb_h42.1 hb_h42.2.1 hb_h42.2.2.1 hb_h42.2.2.2.1) := by rfl
theorem hb_g42 : px_bM hb_h42 96 = true := by decide +kernel
theorem hb_o42 : px_okM px_Ts px_Ns hb_cl hb_SL hb_P hb_m42 := ⟨px_bM_ok hb_w42 hb_g42, List.forall_mem_append.mpr ⟨hb_d42_0, List.forall_mem_append.mpr ⟨hb_d42_1, hb_d42_2⟩⟩, px_bL_ok hb_l3⟩
theorem hb_d43_0 : ∀ q ∈ hb_c43_0, decode hb_h43.2.1 q.1 = .ok q.2 := by decide +kernel
theorem hb_d43_1 : ∀ q ∈ hb_c43_1, decode hb_h43.2.1 q.1 = .ok q.2 := by decide +kernel
set_option maxRecDepth 100000 in
theorem hb_w43 : lw_tbl[688]? = some (Cond.code hb_h43.1 hb_h43.2.1 hb_h43.2.2.1 hb_h43.2.2.2.1) := by rfl
theorem hb_g43 : px_bM hb_h43 96 = true := by decide +kernel
theorem hb_o43 : px_okM px_Ts px_Ns hb_cl hb_SL hb_P hb_m43 := ⟨px_bM_ok hb_w43 hb_g43, List.forall_mem_append.mpr ⟨hb_d43_0, hb_d43_1⟩, px_bL_ok hb_l3⟩
theorem hb_d44_0 : ∀ q ∈ hb_c44_0, decode hb_h44.2.1 q.1 = .ok q.2 := by decide +kernel
theorem hb_d44_1 : ∀ q ∈ hb_c44_1, decode hb_h44.2.1 q.1 = .ok q.2 := by decide +kernel
set_option maxRecDepth 100000 in
theorem hb_w44 : lw_tbl[398]? = some (Cond.code hb_h44.1 hb_h44.2.1 hb_h44.2.2.1 hb_h44.2.2.2.1) := by rfl
theorem hb_g44 : px_bM hb_h44 102 = true := by decide +kernel
theorem hb_o44 : px_okM px_Ts px_Ns hb_cl hb_SL hb_P hb_m44 := ⟨px_bM_ok hb_w44 hb_g44, List.forall_mem_append.mpr ⟨hb_d44_0, hb_d44_1⟩, px_bL_ok hb_l4⟩
theorem hb_d45_0 : ∀ q ∈ hb_c45_0, decode hb_h45.2.1 q.1 = .ok q.2 := by decide +kernel
set_option maxRecDepth 100000 in
theorem hb_w45 : lw_tbl[1431]? = some (Cond.code hb_h45.1 hb_h45.2.1 hb_h45.2.2.1 hb_h45.2.2.2.1) := by rfl
theorem hb_g45 : px_bM hb_h45 102 = true := by decide +kernel
theorem hb_o45 : px_okM px_Ts px_Ns hb_cl hb_SL hb_P hb_m45 := ⟨px_bM_ok hb_w45 hb_g45, hb_d45_0, px_bL_ok hb_l4⟩
theorem hb_d46_0 : ∀ q ∈ hb_c46_0, decode hb_h46.2.1 q.1 = .ok q.2 := by decide +kernel
set_option maxRecDepth 100000 in
theorem hb_w46 : lw_tbl[1245]? = some (Cond.code hb_h46.1 hb_h46.2.1 hb_h46.2.2.1 hb_h46.2.2.2.1) := by rfl
theorem hb_g46 : px_bM hb_h46 102 = true := by decide +kernel
theorem hb_o46 : px_okM px_Ts px_Ns hb_cl hb_SL hb_P hb_m46 := ⟨px_bM_ok hb_w46 hb_g46, hb_d46_0, px_bL_ok hb_l4⟩
theorem hb_d47_0 : ∀ q ∈ hb_c47_0, decode hb_h47.2.1 q.1 = .ok q.2 := by decide +kernel
theorem hb_d47_1 : ∀ q ∈ hb_c47_1, decode hb_h47.2.1 q.1 = .ok q.2 := by decide +kernel
set_option maxRecDepth 100000 in
theorem hb_w47 : lw_tbl[1253]? = some (Cond.code hb_h47.1 hb_h47.2.1 hb_h47.2.2.1 hb_h47.2.2.2.1) := by rfl
theorem hb_g47 : px_bM hb_h47 102 = true := by decide +kernel
theorem hb_o47 : px_okM px_Ts px_Ns hb_cl hb_SL hb_P hb_m47 := ⟨px_bM_ok hb_w47 hb_g47, List.forall_mem_append.mpr ⟨hb_d47_0, hb_d47_1⟩, px_bL_ok hb_l4⟩
theorem hb_d48_0 : ∀ q ∈ hb_c48_0, decode hb_h48.2.1 q.1 = .ok q.2 := by decide +kernel
set_option maxRecDepth 100000 in
theorem hb_w48 : lw_tbl[1257]? = some (Cond.code hb_h48.1 hb_h48.2.1 hb_h48.2.2.1 hb_h48.2.2.2.1) := by rfl
theorem hb_g48 : px_bM hb_h48 102 = true := by decide +kernel
theorem hb_o48 : px_okM px_Ts px_Ns hb_cl hb_SL hb_P hb_m48 := ⟨px_bM_ok hb_w48 hb_g48, hb_d48_0, px_bL_ok hb_l4⟩
theorem hb_d49_0 : ∀ q ∈ hb_c49_0, decode hb_h49.2.1 q.1 = .ok q.2 := by decide +kernel
set_option maxRecDepth 100000 in
theorem hb_w49 : lw_tbl[1261]? = some (Cond.code hb_h49.1 hb_h49.2.1 hb_h49.2.2.1 hb_h49.2.2.2.1) := by rfl
theorem hb_g49 : px_bM hb_h49 102 = true := by decide +kernel
theorem hb_o49 : px_okM px_Ts px_Ns hb_cl hb_SL hb_P hb_m49 := ⟨px_bM_ok hb_w49 hb_g49, hb_d49_0, px_bL_ok hb_l4⟩
theorem hb_d50_0 : ∀ q ∈ hb_c50_0, decode hb_h50.2.1 q.1 = .ok q.2 := by decide +kernel
theorem hb_d50_1 : ∀ q ∈ hb_c50_1, decode hb_h50.2.1 q.1 = .ok q.2 := by decide +kernel
theorem hb_d50_2 : ∀ q ∈ hb_c50_2, decode hb_h50.2.1 q.1 = .ok q.2 := by decide +kernel
set_option maxRecDepth 100000 in
theorem hb_w50 : lw_tbl[1265]? = some (Cond.code hb_h50.1 hb_h50.2.1 hb_h50.2.2.1 hb_h50.2.2.2.1) := by rfl
theorem hb_g50 : px_bM hb_h50 102 = true := by decide +kernel
theorem hb_o50 : px_okM px_Ts px_Ns hb_cl hb_SL hb_P hb_m50 := ⟨px_bM_ok hb_w50 hb_g50, List.forall_mem_append.mpr ⟨hb_d50_0, List.forall_mem_append.mpr ⟨hb_d50_1, hb_d50_2⟩⟩, px_bL_ok hb_l4⟩
theorem hb_d51_0 : ∀ q ∈ hb_c51_0, decode hb_h51.2.1 q.1 = .ok q.2 := by decide +kernel
set_option maxRecDepth 100000 in
theorem hb_w51 : lw_tbl[505]? = some (Cond.code hb_h51.1 hb_h51.2.1 hb_h51.2.2.1 hb_h51.2.2.2.1) := by rfl
theorem hb_g51 : px_bM hb_h51 104 = true := by decide +kernel
theorem hb_o51 : px_okM px_Ts px_Ns hb_cl hb_SL hb_P hb_m51 := ⟨px_bM_ok hb_w51 hb_g51, hb_d51_0, px_bL_ok hb_l5⟩
theorem hb_d52_0 : ∀ q ∈ hb_c52_0, decode hb_h52.2.1 q.1 = .ok q.2 := by decide +kernel
set_option maxRecDepth 100000 in
theorem hb_w52 : lw_tbl[1019]? = some (Cond.code hb_h52.1 hb_h52.2.1 hb_h52.2.2.1 hb_h52.2.2.2.1) := by rfl
theorem hb_g52 : px_bM hb_h52 104 = true := by decide +kernel
theorem hb_o52 : px_okM px_Ts px_Ns hb_cl hb_SL hb_P hb_m52 := ⟨px_bM_ok hb_w52 hb_g52, hb_d52_0, px_bL_ok hb_l5⟩
theorem hb_d53_0 : ∀ q ∈ hb_c53_0, decode hb_h53.2.1 q.1 = .ok q.2 := by decide +kernel
theorem hb_d53_1 : ∀ q ∈ hb_c53_1, decode hb_h53.2.1 q.1 = .ok q.2 := by decide +kernel
set_option maxRecDepth 100000 in
theorem hb_w53 : lw_tbl[1028]? = some (Cond.code hb_h53.1 hb_h53.2.1 hb_h53.2.2.1 hb_h53.2.2.2.1) := by rfl
theorem hb_g53 : px_bM hb_h53 104 = true := by decide +kernel
theorem hb_o53 : px_okM px_Ts px_Ns hb_cl hb_SL hb_P hb_m53 := ⟨px_bM_ok hb_w53 hb_g53, List.forall_mem_append.mpr ⟨hb_d53_0, hb_d53_1⟩, px_bL_ok hb_l5⟩
theorem hb_d54_0 : ∀ q ∈ hb_c54_0, decode hb_h54.2.1 q.1 = .ok q.2 := by decide +kernel
theorem hb_d54_1 : ∀ q ∈ hb_c54_1, decode hb_h54.2.1 q.1 = .ok q.2 := by decide +kernel
theorem hb_d54_2 : ∀ q ∈ hb_c54_2, decode hb_h54.2.1 q.1 = .ok q.2 := by decide +kernel
set_option maxRecDepth 100000 in
theorem hb_w54 : lw_tbl[1032]? = some (Cond.code hb_h54.1 hb_h54.2.1 hb_h54.2.2.1 hb_h54.2.2.2.1) := by rfl
theorem hb_g54 : px_bM hb_h54 104 = true := by decide +kernel
theorem hb_o54 : px_okM px_Ts px_Ns hb_cl hb_SL hb_P hb_m54 := ⟨px_bM_ok hb_w54 hb_g54, List.forall_mem_append.mpr ⟨hb_d54_0, List.forall_mem_append.mpr ⟨hb_d54_1, hb_d54_2⟩⟩, px_bL_ok hb_l5⟩
theorem hb_d55_0 : ∀ q ∈ hb_c55_0, decode hb_h55.2.1 q.1 = .ok q.2 := by decide +kernel
set_option maxRecDepth 100000 in
theorem hb_w55 : lw_tbl[1111]? = some (Cond.code hb_h55.1 hb_h55.2.1 hb_h55.2.2.1 hb_h55.2.2.2.1) := by rfl
theorem hb_g55 : px_bM hb_h55 104 = true := by decide +kernel
theorem hb_o55 : px_okM px_Ts px_Ns hb_cl hb_SL hb_P hb_m55 := ⟨px_bM_ok hb_w55 hb_g55, hb_d55_0, px_bL_ok hb_l5⟩
theorem hb_d56_0 : ∀ q ∈ hb_c56_0, decode hb_h56.2.1 q.1 = .ok q.2 := by decide +kernel
set_option maxRecDepth 100000 in
theorem hb_w56 : lw_tbl[1035]? = some (Cond.code hb_h56.1 hb_h56.2.1 hb_h56.2.2.1 hb_h56.2.2.2.1) := by rfl
theorem hb_g56 : px_bM hb_h56 104 = true := by decide +kernel
theorem hb_o56 : px_okM px_Ts px_Ns hb_cl hb_SL hb_P hb_m56 := ⟨px_bM_ok hb_w56 hb_g56, hb_d56_0, px_bL_ok hb_l5⟩
theorem hb_d57_0 : ∀ q ∈ hb_c57_0, decode hb_h57.2.1 q.1 = .ok q.2 := by decide +kernel
set_option maxRecDepth 100000 in
theorem hb_w57 : lw_tbl[1114]? = some (Cond.code hb_h57.1 hb_h57.2.1 hb_h57.2.2.1 hb_h57.2.2.2.1) := by rfl
theorem hb_g57 : px_bM hb_h57 104 = true := by decide +kernel
theorem hb_o57 : px_okM px_Ts px_Ns hb_cl hb_SL hb_P hb_m57 := ⟨px_bM_ok hb_w57 hb_g57, hb_d57_0, px_bL_ok hb_l5⟩
theorem hb_d58_0 : ∀ q ∈ hb_c58_0, decode hb_h58.2.1 q.1 = .ok q.2 := by decide +kernel
set_option maxRecDepth 100000 in
theorem hb_w58 : lw_tbl[1118]? = some (Cond.code hb_h58.1 hb_h58.2.1 hb_h58.2.2.1 hb_h58.2.2.2.1) := by rfl
theorem hb_g58 : px_bM hb_h58 104 = true := by decide +kernel
theorem hb_o58 : px_okM px_Ts px_Ns hb_cl hb_SL hb_P hb_m58 := ⟨px_bM_ok hb_w58 hb_g58, hb_d58_0, px_bL_ok hb_l5⟩
theorem hb_d59_0 : ∀ q ∈ hb_c59_0, decode hb_h59.2.1 q.1 = .ok q.2 := by decide +kernel
theorem hb_d59_1 : ∀ q ∈ hb_c59_1, decode hb_h59.2.1 q.1 = .ok q.2 := by decide +kernel
theorem hb_d59_2 : ∀ q ∈ hb_c59_2, decode hb_h59.2.1 q.1 = .ok q.2 := by decide +kernel
theorem hb_d59_3 : ∀ q ∈ hb_c59_3, decode hb_h59.2.1 q.1 = .ok q.2 := by decide +kernel
set_option maxRecDepth 100000 in
theorem hb_w59 : lw_tbl[1039]? = some (Cond.code hb_h59.1 hb_h59.2.1 hb_h59.2.2.1 hb_h59.2.2.2.1) := by rfl
theorem hb_g59 : px_bM hb_h59 104 = true := by decide +kernel
theorem hb_o59 : px_okM px_Ts px_Ns hb_cl hb_SL hb_P hb_m59 := ⟨px_bM_ok hb_w59 hb_g59, List.forall_mem_append.mpr ⟨hb_d59_0, List.forall_mem_append.mpr ⟨hb_d59_1, List.forall_mem_append.mpr ⟨hb_d59_2, hb_d59_3⟩⟩⟩, px_bL_ok hb_l5⟩
end
section
theorem hb_d60_0 : ∀ q ∈ hb_c60_0, decode hb_h60.2.1 q.1 = .ok q.2 := by decide +kernel
set_option maxRecDepth 100000 in
theorem hb_w60 : lw_tbl[1044]? = some (Cond.code hb_h60.1 hb_h60.2.1 hb_h60.2.2.1 hb_h60.2.2.2.1) := by rfl
theorem hb_g60 : px_bM hb_h60 104 = true := by decide +kernel
theorem hb_o60 : px_okM px_Ts px_Ns hb_cl hb_SL hb_P hb_m60 := ⟨px_bM_ok hb_w60 hb_g60, hb_d60_0, px_bL_ok hb_l5⟩
theorem hb_d61_0 : ∀ q ∈ hb_c61_0, decode hb_h61.2.1 q.1 = .ok q.2 := by decide +kernel
set_option maxRecDepth 100000 in
theorem hb_w61 : lw_tbl[1147]? = some (Cond.code hb_h61.1 hb_h61.2.1 hb_h61.2.2.1 hb_h61.2.2.2.1) := by rfl
theorem hb_g61 : px_bM hb_h61 104 = true := by decide +kernel
theorem hb_o61 : px_okM px_Ts px_Ns hb_cl hb_SL hb_P hb_m61 := ⟨px_bM_ok hb_w61 hb_g61, hb_d61_0, px_bL_ok hb_l5⟩
theorem hb_d62_0 : ∀ q ∈ hb_c62_0, decode hb_h62.2.1 q.1 = .ok q.2 := by decide +kernel
set_option maxRecDepth 100000 in
theorem hb_w62 : lw_tbl[1134]? = some (Cond.code hb_h62.1 hb_h62.2.1 hb_h62.2.2.1 hb_h62.2.2.2.1) := by rfl
theorem hb_g62 : px_bM hb_h62 104 = true := by decide +kernel
theorem hb_o62 : px_okM px_Ts px_Ns hb_cl hb_SL hb_P hb_m62 := ⟨px_bM_ok hb_w62 hb_g62, hb_d62_0, px_bL_ok hb_l5⟩
theorem hb_d63_0 : ∀ q ∈ hb_c63_0, decode hb_h63.2.1 q.1 = .ok q.2 := by decide +kernel
set_option maxRecDepth 100000 in
theorem hb_w63 : lw_tbl[1130]? = some (Cond.code hb_h63.1 hb_h63.2.1 hb_h63.2.2.1 hb_h63.2.2.2.1) := by rfl
theorem hb_g63 : px_bM hb_h63 104 = true := by decide +kernel
theorem hb_o63 : px_okM px_Ts px_Ns hb_cl hb_SL hb_P hb_m63 := ⟨px_bM_ok hb_w63 hb_g63, hb_d63_0, px_bL_ok hb_l5⟩
theorem hb_d64_0 : ∀ q ∈ hb_c64_0, decode hb_h64.2.1 q.1 = .ok q.2 := by decide +kernel
set_option maxRecDepth 100000 in
theorem hb_w64 : lw_tbl[1126]? = some (Cond.code hb_h64.1 hb_h64.2.1 hb_h64.2.2.1 hb_h64.2.2.2.1) := by rfl
theorem hb_g64 : px_bM hb_h64 104 = true := by decide +kernel
theorem hb_o64 : px_okM px_Ts px_Ns hb_cl hb_SL hb_P hb_m64 := ⟨px_bM_ok hb_w64 hb_g64, hb_d64_0, px_bL_ok hb_l5⟩
theorem hb_d65_0 : ∀ q ∈ hb_c65_0, decode hb_h65.2.1 q.1 = .ok q.2 := by decide +kernel
theorem hb_d65_1 : ∀ q ∈ hb_c65_1, decode hb_h65.2.1 q.1 = .ok q.2 := by decide +kernel
theorem hb_d65_2 : ∀ q ∈ hb_c65_2, decode hb_h65.2.1 q.1 = .ok q.2 := by decide +kernel
set_option maxRecDepth 100000 in
theorem hb_w65 : lw_tbl[1142]? = some (Cond.code hb_h65.1 hb_h65.2.1 hb_h65.2.2.1 hb_h65.2.2.2.1) := by rfl
theorem hb_g65 : px_bM hb_h65 104 = true := by decide +kernel
theorem hb_o65 : px_okM px_Ts px_Ns hb_cl hb_SL hb_P hb_m65 := ⟨px_bM_ok hb_w65 hb_g65, List.forall_mem_append.mpr ⟨hb_d65_0, List.forall_mem_append.mpr ⟨hb_d65_1, hb_d65_2⟩⟩, px_bL_ok hb_l5⟩
theorem hb_d66_0 : ∀ q ∈ hb_c66_0, decode hb_h66.2.1 q.1 = .ok q.2 := by decide +kernel
set_option maxRecDepth 100000 in
theorem hb_w66 : lw_tbl[1151]? = some (Cond.code hb_h66.1 hb_h66.2.1 hb_h66.2.2.1 hb_h66.2.2.2.1) := by rfl
theorem hb_g66 : px_bM hb_h66 104 = true := by decide +kernel
theorem hb_o66 : px_okM px_Ts px_Ns hb_cl hb_SL hb_P hb_m66 := ⟨px_bM_ok hb_w66 hb_g66, hb_d66_0, px_bL_ok hb_l5⟩
theorem hb_d67_0 : ∀ q ∈ hb_c67_0, decode hb_h67.2.1 q.1 = .ok q.2 := by decide +kernel
set_option maxRecDepth 100000 in
theorem hb_w67 : lw_tbl[1159]? = some (Cond.code hb_h67.1 hb_h67.2.1 hb_h67.2.2.1 hb_h67.2.2.2.1) := by rfl
theorem hb_g67 : px_bM hb_h67 104 = true := by decide +kernel
theorem hb_o67 : px_okM px_Ts px_Ns hb_cl hb_SL hb_P hb_m67 := ⟨px_bM_ok hb_w67 hb_g67, hb_d67_0, px_bL_ok hb_l5⟩
theorem hb_d68_0 : ∀ q ∈ hb_c68_0, decode hb_h68.2.1 q.1 = .ok q.2 := by decide +kernel
set_option maxRecDepth 100000 in
theorem hb_w68 : lw_tbl[1163]? = some (Cond.code hb_h68.1 hb_h68.2.1 hb_h68.2.2.1 hb_h68.2.2.2.1) := by rfl
theorem hb_g68 : px_bM hb_h68 104 = true := by decide +kernel
theorem hb_o68 : px_okM px_Ts px_Ns hb_cl hb_SL hb_P hb_m68 := ⟨px_bM_ok hb_w68 hb_g68, hb_d68_0, px_bL_ok hb_l5⟩
theorem hb_d69_0 : ∀ q ∈ hb_c69_0, decode hb_h69.2.1 q.1 = .ok q.2 := by decide +kernel
theorem hb_d69_1 : ∀ q ∈ hb_c69_1, decode hb_h69.2.1 q.1 = .ok q.2 := by decide +kernel
set_option maxRecDepth 100000 in
theorem hb_w69 : lw_tbl[1167]? = some (Cond.code hb_h69.1 hb_h69.2.1 hb_h69.2.2.1 hb_h69.2.2.2.1) := by rfl
theorem hb_g69 : px_bM hb_h69 104 = true := by decide +kernel
theorem hb_o69 : px_okM px_Ts px_Ns hb_cl hb_SL hb_P hb_m69 := ⟨px_bM_ok hb_w69 hb_g69, List.forall_mem_append.mpr ⟨hb_d69_0, hb_d69_1⟩, px_bL_ok hb_l5⟩
theorem hb_d70_0 : ∀ q ∈ hb_c70_0, decode hb_h70.2.1 q.1 = .ok q.2 := by decide +kernel
set_option maxRecDepth 100000 in
theorem hb_w70 : lw_tbl[1171]? = some (Cond.code hb_h70.1 hb_h70.2.1 hb_h70.2.2.1 hb_h70.2.2.2.1) := by rfl
theorem hb_g70 : px_bM hb_h70 104 = true := by decide +kernel
theorem hb_o70 : px_okM px_Ts px_Ns hb_cl hb_SL hb_P hb_m70 := ⟨px_bM_ok hb_w70 hb_g70, hb_d70_0, px_bL_ok hb_l5⟩
theorem hb_d71_0 : ∀ q ∈ hb_c71_0, decode hb_h71.2.1 q.1 = .ok q.2 := by decide +kernel
theorem hb_d71_1 : ∀ q ∈ hb_c71_1, decode hb_h71.2.1 q.1 = .ok q.2 := by decide +kernel
set_option maxRecDepth 100000 in
theorem hb_w71 : lw_tbl[1175]? = some (Cond.code hb_h71.1 hb_h71.2.1 hb_h71.2.2.1 hb_h71.2.2.2.1) := by rfl
theorem hb_g71 : px_bM hb_h71 104 = true := by decide +kernel
theorem hb_o71 : px_okM px_Ts px_Ns hb_cl hb_SL hb_P hb_m71 := ⟨px_bM_ok hb_w71 hb_g71, List.forall_mem_append.mpr ⟨hb_d71_0, hb_d71_1⟩, px_bL_ok hb_l5⟩
theorem hb_d72_0 : ∀ q ∈ hb_c72_0, decode hb_h72.2.1 q.1 = .ok q.2 := by decide +kernel
set_option maxRecDepth 100000 in
theorem hb_w72 : lw_tbl[363]? = some (Cond.code hb_h72.1 hb_h72.2.1 hb_h72.2.2.1 hb_h72.2.2.2.1) := by rfl
theorem hb_g72 : px_bM hb_h72 101 = true := by decide +kernel
theorem hb_o72 : px_okM px_Ts px_Ns hb_cl hb_SL hb_P hb_m72 := ⟨px_bM_ok hb_w72 hb_g72, hb_d72_0, px_bL_ok hb_l6⟩
theorem hb_d73_0 : ∀ q ∈ hb_c73_0, decode hb_h73.2.1 q.1 = .ok q.2 := by decide +kernel
set_option maxRecDepth 100000 in
theorem hb_w73 : lw_tbl[1426]? = some (Cond.code hb_h73.1 hb_h73.2.1 hb_h73.2.2.1 hb_h73.2.2.2.1) := by rfl
theorem hb_g73 : px_bM hb_h73 101 = true := by decide +kernel
theorem hb_o73 : px_okM px_Ts px_Ns hb_cl hb_SL hb_P hb_m73 := ⟨px_bM_ok hb_w73 hb_g73, hb_d73_0, px_bL_ok hb_l6⟩
theorem hb_d74_0 : ∀ q ∈ hb_c74_0, decode hb_h74.2.1 q.1 = .ok q.2 := by decide +kernel
set_option maxRecDepth 100000 in
theorem hb_w74 : lw_tbl[1122]? = some (Cond.code hb_h74.1 hb_h74.2.1 hb_h74.2.2.1 hb_h74.2.2.2.1) := by rfl
theorem hb_g74 : px_bM hb_h74 101 = true := by decide +kernel
theorem hb_o74 : px_okM px_Ts px_Ns hb_cl hb_SL hb_P hb_m74 := ⟨px_bM_ok hb_w74 hb_g74, hb_d74_0, px_bL_ok hb_l6⟩
theorem hb_d75_0 : ∀ q ∈ hb_c75_0, decode hb_h75.2.1 q.1 = .ok q.2 := by decide +kernel
set_option maxRecDepth 100000 in
theorem hb_w75 : lw_tbl[1155]? = some (Cond.code hb_h75.1 hb_h75.2.1 hb_h75.2.2.1 hb_h75.2.2.2.1) := by rfl
theorem hb_g75 : px_bM hb_h75 101 = true := by decide +kernel
theorem hb_o75 : px_okM px_Ts px_Ns hb_cl hb_SL hb_P hb_m75 := ⟨px_bM_ok hb_w75 hb_g75, hb_d75_0, px_bL_ok hb_l6⟩
theorem hb_d76_0 : ∀ q ∈ hb_c76_0, decode hb_h76.2.1 q.1 = .ok q.2 := by decide +kernel
set_option maxRecDepth 100000 in
theorem hb_w76 : lw_tbl[1179]? = some (Cond.code hb_h76.1 hb_h76.2.1 hb_h76.2.2.1 hb_h76.2.2.2.1) := by rfl
theorem hb_g76 : px_bM hb_h76 101 = true := by decide +kernel
theorem hb_o76 : px_okM px_Ts px_Ns hb_cl hb_SL hb_P hb_m76 := ⟨px_bM_ok hb_w76 hb_g76, hb_d76_0, px_bL_ok hb_l6⟩
theorem hb_d77_0 : ∀ q ∈ hb_c77_0, decode hb_h77.2.1 q.1 = .ok q.2 := by decide +kernel
theorem hb_d77_1 : ∀ q ∈ hb_c77_1, decode hb_h77.2.1 q.1 = .ok q.2 := by decide +kernel
set_option maxRecDepth 100000 in
theorem hb_w77 : lw_tbl[1138]? = some (Cond.code hb_h77.1 hb_h77.2.1 hb_h77.2.2.1 hb_h77.2.2.2.1) := by rfl
theorem hb_g77 : px_bM hb_h77 101 = true := by decide +kernel
theorem hb_o77 : px_okM px_Ts px_Ns hb_cl hb_SL hb_P hb_m77 := ⟨px_bM_ok hb_w77 hb_g77, List.forall_mem_append.mpr ⟨hb_d77_0, hb_d77_1⟩, px_bL_ok hb_l6⟩
theorem hb_d78_0 : ∀ q ∈ hb_c78_0, decode hb_h78.2.1 q.1 = .ok q.2 := by decide +kernel
set_option maxRecDepth 100000 in
theorem hb_w78 : lw_tbl[1183]? = some (Cond.code hb_h78.1 hb_h78.2.1 hb_h78.2.2.1 hb_h78.2.2.2.1) := by rfl
theorem hb_g78 : px_bM hb_h78 101 = true := by decide +kernel
theorem hb_o78 : px_okM px_Ts px_Ns hb_cl hb_SL hb_P hb_m78 := ⟨px_bM_ok hb_w78 hb_g78, hb_d78_0, px_bL_ok hb_l6⟩
theorem hb_d79_0 : ∀ q ∈ hb_c79_0, decode hb_h79.2.1 q.1 = .ok q.2 := by decide +kernel
set_option maxRecDepth 100000 in
theorem hb_w79 : lw_tbl[1200]? = some (Cond.code hb_h79.1 hb_h79.2.1 hb_h79.2.2.1 hb_h79.2.2.2.1) := by rfl
theorem hb_g79 : px_bM hb_h79 101 = true := by decide +kernel
theorem hb_o79 : px_okM px_Ts px_Ns hb_cl hb_SL hb_P hb_m79 := ⟨px_bM_ok hb_w79 hb_g79, hb_d79_0, px_bL_ok hb_l6⟩
end
section
theorem hb_d80_0 : ∀ q ∈ hb_c80_0, decode hb_h80.2.1 q.1 = .ok q.2 := by decide +kernel
set_option maxRecDepth 100000 in
theorem hb_w80 : lw_tbl[1221]? = some (Cond.code hb_h80.1 hb_h80.2.1 hb_h80.2.2.1 hb_h80.2.2.2.1) := by rfl
theorem hb_g80 : px_bM hb_h80 101 = true := by decide +kernel
theorem hb_o80 : px_okM px_Ts px_Ns hb_cl hb_SL hb_P hb_m80 := ⟨px_bM_ok hb_w80 hb_g80, hb_d80_0, px_bL_ok hb_l6⟩
theorem hb_d81_0 : ∀ q ∈ hb_c81_0, decode hb_h81.2.1 q.1 = .ok q.2 := by decide +kernel
set_option maxRecDepth 100000 in
theorem hb_w81 : lw_tbl[1229]? = some (Cond.code hb_h81.1 hb_h81.2.1 hb_h81.2.2.1 hb_h81.2.2.2.1) := by rfl
theorem hb_g81 : px_bM hb_h81 101 = true := by decide +kernel
theorem hb_o81 : px_okM px_Ts px_Ns hb_cl hb_SL hb_P hb_m81 := ⟨px_bM_ok hb_w81 hb_g81, hb_d81_0, px_bL_ok hb_l6⟩
theorem hb_d82_0 : ∀ q ∈ hb_c82_0, decode hb_h82.2.1 q.1 = .ok q.2 := by decide +kernel
set_option maxRecDepth 100000 in
theorem hb_w82 : lw_tbl[1208]? = some (Cond.code hb_h82.1 hb_h82.2.1 hb_h82.2.2.1 hb_h82.2.2.2.1) := by rfl
theorem hb_g82 : px_bM hb_h82 101 = true := by decide +kernel
theorem hb_o82 : px_okM px_Ts px_Ns hb_cl hb_SL hb_P hb_m82 := ⟨px_bM_ok hb_w82 hb_g82, hb_d82_0, px_bL_ok hb_l6⟩
theorem hb_d83_0 : ∀ q ∈ hb_c83_0, decode hb_h83.2.1 q.1 = .ok q.2 := by decide +kernel
set_option maxRecDepth 100000 in
theorem hb_w83 : lw_tbl[1204]? = some (Cond.code hb_h83.1 hb_h83.2.1 hb_h83.2.2.1 hb_h83.2.2.2.1) := by rfl
theorem hb_g83 : px_bM hb_h83 101 = true := by decide +kernel
theorem hb_o83 : px_okM px_Ts px_Ns hb_cl hb_SL hb_P hb_m83 := ⟨px_bM_ok hb_w83 hb_g83, hb_d83_0, px_bL_ok hb_l6⟩
theorem hb_d84_0 : ∀ q ∈ hb_c84_0, decode hb_h84.2.1 q.1 = .ok q.2 := by decide +kernel
theorem hb_d84_1 : ∀ q ∈ hb_c84_1, decode hb_h84.2.1 q.1 = .ok q.2 := by decide +kernel
theorem hb_d84_2 : ∀ q ∈ hb_c84_2, decode hb_h84.2.1 q.1 = .ok q.2 := by decide +kernel
set_option maxRecDepth 100000 in
theorem hb_w84 : lw_tbl[1233]? = some (Cond.code hb_h84.1 hb_h84.2.1 hb_h84.2.2.1 hb_h84.2.2.2.1) := by rfl
theorem hb_g84 : px_bM hb_h84 101 = true := by decide +kernel
theorem hb_o84 : px_okM px_Ts px_Ns hb_cl hb_SL hb_P hb_m84 := ⟨px_bM_ok hb_w84 hb_g84, List.forall_mem_append.mpr ⟨hb_d84_0, List.forall_mem_append.mpr ⟨hb_d84_1, hb_d84_2⟩⟩, px_bL_ok hb_l6⟩
theorem hb_d85_0 : ∀ q ∈ hb_c85_0, decode hb_h85.2.1 q.1 = .ok q.2 := by decide +kernel
theorem hb_d85_1 : ∀ q ∈ hb_c85_1, decode hb_h85.2.1 q.1 = .ok q.2 := by decide +kernel
set_option maxRecDepth 100000 in
theorem hb_w85 : lw_tbl[1236]? = some (Cond.code hb_h85.1 hb_h85.2.1 hb_h85.2.2.1 hb_h85.2.2.2.1) := by rfl
theorem hb_g85 : px_bM hb_h85 101 = true := by decide +kernel
theorem hb_o85 : px_okM px_Ts px_Ns hb_cl hb_SL hb_P hb_m85 := ⟨px_bM_ok hb_w85 hb_g85, List.forall_mem_append.mpr ⟨hb_d85_0, hb_d85_1⟩, px_bL_ok hb_l6⟩
theorem hb_d86_0 : ∀ q ∈ hb_c86_0, decode hb_h86.2.1 q.1 = .ok q.2 := by decide +kernel
theorem hb_d86_1 : ∀ q ∈ hb_c86_1, decode hb_h86.2.1 q.1 = .ok q.2 := by decide +kernel
set_option maxRecDepth 100000 in
theorem hb_w86 : lw_tbl[283]? = some (Cond.code hb_h86.1 hb_h86.2.1 hb_h86.2.2.1 hb_h86.2.2.2.1) := by rfl
theorem hb_g86 : px_bM hb_h86 99 = true := by decide +kernel
theorem hb_o86 : px_okM px_Ts px_Ns hb_cl hb_SL hb_P hb_m86 := ⟨px_bM_ok hb_w86 hb_g86, List.forall_mem_append.mpr ⟨hb_d86_0, hb_d86_1⟩, px_bL_ok hb_l7⟩
theorem hb_d87_0 : ∀ q ∈ hb_c87_0, decode hb_h87.2.1 q.1 = .ok q.2 := by decide +kernel
theorem hb_d87_1 : ∀ q ∈ hb_c87_1, decode hb_h87.2.1 q.1 = .ok q.2 := by decide +kernel
set_option maxRecDepth 100000 in
theorem hb_w87 : lw_tbl[1416]? = some (Cond.code hb_h87.1 hb_h87.2.1 hb_h87.2.2.1 hb_h87.2.2.2.1) := by rfl
theorem hb_g87 : px_bM hb_h87 99 = true := by decide +kernel
theorem hb_o87 : px_okM px_Ts px_Ns hb_cl hb_SL hb_P hb_m87 := ⟨px_bM_ok hb_w87 hb_g87, List.forall_mem_append.mpr ⟨hb_d87_0, hb_d87_1⟩, px_bL_ok hb_l7⟩
theorem hb_d88_0 : ∀ q ∈ hb_c88_0, decode hb_h88.2.1 q.1 = .ok q.2 := by decide +kernel
theorem hb_d88_1 : ∀ q ∈ hb_c88_1, decode hb_h88.2.1 q.1 = .ok q.2 := by decide +kernel
set_option maxRecDepth 100000 in
theorem hb_w88 : lw_tbl[907]? = some (Cond.code hb_h88.1 hb_h88.2.1 hb_h88.2.2.1 hb_h88.2.2.2.1) := by rfl
theorem hb_g88 : px_bM hb_h88 99 = true := by decide +kernel
theorem hb_o88 : px_okM px_Ts px_Ns hb_cl hb_SL hb_P hb_m88 := ⟨px_bM_ok hb_w88 hb_g88, List.forall_mem_append.mpr ⟨hb_d88_0, hb_d88_1⟩, px_bL_ok hb_l7⟩
theorem hb_d89_0 : ∀ q ∈ hb_c89_0, decode hb_h89.2.1 q.1 = .ok q.2 := by decide +kernel
set_option maxRecDepth 100000 in
theorem hb_w89 : lw_tbl[922]? = some (Cond.code hb_h89.1 hb_h89.2.1 hb_h89.2.2.1 hb_h89.2.2.2.1) := by rfl
theorem hb_g89 : px_bM hb_h89 99 = true := by decide +kernel
theorem hb_o89 : px_okM px_Ts px_Ns hb_cl hb_SL hb_P hb_m89 := ⟨px_bM_ok hb_w89 hb_g89, hb_d89_0, px_bL_ok hb_l7⟩
theorem hb_d90_0 : ∀ q ∈ hb_c90_0, decode hb_h90.2.1 q.1 = .ok q.2 := by decide +kernel
set_option maxRecDepth 100000 in
theorem hb_w90 : lw_tbl[955]? = some (Cond.code hb_h90.1 hb_h90.2.1 hb_h90.2.2.1 hb_h90.2.2.2.1) := by rfl
theorem hb_g90 : px_bM hb_h90 99 = true := by decide +kernel
theorem hb_o90 : px_okM px_Ts px_Ns hb_cl hb_SL hb_P hb_m90 := ⟨px_bM_ok hb_w90 hb_g90, hb_d90_0, px_bL_ok hb_l7⟩
theorem hb_d91_0 : ∀ q ∈ hb_c91_0, decode hb_h91.2.1 q.1 = .ok q.2 := by decide +kernel
set_option maxRecDepth 100000 in
theorem hb_w91 : lw_tbl[930]? = some (Cond.code hb_h91.1 hb_h91.2.1 hb_h91.2.2.1 hb_h91.2.2.2.1) := by rfl
theorem hb_g91 : px_bM hb_h91 99 = true := by decide +kernel
theorem hb_o91 : px_okM px_Ts px_Ns hb_cl hb_SL hb_P hb_m91 := ⟨px_bM_ok hb_w91 hb_g91, hb_d91_0, px_bL_ok hb_l7⟩
theorem hb_d92_0 : ∀ q ∈ hb_c92_0, decode hb_h92.2.1 q.1 = .ok q.2 := by decide +kernel
set_option maxRecDepth 100000 in
theorem hb_w92 : lw_tbl[934]? = some (Cond.code hb_h92.1 hb_h92.2.1 hb_h92.2.2.1 hb_h92.2.2.2.1) := by rfl
theorem hb_g92 : px_bM hb_h92 99 = true := by decide +kernel
theorem hb_o92 : px_okM px_Ts px_Ns hb_cl hb_SL hb_P hb_m92 := ⟨px_bM_ok hb_w92 hb_g92, hb_d92_0, px_bL_ok hb_l7⟩
theorem hb_d93_0 : ∀ q ∈ hb_c93_0, decode hb_h93.2.1 q.1 = .ok q.2 := by decide +kernel
set_option maxRecDepth 100000 in
theorem hb_w93 : lw_tbl[947]? = some (Cond.code hb_h93.1 hb_h93.2.1 hb_h93.2.2.1 hb_h93.2.2.2.1) := by rfl
theorem hb_g93 : px_bM hb_h93 99 = true := by decide +kernel
theorem hb_o93 : px_okM px_Ts px_Ns hb_cl hb_SL hb_P hb_m93 := ⟨px_bM_ok hb_w93 hb_g93, hb_d93_0, px_bL_ok hb_l7⟩
theorem hb_d94_0 : ∀ q ∈ hb_c94_0, decode hb_h94.2.1 q.1 = .ok q.2 := by decide +kernel
set_option maxRecDepth 100000 in
theorem hb_w94 : lw_tbl[943]? = some (Cond.code hb_h94.1 hb_h94.2.1 hb_h94.2.2.1 hb_h94.2.2.2.1) := by rfl
theorem hb_g94 : px_bM hb_h94 99 = true := by decide +kernel
theorem hb_o94 : px_okM px_Ts px_Ns hb_cl hb_SL hb_P hb_m94 := ⟨px_bM_ok hb_w94 hb_g94, hb_d94_0, px_bL_ok hb_l7⟩
theorem hb_d95_0 : ∀ q ∈ hb_c95_0, decode hb_h95.2.1 q.1 = .ok q.2 := by decide +kernel
set_option maxRecDepth 100000 in
theorem hb_w95 : lw_tbl[963]? = some (Cond.code hb_h95.1 hb_h95.2.1 hb_h95.2.2.1 hb_h95.2.2.2.1) := by rfl
theorem hb_g95 : px_bM hb_h95 99 = true := by decide +kernel
theorem hb_o95 : px_okM px_Ts px_Ns hb_cl hb_SL hb_P hb_m95 := ⟨px_bM_ok hb_w95 hb_g95, hb_d95_0, px_bL_ok hb_l7⟩
theorem hb_d96_0 : ∀ q ∈ hb_c96_0, decode hb_h96.2.1 q.1 = .ok q.2 := by decide +kernel
set_option maxRecDepth 100000 in
theorem hb_w96 : lw_tbl[967]? = some (Cond.code hb_h96.1 hb_h96.2.1 hb_h96.2.2.1 hb_h96.2.2.2.1) := by rfl
theorem hb_g96 : px_bM hb_h96 99 = true := by decide +kernel
theorem hb_o96 : px_okM px_Ts px_Ns hb_cl hb_SL hb_P hb_m96 := ⟨px_bM_ok hb_w96 hb_g96, hb_d96_0, px_bL_ok hb_l7⟩
theorem hb_d97_0 : ∀ q ∈ hb_c97_0, decode hb_h97.2.1 q.1 = .ok q.2 := by decide +kernel
theorem hb_d97_1 : ∀ q ∈ hb_c97_1, decode hb_h97.2.1 q.1 = .ok q.2 := by decide +kernel
set_option maxRecDepth 100000 in
theorem hb_w97 : lw_tbl[442]? = some (Cond.code hb_h97.1 hb_h97.2.1 hb_h97.2.2.1 hb_h97.2.2.2.1) := by rfl
theorem hb_g97 : px_bM hb_h97 103 = true := by decide +kernel
theorem hb_o97 : px_okM px_Ts px_Ns hb_cl hb_SL hb_P hb_m97 := ⟨px_bM_ok hb_w97 hb_g97, List.forall_mem_append.mpr ⟨hb_d97_0, hb_d97_1⟩, px_bL_ok hb_l8⟩
theorem hb_d98_0 : ∀ q ∈ hb_c98_0, decode hb_h98.2.1 q.1 = .ok q.2 := by decide +kernel
theorem hb_d98_1 : ∀ q ∈ hb_c98_1, decode hb_h98.2.1 q.1 = .ok q.2 := by decide +kernel
theorem hb_d98_2 : ∀ q ∈ hb_c98_2, decode hb_h98.2.1 q.1 = .ok q.2 := by decide +kernel
set_option maxRecDepth 100000 in
theorem hb_w98 : lw_tbl[827]? = some (Cond.code hb_h98.1 hb_h98.2.1 hb_h98.2.2.1 hb_h98.2.2.2.1) := by rfl
theorem hb_g98 : px_bM hb_h98 103 = true := by decide +kernel
theorem hb_o98 : px_okM px_Ts px_Ns hb_cl hb_SL hb_P hb_m98 := ⟨px_bM_ok hb_w98 hb_g98, List.forall_mem_append.mpr ⟨hb_d98_0, List.forall_mem_append.mpr ⟨hb_d98_1, hb_d98_2⟩⟩, px_bL_ok hb_l8⟩
theorem hb_d99_0 : ∀ q ∈ hb_c99_0, decode hb_h99.2.1 q.1 = .ok q.2 := by decide +kernel
theorem hb_d99_1 : ∀ q ∈ hb_c99_1, decode hb_h99.2.1 q.1 = .ok q.2 := by decide +kernel
set_option maxRecDepth 100000 in
theorem hb_w99 : lw_tbl[834]? = some (Cond.code hb_h99.1 hb_h99.2.1 hb_h99.2.2.1 hb_h99.2.2.2.1) := by rfl
theorem hb_g99 : px_bM hb_h99 103 = true := by decide +kernel
theorem hb_o99 : px_okM px_Ts px_Ns hb_cl hb_SL hb_P hb_m99 := ⟨px_bM_ok hb_w99 hb_g99, List.forall_mem_append.mpr ⟨hb_d99_0, hb_d99_1⟩, px_bL_ok hb_l8⟩
end
section
theorem hb_d100_0 : ∀ q ∈ hb_c100_0, decode hb_h100.2.1 q.1 = .ok q.2 := by decide +kernel
theorem hb_d100_1 : ∀ q ∈ hb_c100_1, decode hb_h100.2.1 q.1 = .ok q.2 := by decide +kernel
set_option maxRecDepth 100000 in
theorem hb_w100 : lw_tbl[842]? = some (Cond.code hb_h100.1 hb_h100.2.1 hb_h100.2.2.1 hb_h100.2.2.2.1) := by rfl
theorem hb_g100 : px_bM hb_h100 103 = true := by decide +kernel
theorem hb_o100 : px_okM px_Ts px_Ns hb_cl hb_SL hb_P hb_m100 := ⟨px_bM_ok hb_w100 hb_g100, List.forall_mem_append.mpr ⟨hb_d100_0, hb_d100_1⟩, px_bL_ok hb_l8⟩
theorem hb_d101_0 : ∀ q ∈ hb_c101_0, decode hb_h101.2.1 q.1 = .ok q.2 := by decide +kernel
theorem hb_d101_1 : ∀ q ∈ hb_c101_1, decode hb_h101.2.1 q.1 = .ok q.2 := by decide +kernel
set_option maxRecDepth 100000 in
theorem hb_w101 : lw_tbl[851]? = some (Cond.code hb_h101.1 hb_h101.2.1 hb_h101.2.2.1 hb_h101.2.2.2.1) := by rfl
theorem hb_g101 : px_bM hb_h101 103 = true := by decide +kernel
theorem hb_o101 : px_okM px_Ts px_Ns hb_cl hb_SL hb_P hb_m101 := ⟨px_bM_ok hb_w101 hb_g101, List.forall_mem_append.mpr ⟨hb_d101_0, hb_d101_1⟩, px_bL_ok hb_l8⟩
theorem hb_d102_0 : ∀ q ∈ hb_c102_0, decode hb_h102.2.1 q.1 = .ok q.2 := by decide +kernel
theorem hb_d102_1 : ∀ q ∈ hb_c102_1, decode hb_h102.2.1 q.1 = .ok q.2 := by decide +kernel
set_option maxRecDepth 100000 in
theorem hb_w102 : lw_tbl[856]? = some (Cond.code hb_h102.1 hb_h102.2.1 hb_h102.2.2.1 hb_h102.2.2.2.1) := by rfl
theorem hb_g102 : px_bM hb_h102 103 = true := by decide +kernel
theorem hb_o102 : px_okM px_Ts px_Ns hb_cl hb_SL hb_P hb_m102 := ⟨px_bM_ok hb_w102 hb_g102, List.forall_mem_append.mpr ⟨hb_d102_0, hb_d102_1⟩, px_bL_ok hb_l8⟩
theorem hb_d103_0 : ∀ q ∈ hb_c103_0, decode hb_h103.2.1 q.1 = .ok q.2 := by decide +kernel
theorem hb_d103_1 : ∀ q ∈ hb_c103_1, decode hb_h103.2.1 q.1 = .ok q.2 := by decide +kernel
theorem hb_d103_2 : ∀ q ∈ hb_c103_2, decode hb_h103.2.1 q.1 = .ok q.2 := by decide +kernel
set_option maxRecDepth 100000 in
theorem hb_w103 : lw_tbl[860]? = some (Cond.code hb_h103.1 hb_h103.2.1 hb_h103.2.2.1 hb_h103.2.2.2.1) := by rfl
theorem hb_g103 : px_bM hb_h103 103 = true := by decide +kernel
theorem hb_o103 : px_okM px_Ts px_Ns hb_cl hb_SL hb_P hb_m103 := ⟨px_bM_ok hb_w103 hb_g103, List.forall_mem_append.mpr ⟨hb_d103_0, List.forall_mem_append.mpr ⟨hb_d103_1, hb_d103_2⟩⟩, px_bL_ok hb_l8⟩
theorem hb_d104_0 : ∀ q ∈ hb_c104_0, decode hb_h104.2.1 q.1 = .ok q.2 := by decide +kernel
theorem hb_d104_1 : ∀ q ∈ hb_c104_1, decode hb_h104.2.1 q.1 = .ok q.2 := by decide +kernel
set_option maxRecDepth 100000 in
theorem hb_w104 : lw_tbl[876]? = some (Cond.code hb_h104.1 hb_h104.2.1 hb_h104.2.2.1 hb_h104.2.2.2.1) := by rfl
theorem hb_g104 : px_bM hb_h104 103 = true := by decide +kernel
theorem hb_o104 : px_okM px_Ts px_Ns hb_cl hb_SL hb_P hb_m104 := ⟨px_bM_ok hb_w104 hb_g104, List.forall_mem_append.mpr ⟨hb_d104_0, hb_d104_1⟩, px_bL_ok hb_l8⟩
theorem hb_d105_0 : ∀ q ∈ hb_c105_0, decode hb_h105.2.1 q.1 = .ok q.2 := by decide +kernel
theorem hb_d105_1 : ∀ q ∈ hb_c105_1, decode hb_h105.2.1 q.1 = .ok q.2 := by decide +kernel
theorem hb_d105_2 : ∀ q ∈ hb_c105_2, decode hb_h105.2.1 q.1 = .ok q.2 := by decide +kernel
set_option maxRecDepth 100000 in
theorem hb_w105 : lw_tbl[880]? = some (Cond.code hb_h105.1 hb_h105.2.1 hb_h105.2.2.1 hb_h105.2.2.2.1) := by rfl
theorem hb_g105 : px_bM hb_h105 103 = true := by decide +kernel
theorem hb_o105 : px_okM px_Ts px_Ns hb_cl hb_SL hb_P hb_m105 := ⟨px_bM_ok hb_w105 hb_g105, List.forall_mem_append.mpr ⟨hb_d105_0, List.forall_mem_append.mpr ⟨hb_d105_1, hb_d105_2⟩⟩, px_bL_ok hb_l8⟩
theorem hb_d106_0 : ∀ q ∈ hb_c106_0, decode hb_h106.2.1 q.1 = .ok q.2 := by decide +kernel
theorem hb_d106_1 : ∀ q ∈ hb_c106_1, decode hb_h106.2.1 q.1 = .ok q.2 := by decide +kernel
set_option maxRecDepth 100000 in
theorem hb_w106 : lw_tbl[890]? = some (Cond.code hb_h106.1 hb_h106.2.1 hb_h106.2.2.1 hb_h106.2.2.2.1) := by rfl
theorem hb_g106 : px_bM hb_h106 103 = true := by decide +kernel
theorem hb_o106 : px_okM px_Ts px_Ns hb_cl hb_SL hb_P hb_m106 := ⟨px_bM_ok hb_w106 hb_g106, List.forall_mem_append.mpr ⟨hb_d106_0, hb_d106_1⟩, px_bL_ok hb_l8⟩
theorem hb_d107_0 : ∀ q ∈ hb_c107_0, decode hb_h107.2.1 q.1 = .ok q.2 := by decide +kernel
theorem hb_d107_1 : ∀ q ∈ hb_c107_1, decode hb_h107.2.1 q.1 = .ok q.2 := by decide +kernel
theorem hb_d107_2 : ∀ q ∈ hb_c107_2, decode hb_h107.2.1 q.1 = .ok q.2 := by decide +kernel
set_option maxRecDepth 100000 in
theorem hb_w107 : lw_tbl[895]? = some (Cond.code hb_h107.1 hb_h107.2.1 hb_h107.2.2.1 hb_h107.2.2.2.1) := by rfl
theorem hb_g107 : px_bM hb_h107 103 = true := by decide +kernel
theorem hb_o107 : px_okM px_Ts px_Ns hb_cl hb_SL hb_P hb_m107 := ⟨px_bM_ok hb_w107 hb_g107, List.forall_mem_append.mpr ⟨hb_d107_0, List.forall_mem_append.mpr ⟨hb_d107_1, hb_d107_2⟩⟩, px_bL_ok hb_l8⟩
theorem hb_d108_0 : ∀ q ∈ hb_c108_0, decode hb_h108.2.1 q.1 = .ok q.2 := by decide +kernel
set_option maxRecDepth 100000 in
theorem hb_w108 : lw_tbl[179]? = some (Cond.code hb_h108.1 hb_h108.2.1 hb_h108.2.2.1 hb_h108.2.2.2.1) := by rfl
theorem hb_g108 : px_bM hb_h108 97 = true := by decide +kernel
theorem hb_o108 : px_okM px_Ts px_Ns hb_cl hb_SL hb_P hb_m108 := ⟨px_bM_ok hb_w108 hb_g108, hb_d108_0, px_bL_ok hb_l9⟩
theorem hb_d109_0 : ∀ q ∈ hb_c109_0, decode hb_h109.2.1 q.1 = .ok q.2 := by decide +kernel
set_option maxRecDepth 100000 in
theorem hb_w109 : lw_tbl[1406]? = some (Cond.code hb_h109.1 hb_h109.2.1 hb_h109.2.2.1 hb_h109.2.2.2.1) := by rfl
theorem hb_g109 : px_bM hb_h109 97 = true := by decide +kernel
theorem hb_o109 : px_okM px_Ts px_Ns hb_cl hb_SL hb_P hb_m109 := ⟨px_bM_ok hb_w109 hb_g109, hb_d109_0, px_bL_ok hb_l9⟩
theorem hb_d110_0 : ∀ q ∈ hb_c110_0, decode hb_h110.2.1 q.1 = .ok q.2 := by decide +kernel
set_option maxRecDepth 100000 in
theorem hb_w110 : lw_tbl[704]? = some (Cond.code hb_h110.1 hb_h110.2.1 hb_h110.2.2.1 hb_h110.2.2.2.1) := by rfl
theorem hb_g110 : px_bM hb_h110 97 = true := by decide +kernel
theorem hb_o110 : px_okM px_Ts px_Ns hb_cl hb_SL hb_P hb_m110 := ⟨px_bM_ok hb_w110 hb_g110, hb_d110_0, px_bL_ok hb_l9⟩
theorem hb_d111_0 : ∀ q ∈ hb_c111_0, decode hb_h111.2.1 q.1 = .ok q.2 := by decide +kernel
theorem hb_d111_1 : ∀ q ∈ hb_c111_1, decode hb_h111.2.1 q.1 = .ok q.2 := by decide +kernel
theorem hb_d111_2 : ∀ q ∈ hb_c111_2, decode hb_h111.2.1 q.1 = .ok q.2 := by decide +kernel
set_option maxRecDepth 100000 in
theorem hb_w111 : lw_tbl[749]? = some (Cond.code hb_h111.1 hb_h111.2.1 hb_h111.2.2.1 hb_h111.2.2.2.1) := by rfl
theorem hb_g111 : px_bM hb_h111 97 = true := by decide +kernel
theorem hb_o111 : px_okM px_Ts px_Ns hb_cl hb_SL hb_P hb_m111 := ⟨px_bM_ok hb_w111 hb_g111, List.forall_mem_append.mpr ⟨hb_d111_0, List.forall_mem_append.mpr ⟨hb_d111_1, hb_d111_2⟩⟩, px_bL_ok hb_l9⟩
theorem hb_d112_0 : ∀ q ∈ hb_c112_0, decode hb_h112.2.1 q.1 = .ok q.2 := by decide +kernel
theorem hb_d112_1 : ∀ q ∈ hb_c112_1, decode hb_h112.2.1 q.1 = .ok q.2 := by decide +kernel
set_option maxRecDepth 100000 in
theorem hb_w112 : lw_tbl[757]? = some (Cond.code hb_h112.1 hb_h112.2.1 hb_h112.2.2.1 hb_h112.2.2.2.1) := by rfl
theorem hb_g112 : px_bM hb_h112 97 = true := by decide +kernel
theorem hb_o112 : px_okM px_Ts px_Ns hb_cl hb_SL hb_P hb_m112 := ⟨px_bM_ok hb_w112 hb_g112, List.forall_mem_append.mpr ⟨hb_d112_0, hb_d112_1⟩, px_bL_ok hb_l9⟩
theorem hb_d113_0 : ∀ q ∈ hb_c113_0, decode hb_h113.2.1 q.1 = .ok q.2 := by decide +kernel
theorem hb_d113_1 : ∀ q ∈ hb_c113_1, decode hb_h113.2.1 q.1 = .ok q.2 := by decide +kernel
set_option maxRecDepth 100000 in
theorem hb_w113 : lw_tbl[768]? = some (Cond.code hb_h113.1 hb_h113.2.1 hb_h113.2.2.1 hb_h113.2.2.2.1) := by rfl
theorem hb_g113 : px_bM hb_h113 97 = true := by decide +kernel
theorem hb_o113 : px_okM px_Ts px_Ns hb_cl hb_SL hb_P hb_m113 := ⟨px_bM_ok hb_w113 hb_g113, List.forall_mem_append.mpr ⟨hb_d113_0, hb_d113_1⟩, px_bL_ok hb_l9⟩
theorem hb_d114_0 : ∀ q ∈ hb_c114_0, decode hb_h114.2.1 q.1 = .ok q.2 := by decide +kernel
set_option maxRecDepth 100000 in
theorem hb_w114 : lw_tbl[337]? = some (Cond.code hb_h114.1 hb_h114.2.1 hb_h114.2.2.1 hb_h114.2.2.2.1) := by rfl
theorem hb_g114 : px_bM hb_h114 100 = true := by decide +kernel
theorem hb_o114 : px_okM px_Ts px_Ns hb_cl hb_SL hb_P hb_m114 := ⟨px_bM_ok hb_w114 hb_g114, hb_d114_0, px_bL_ok hb_l10⟩
theorem hb_d115_0 : ∀ q ∈ hb_c115_0, decode hb_h115.2.1 q.1 = .ok q.2 := by decide +kernel
set_option maxRecDepth 100000 in
theorem hb_w115 : lw_tbl[1421]? = some (Cond.code hb_h115.1 hb_h115.2.1 hb_h115.2.2.1 hb_h115.2.2.2.1) := by rfl
theorem hb_g115 : px_bM hb_h115 100 = true := by decide +kernel
theorem hb_o115 : px_okM px_Ts px_Ns hb_cl hb_SL hb_P hb_m115 := ⟨px_bM_ok hb_w115 hb_g115, hb_d115_0, px_bL_ok hb_l10⟩
theorem hb_d116_0 : ∀ q ∈ hb_c116_0, decode hb_h116.2.1 q.1 = .ok q.2 := by decide +kernel
set_option maxRecDepth 100000 in
theorem hb_w116 : lw_tbl[986]? = some (Cond.code hb_h116.1 hb_h116.2.1 hb_h116.2.2.1 hb_h116.2.2.2.1) := by rfl
theorem hb_g116 : px_bM hb_h116 100 = true := by decide +kernel
theorem hb_o116 : px_okM px_Ts px_Ns hb_cl hb_SL hb_P hb_m116 := ⟨px_bM_ok hb_w116 hb_g116, hb_d116_0, px_bL_ok hb_l10⟩
theorem hb_d117_0 : ∀ q ∈ hb_c117_0, decode hb_h117.2.1 q.1 = .ok q.2 := by decide +kernel
set_option maxRecDepth 100000 in
theorem hb_w117 : lw_tbl[990]? = some (Cond.code hb_h117.1 hb_h117.2.1 hb_h117.2.2.1 hb_h117.2.2.2.1) := by rfl
theorem hb_g117 : px_bM hb_h117 100 = true := by decide +kernel
theorem hb_o117 : px_okM px_Ts px_Ns hb_cl hb_SL hb_P hb_m117 := ⟨px_bM_ok hb_w117 hb_g117, hb_d117_0, px_bL_ok hb_l10⟩
theorem hb_d118_0 : ∀ q ∈ hb_c118_0, decode hb_h118.2.1 q.1 = .ok q.2 := by decide +kernel
set_option maxRecDepth 100000 in
theorem hb_w118 : lw_tbl[999]? = some (Cond.code hb_h118.1 hb_h118.2.1 hb_h118.2.2.1 hb_h118.2.2.2.1) := by rfl
theorem hb_g118 : px_bM hb_h118 100 = true := by decide +kernel
theorem hb_o118 : px_okM px_Ts px_Ns hb_cl hb_SL hb_P hb_m118 := ⟨px_bM_ok hb_w118 hb_g118, hb_d118_0, px_bL_ok hb_l10⟩
theorem hb_d119_0 : ∀ q ∈ hb_c119_0, decode hb_h119.2.1 q.1 = .ok q.2 := by decide +kernel
theorem hb_d119_1 : ∀ q ∈ hb_c119_1, decode hb_h119.2.1 q.1 = .ok q.2 := by decide +kernel
set_option maxRecDepth 100000 in
theorem hb_w119 : lw_tbl[1007]? = some (Cond.code hb_h119.1 hb_h119.2.1 hb_h119.2.2.1 hb_h119.2.2.2.1) := by rfl
theorem hb_g119 : px_bM hb_h119 100 = true := by decide +kernel
theorem hb_o119 : px_okM px_Ts px_Ns hb_cl hb_SL hb_P hb_m119 := ⟨px_bM_ok hb_w119 hb_g119, List.forall_mem_append.mpr ⟨hb_d119_0, hb_d119_1⟩, px_bL_ok hb_l10⟩
end
section
theorem hb_d120_0 : ∀ q ∈ hb_c120_0, decode hb_h120.2.1 q.1 = .ok q.2 := by decide +kernel
theorem hb_d120_1 : ∀ q ∈ hb_c120_1, decode hb_h120.2.1 q.1 = .ok q.2 := by decide +kernel
theorem hb_d120_2 : ∀ q ∈ hb_c120_2, decode hb_h120.2.1 q.1 = .ok q.2 := by decide +kernel
set_option maxRecDepth 100000 in
theorem hb_w120 : lw_tbl[119]? = some (Cond.code hb_h120.1 hb_h120.2.1 hb_h120.2.2.1 hb_h120.2.2.2.1) := by rfl
theorem hb_g120 : px_bM hb_h120 95 = true := by decide +kernel
theorem hb_o120 : px_okM px_Ts px_Ns hb_cl hb_SL hb_P hb_m120 := ⟨px_bM_ok hb_w120 hb_g120, List.forall_mem_append.mpr ⟨hb_d120_0, List.forall_mem_append.mpr ⟨hb_d120_1, hb_d120_2⟩⟩, px_bL_ok hb_l11⟩
theorem hb_d121_0 : ∀ q ∈ hb_c121_0, decode hb_h121.2.1 q.1 = .ok q.2 := by decide +kernel
set_option maxRecDepth 100000 in
theorem hb_w121 : lw_tbl[655]? = some (Cond.code hb_h121.1 hb_h121.2.1 hb_h121.2.2.1 hb_h121.2.2.2.1) := by rfl
theorem hb_g121 : px_bM hb_h121 95 = true := by decide +kernel
theorem hb_o121 : px_okM px_Ts px_Ns hb_cl hb_SL hb_P hb_m121 := ⟨px_bM_ok hb_w121 hb_g121, hb_d121_0, px_bL_ok hb_l11⟩
theorem hb_d122_0 : ∀ q ∈ hb_c122_0, decode hb_h122.2.1 q.1 = .ok q.2 := by decide +kernel
set_option maxRecDepth 100000 in
theorem hb_w122 : lw_tbl[696]? = some (Cond.code hb_h122.1 hb_h122.2.1 hb_h122.2.2.1 hb_h122.2.2.2.1) := by rfl
theorem hb_g122 : px_bM hb_h122 95 = true := by decide +kernel
theorem hb_o122 : px_okM px_Ts px_Ns hb_cl hb_SL hb_P hb_m122 := ⟨px_bM_ok hb_w122 hb_g122, hb_d122_0, px_bL_ok hb_l11⟩
theorem hb_d123_0 : ∀ q ∈ hb_c123_0, decode hb_h123.2.1 q.1 = .ok q.2 := by decide +kernel
set_option maxRecDepth 100000 in
theorem hb_w123 : lw_tbl[712]? = some (Cond.code hb_h123.1 hb_h123.2.1 hb_h123.2.2.1 hb_h123.2.2.2.1) := by rfl
theorem hb_g123 : px_bM hb_h123 95 = true := by decide +kernel
theorem hb_o123 : px_okM px_Ts px_Ns hb_cl hb_SL hb_P hb_m123 := ⟨px_bM_ok hb_w123 hb_g123, hb_d123_0, px_bL_ok hb_l11⟩
theorem hb_d124_0 : ∀ q ∈ hb_c124_0, decode hb_h124.2.1 q.1 = .ok q.2 := by decide +kernel
set_option maxRecDepth 100000 in
theorem hb_w124 : lw_tbl[716]? = some (Cond.code hb_h124.1 hb_h124.2.1 hb_h124.2.2.1 hb_h124.2.2.2.1) := by rfl
theorem hb_g124 : px_bM hb_h124 95 = true := by decide +kernel
theorem hb_o124 : px_okM px_Ts px_Ns hb_cl hb_SL hb_P hb_m124 := ⟨px_bM_ok hb_w124 hb_g124, hb_d124_0, px_bL_ok hb_l11⟩
theorem hb_d125_0 : ∀ q ∈ hb_c125_0, decode hb_h125.2.1 q.1 = .ok q.2 := by decide +kernel
set_option maxRecDepth 100000 in
theorem hb_w125 : lw_tbl[720]? = some (Cond.code hb_h125.1 hb_h125.2.1 hb_h125.2.2.1 hb_h125.2.2.2.1) := by rfl
theorem hb_g125 : px_bM hb_h125 95 = true := by decide +kernel
theorem hb_o125 : px_okM px_Ts px_Ns hb_cl hb_SL hb_P hb_m125 := ⟨px_bM_ok hb_w125 hb_g125, hb_d125_0, px_bL_ok hb_l11⟩
theorem hb_d126_0 : ∀ q ∈ hb_c126_0, decode hb_h126.2.1 q.1 = .ok q.2 := by decide +kernel
set_option maxRecDepth 100000 in
theorem hb_w126 : lw_tbl[726]? = some (Cond.code hb_h126.1 hb_h126.2.1 hb_h126.2.2.1 hb_h126.2.2.2.1) := by rfl
theorem hb_g126 : px_bM hb_h126 95 = true := by decide +kernel
theorem hb_o126 : px_okM px_Ts px_Ns hb_cl hb_SL hb_P hb_m126 := ⟨px_bM_ok hb_w126 hb_g126, hb_d126_0, px_bL_ok hb_l11⟩
theorem hb_d127_0 : ∀ q ∈ hb_c127_0, decode hb_h127.2.1 q.1 = .ok q.2 := by decide +kernel
theorem hb_d127_1 : ∀ q ∈ hb_c127_1, decode hb_h127.2.1 q.1 = .ok q.2 := by decide +kernel
set_option maxRecDepth 100000 in
theorem hb_w127 : lw_tbl[730]? = some (Cond.code hb_h127.1 hb_h127.2.1 hb_h127.2.2.1 hb_h127.2.2.2.1) := by rfl
theorem hb_g127 : px_bM hb_h127 95 = true := by decide +kernel
theorem hb_o127 : px_okM px_Ts px_Ns hb_cl hb_SL hb_P hb_m127 := ⟨px_bM_ok hb_w127 hb_g127, List.forall_mem_append.mpr ⟨hb_d127_0, hb_d127_1⟩, px_bL_ok hb_l11⟩
theorem hb_d128_0 : ∀ q ∈ hb_c128_0, decode hb_h128.2.1 q.1 = .ok q.2 := by decide +kernel
set_option maxRecDepth 100000 in
theorem hb_w128 : lw_tbl[745]? = some (Cond.code hb_h128.1 hb_h128.2.1 hb_h128.2.2.1 hb_h128.2.2.2.1) := by rfl
theorem hb_g128 : px_bM hb_h128 95 = true := by decide +kernel
theorem hb_o128 : px_okM px_Ts px_Ns hb_cl hb_SL hb_P hb_m128 := ⟨px_bM_ok hb_w128 hb_g128, hb_d128_0, px_bL_ok hb_l11⟩
theorem hb_d129_0 : ∀ q ∈ hb_c129_0, decode hb_h129.2.1 q.1 = .ok q.2 := by decide +kernel
set_option maxRecDepth 100000 in
theorem hb_w129 : lw_tbl[753]? = some (Cond.code hb_h129.1 hb_h129.2.1 hb_h129.2.2.1 hb_h129.2.2.2.1) := by rfl
theorem hb_g129 : px_bM hb_h129 95 = true := by decide +kernel
theorem hb_o129 : px_okM px_Ts px_Ns hb_cl hb_SL hb_P hb_m129 := ⟨px_bM_ok hb_w129 hb_g129, hb_d129_0, px_bL_ok hb_l11⟩
theorem hb_d130_0 : ∀ q ∈ hb_c130_0, decode hb_h130.2.1 q.1 = .ok q.2 := by decide +kernel
set_option maxRecDepth 100000 in
theorem hb_w130 : lw_tbl[778]? = some (Cond.code hb_h130.1 hb_h130.2.1 hb_h130.2.2.1 hb_h130.2.2.2.1) := by rfl
theorem hb_g130 : px_bM hb_h130 95 = true := by decide +kernel
theorem hb_o130 : px_okM px_Ts px_Ns hb_cl hb_SL hb_P hb_m130 := ⟨px_bM_ok hb_w130 hb_g130, hb_d130_0, px_bL_ok hb_l11⟩
theorem hb_d131_0 : ∀ q ∈ hb_c131_0, decode hb_h131.2.1 q.1 = .ok q.2 := by decide +kernel
set_option maxRecDepth 100000 in
theorem hb_w131 : lw_tbl[792]? = some (Cond.code hb_h131.1 hb_h131.2.1 hb_h131.2.2.1 hb_h131.2.2.2.1) := by rfl
theorem hb_g131 : px_bM hb_h131 95 = true := by decide +kernel
theorem hb_o131 : px_okM px_Ts px_Ns hb_cl hb_SL hb_P hb_m131 := ⟨px_bM_ok hb_w131 hb_g131, hb_d131_0, px_bL_ok hb_l11⟩
theorem hb_d132_0 : ∀ q ∈ hb_c132_0, decode hb_h132.2.1 q.1 = .ok q.2 := by decide +kernel
set_option maxRecDepth 100000 in
theorem hb_w132 : lw_tbl[800]? = some (Cond.code hb_h132.1 hb_h132.2.1 hb_h132.2.2.1 hb_h132.2.2.2.1) := by rfl
theorem hb_g132 : px_bM hb_h132 95 = true := by decide +kernel
theorem hb_o132 : px_okM px_Ts px_Ns hb_cl hb_SL hb_P hb_m132 := ⟨px_bM_ok hb_w132 hb_g132, hb_d132_0, px_bL_ok hb_l11⟩
theorem hb_d133_0 : ∀ q ∈ hb_c133_0, decode hb_h133.2.1 q.1 = .ok q.2 := by decide +kernel
set_option maxRecDepth 100000 in
theorem hb_w133 : lw_tbl[815]? = some (Cond.code hb_h133.1 hb_h133.2.1 hb_h133.2.2.1 hb_h133.2.2.2.1) := by rfl
theorem hb_g133 : px_bM hb_h133 95 = true := by decide +kernel
theorem hb_o133 : px_okM px_Ts px_Ns hb_cl hb_SL hb_P hb_m133 := ⟨px_bM_ok hb_w133 hb_g133, hb_d133_0, px_bL_ok hb_l11⟩
theorem hb_d134_0 : ∀ q ∈ hb_c134_0, decode hb_h134.2.1 q.1 = .ok q.2 := by decide +kernel
set_option maxRecDepth 100000 in
theorem hb_w134 : lw_tbl[823]? = some (Cond.code hb_h134.1 hb_h134.2.1 hb_h134.2.2.1 hb_h134.2.2.2.1) := by rfl
theorem hb_g134 : px_bM hb_h134 95 = true := by decide +kernel
theorem hb_o134 : px_okM px_Ts px_Ns hb_cl hb_SL hb_P hb_m134 := ⟨px_bM_ok hb_w134 hb_g134, hb_d134_0, px_bL_ok hb_l11⟩
theorem hb_d135_0 : ∀ q ∈ hb_c135_0, decode hb_h135.2.1 q.1 = .ok q.2 := by decide +kernel
set_option maxRecDepth 100000 in
theorem hb_w135 : lw_tbl[838]? = some (Cond.code hb_h135.1 hb_h135.2.1 hb_h135.2.2.1 hb_h135.2.2.2.1) := by rfl
theorem hb_g135 : px_bM hb_h135 95 = true := by decide +kernel
theorem hb_o135 : px_okM px_Ts px_Ns hb_cl hb_SL hb_P hb_m135 := ⟨px_bM_ok hb_w135 hb_g135, hb_d135_0, px_bL_ok hb_l11⟩
theorem hb_d136_0 : ∀ q ∈ hb_c136_0, decode hb_h136.2.1 q.1 = .ok q.2 := by decide +kernel
set_option maxRecDepth 100000 in
theorem hb_w136 : lw_tbl[847]? = some (Cond.code hb_h136.1 hb_h136.2.1 hb_h136.2.2.1 hb_h136.2.2.2.1) := by rfl
theorem hb_g136 : px_bM hb_h136 95 = true := by decide +kernel
theorem hb_o136 : px_okM px_Ts px_Ns hb_cl hb_SL hb_P hb_m136 := ⟨px_bM_ok hb_w136 hb_g136, hb_d136_0, px_bL_ok hb_l11⟩
theorem hb_d137_0 : ∀ q ∈ hb_c137_0, decode hb_h137.2.1 q.1 = .ok q.2 := by decide +kernel
set_option maxRecDepth 100000 in
theorem hb_w137 : lw_tbl[864]? = some (Cond.code hb_h137.1 hb_h137.2.1 hb_h137.2.2.1 hb_h137.2.2.2.1) := by rfl
theorem hb_g137 : px_bM hb_h137 95 = true := by decide +kernel
theorem hb_o137 : px_okM px_Ts px_Ns hb_cl hb_SL hb_P hb_m137 := ⟨px_bM_ok hb_w137 hb_g137, hb_d137_0, px_bL_ok hb_l11⟩
theorem hb_d138_0 : ∀ q ∈ hb_c138_0, decode hb_h138.2.1 q.1 = .ok q.2 := by decide +kernel
set_option maxRecDepth 100000 in
theorem hb_w138 : lw_tbl[868]? = some (Cond.code hb_h138.1 hb_h138.2.1 hb_h138.2.2.1 hb_h138.2.2.2.1) := by rfl
theorem hb_g138 : px_bM hb_h138 95 = true := by decide +kernel
theorem hb_o138 : px_okM px_Ts px_Ns hb_cl hb_SL hb_P hb_m138 := ⟨px_bM_ok hb_w138 hb_g138, hb_d138_0, px_bL_ok hb_l11⟩
theorem hb_d139_0 : ∀ q ∈ hb_c139_0, decode hb_h139.2.1 q.1 = .ok q.2 := by decide +kernel
set_option maxRecDepth 100000 in
theorem hb_w139 : lw_tbl[872]? = some (Cond.code hb_h139.1 hb_h139.2.1 hb_h139.2.2.1 hb_h139.2.2.2.1) := by rfl
theorem hb_g139 : px_bM hb_h139 95 = true := by decide +kernel
theorem hb_o139 : px_okM px_Ts px_Ns hb_cl hb_SL hb_P hb_m139 := ⟨px_bM_ok hb_w139 hb_g139, hb_d139_0, px_bL_ok hb_l11⟩
end
section
theorem hb_d140_0 : ∀ q ∈ hb_c140_0, decode hb_h140.2.1 q.1 = .ok q.2 := by decide +kernel
theorem hb_d140_1 : ∀ q ∈ hb_c140_1, decode hb_h140.2.1 q.1 = .ok q.2 := by decide +kernel
set_option maxRecDepth 100000 in
theorem hb_w140 : lw_tbl[885]? = some (Cond.code hb_h140.1 hb_h140.2.1 hb_h140.2.2.1 hb_h140.2.2.2.1) := by rfl
theorem hb_g140 : px_bM hb_h140 95 = true := by decide +kernel
theorem hb_o140 : px_okM px_Ts px_Ns hb_cl hb_SL hb_P hb_m140 := ⟨px_bM_ok hb_w140 hb_g140, List.forall_mem_append.mpr ⟨hb_d140_0, hb_d140_1⟩, px_bL_ok hb_l11⟩
theorem hb_d141_0 : ∀ q ∈ hb_c141_0, decode hb_h141.2.1 q.1 = .ok q.2 := by decide +kernel
theorem hb_d141_1 : ∀ q ∈ hb_c141_1, decode hb_h141.2.1 q.1 = .ok q.2 := by decide +kernel
set_option maxRecDepth 100000 in
theorem hb_w141 : lw_tbl[902]? = some (Cond.code hb_h141.1 hb_h141.2.1 hb_h141.2.2.1 hb_h141.2.2.2.1) := by rfl
theorem hb_g141 : px_bM hb_h141 95 = true := by decide +kernel
theorem hb_o141 : px_okM px_Ts px_Ns hb_cl hb_SL hb_P hb_m141 := ⟨px_bM_ok hb_w141 hb_g141, List.forall_mem_append.mpr ⟨hb_d141_0, hb_d141_1⟩, px_bL_ok hb_l11⟩
theorem hb_d142_0 : ∀ q ∈ hb_c142_0, decode hb_h142.2.1 q.1 = .ok q.2 := by decide +kernel
set_option maxRecDepth 100000 in
theorem hb_w142 : lw_tbl[914]? = some (Cond.code hb_h142.1 hb_h142.2.1 hb_h142.2.2.1 hb_h142.2.2.2.1) := by rfl
theorem hb_g142 : px_bM hb_h142 95 = true := by decide +kernel
theorem hb_o142 : px_okM px_Ts px_Ns hb_cl hb_SL hb_P hb_m142 := ⟨px_bM_ok hb_w142 hb_g142, hb_d142_0, px_bL_ok hb_l11⟩
theorem hb_d143_0 : ∀ q ∈ hb_c143_0, decode hb_h143.2.1 q.1 = .ok q.2 := by decide +kernel
set_option maxRecDepth 100000 in
theorem hb_w143 : lw_tbl[918]? = some (Cond.code hb_h143.1 hb_h143.2.1 hb_h143.2.2.1 hb_h143.2.2.2.1) := by rfl
theorem hb_g143 : px_bM hb_h143 95 = true := by decide +kernel
theorem hb_o143 : px_okM px_Ts px_Ns hb_cl hb_SL hb_P hb_m143 := ⟨px_bM_ok hb_w143 hb_g143, hb_d143_0, px_bL_ok hb_l11⟩
theorem hb_d144_0 : ∀ q ∈ hb_c144_0, decode hb_h144.2.1 q.1 = .ok q.2 := by decide +kernel
set_option maxRecDepth 100000 in
theorem hb_w144 : lw_tbl[926]? = some (Cond.code hb_h144.1 hb_h144.2.1 hb_h144.2.2.1 hb_h144.2.2.2.1) := by rfl
theorem hb_g144 : px_bM hb_h144 95 = true := by decide +kernel
theorem hb_o144 : px_okM px_Ts px_Ns hb_cl hb_SL hb_P hb_m144 := ⟨px_bM_ok hb_w144 hb_g144, hb_d144_0, px_bL_ok hb_l11⟩
theorem hb_d145_0 : ∀ q ∈ hb_c145_0, decode hb_h145.2.1 q.1 = .ok q.2 := by decide +kernel
set_option maxRecDepth 100000 in
theorem hb_w145 : lw_tbl[939]? = some (Cond.code hb_h145.1 hb_h145.2.1 hb_h145.2.2.1 hb_h145.2.2.2.1) := by rfl
theorem hb_g145 : px_bM hb_h145 95 = true := by decide +kernel
theorem hb_o145 : px_okM px_Ts px_Ns hb_cl hb_SL hb_P hb_m145 := ⟨px_bM_ok hb_w145 hb_g145, hb_d145_0, px_bL_ok hb_l11⟩
theorem hb_d146_0 : ∀ q ∈ hb_c146_0, decode hb_h146.2.1 q.1 = .ok q.2 := by decide +kernel
set_option maxRecDepth 100000 in
theorem hb_w146 : lw_tbl[951]? = some (Cond.code hb_h146.1 hb_h146.2.1 hb_h146.2.2.1 hb_h146.2.2.2.1) := by rfl
theorem hb_g146 : px_bM hb_h146 95 = true := by decide +kernel
theorem hb_o146 : px_okM px_Ts px_Ns hb_cl hb_SL hb_P hb_m146 := ⟨px_bM_ok hb_w146 hb_g146, hb_d146_0, px_bL_ok hb_l11⟩
theorem hb_d147_0 : ∀ q ∈ hb_c147_0, decode hb_h147.2.1 q.1 = .ok q.2 := by decide +kernel
set_option maxRecDepth 100000 in
theorem hb_w147 : lw_tbl[959]? = some (Cond.code hb_h147.1 hb_h147.2.1 hb_h147.2.2.1 hb_h147.2.2.2.1) := by rfl
theorem hb_g147 : px_bM hb_h147 95 = true := by decide +kernel
theorem hb_o147 : px_okM px_Ts px_Ns hb_cl hb_SL hb_P hb_m147 := ⟨px_bM_ok hb_w147 hb_g147, hb_d147_0, px_bL_ok hb_l11⟩
theorem hb_d148_0 : ∀ q ∈ hb_c148_0, decode hb_h148.2.1 q.1 = .ok q.2 := by decide +kernel
set_option maxRecDepth 100000 in
theorem hb_w148 : lw_tbl[972]? = some (Cond.code hb_h148.1 hb_h148.2.1 hb_h148.2.2.1 hb_h148.2.2.2.1) := by rfl
theorem hb_g148 : px_bM hb_h148 95 = true := by decide +kernel
theorem hb_o148 : px_okM px_Ts px_Ns hb_cl hb_SL hb_P hb_m148 := ⟨px_bM_ok hb_w148 hb_g148, hb_d148_0, px_bL_ok hb_l11⟩
theorem hb_d149_0 : ∀ q ∈ hb_c149_0, decode hb_h149.2.1 q.1 = .ok q.2 := by decide +kernel
set_option maxRecDepth 100000 in
theorem hb_w149 : lw_tbl[977]? = some (Cond.code hb_h149.1 hb_h149.2.1 hb_h149.2.2.1 hb_h149.2.2.2.1) := by rfl
theorem hb_g149 : px_bM hb_h149 95 = true := by decide +kernel
theorem hb_o149 : px_okM px_Ts px_Ns hb_cl hb_SL hb_P hb_m149 := ⟨px_bM_ok hb_w149 hb_g149, hb_d149_0, px_bL_ok hb_l11⟩
theorem hb_d150_0 : ∀ q ∈ hb_c150_0, decode hb_h150.2.1 q.1 = .ok q.2 := by decide +kernel
set_option maxRecDepth 100000 in
theorem hb_w150 : lw_tbl[982]? = some (Cond.code hb_h150.1 hb_h150.2.1 hb_h150.2.2.1 hb_h150.2.2.2.1) := by rfl
theorem hb_g150 : px_bM hb_h150 95 = true := by decide +kernel
theorem hb_o150 : px_okM px_Ts px_Ns hb_cl hb_SL hb_P hb_m150 := ⟨px_bM_ok hb_w150 hb_g150, hb_d150_0, px_bL_ok hb_l11⟩
theorem hb_d151_0 : ∀ q ∈ hb_c151_0, decode hb_h151.2.1 q.1 = .ok q.2 := by decide +kernel
set_option maxRecDepth 100000 in
theorem hb_w151 : lw_tbl[995]? = some (Cond.code hb_h151.1 hb_h151.2.1 hb_h151.2.2.1 hb_h151.2.2.2.1) := by rfl
theorem hb_g151 : px_bM hb_h151 95 = true := by decide +kernel
theorem hb_o151 : px_okM px_Ts px_Ns hb_cl hb_SL hb_P hb_m151 := ⟨px_bM_ok hb_w151 hb_g151, hb_d151_0, px_bL_ok hb_l11⟩
theorem hb_d152_0 : ∀ q ∈ hb_c152_0, decode hb_h152.2.1 q.1 = .ok q.2 := by decide +kernel
set_option maxRecDepth 100000 in
theorem hb_w152 : lw_tbl[1003]? = some (Cond.code hb_h152.1 hb_h152.2.1 hb_h152.2.2.1 hb_h152.2.2.2.1) := by rfl
theorem hb_g152 : px_bM hb_h152 95 = true := by decide +kernel
theorem hb_o152 : px_okM px_Ts px_Ns hb_cl hb_SL hb_P hb_m152 := ⟨px_bM_ok hb_w152 hb_g152, hb_d152_0, px_bL_ok hb_l11⟩
theorem hb_d153_0 : ∀ q ∈ hb_c153_0, decode hb_h153.2.1 q.1 = .ok q.2 := by decide +kernel
set_option maxRecDepth 100000 in
theorem hb_w153 : lw_tbl[1011]? = some (Cond.code hb_h153.1 hb_h153.2.1 hb_h153.2.2.1 hb_h153.2.2.2.1) := by rfl
theorem hb_g153 : px_bM hb_h153 95 = true := by decide +kernel
theorem hb_o153 : px_okM px_Ts px_Ns hb_cl hb_SL hb_P hb_m153 := ⟨px_bM_ok hb_w153 hb_g153, hb_d153_0, px_bL_ok hb_l11⟩
theorem hb_d154_0 : ∀ q ∈ hb_c154_0, decode hb_h154.2.1 q.1 = .ok q.2 := by decide +kernel
set_option maxRecDepth 100000 in
theorem hb_w154 : lw_tbl[1015]? = some (Cond.code hb_h154.1 hb_h154.2.1 hb_h154.2.2.1 hb_h154.2.2.2.1) := by rfl
theorem hb_g154 : px_bM hb_h154 95 = true := by decide +kernel
theorem hb_o154 : px_okM px_Ts px_Ns hb_cl hb_SL hb_P hb_m154 := ⟨px_bM_ok hb_w154 hb_g154, hb_d154_0, px_bL_ok hb_l11⟩
theorem hb_d155_0 : ∀ q ∈ hb_c155_0, decode hb_h155.2.1 q.1 = .ok q.2 := by decide +kernel
set_option maxRecDepth 100000 in
theorem hb_w155 : lw_tbl[1024]? = some (Cond.code hb_h155.1 hb_h155.2.1 hb_h155.2.2.1 hb_h155.2.2.2.1) := by rfl
theorem hb_g155 : px_bM hb_h155 95 = true := by decide +kernel
theorem hb_o155 : px_okM px_Ts px_Ns hb_cl hb_SL hb_P hb_m155 := ⟨px_bM_ok hb_w155 hb_g155, hb_d155_0, px_bL_ok hb_l11⟩
theorem hb_d156_0 : ∀ q ∈ hb_c156_0, decode hb_h156.2.1 q.1 = .ok q.2 := by decide +kernel
theorem hb_d156_1 : ∀ q ∈ hb_c156_1, decode hb_h156.2.1 q.1 = .ok q.2 := by decide +kernel
set_option maxRecDepth 100000 in
theorem hb_w156 : lw_tbl[1188]? = some (Cond.code hb_h156.1 hb_h156.2.1 hb_h156.2.2.1 hb_h156.2.2.2.1) := by rfl
theorem hb_g156 : px_bM hb_h156 95 = true := by decide +kernel
theorem hb_o156 : px_okM px_Ts px_Ns hb_cl hb_SL hb_P hb_m156 := ⟨px_bM_ok hb_w156 hb_g156, List.forall_mem_append.mpr ⟨hb_d156_0, hb_d156_1⟩, px_bL_ok hb_l11⟩
theorem hb_d157_0 : ∀ q ∈ hb_c157_0, decode hb_h157.2.1 q.1 = .ok q.2 := by decide +kernel
set_option maxRecDepth 100000 in
theorem hb_w157 : lw_tbl[1192]? = some (Cond.code hb_h157.1 hb_h157.2.1 hb_h157.2.2.1 hb_h157.2.2.2.1) := by rfl
theorem hb_g157 : px_bM hb_h157 95 = true := by decide +kernel
theorem hb_o157 : px_okM px_Ts px_Ns hb_cl hb_SL hb_P hb_m157 := ⟨px_bM_ok hb_w157 hb_g157, hb_d157_0, px_bL_ok hb_l11⟩
theorem hb_d158_0 : ∀ q ∈ hb_c158_0, decode hb_h158.2.1 q.1 = .ok q.2 := by decide +kernel
set_option maxRecDepth 100000 in
theorem hb_w158 : lw_tbl[1217]? = some (Cond.code hb_h158.1 hb_h158.2.1 hb_h158.2.2.1 hb_h158.2.2.2.1) := by rfl
theorem hb_g158 : px_bM hb_h158 95 = true := by decide +kernel
theorem hb_o158 : px_okM px_Ts px_Ns hb_cl hb_SL hb_P hb_m158 := ⟨px_bM_ok hb_w158 hb_g158, hb_d158_0, px_bL_ok hb_l11⟩
theorem hb_d159_0 : ∀ q ∈ hb_c159_0, decode hb_h159.2.1 q.1 = .ok q.2 := by decide +kernel
set_option maxRecDepth 100000 in
theorem hb_w159 : lw_tbl[1225]? = some (Cond.code hb_h159.1 hb_h159.2.1 hb_h159.2.2.1 hb_h159.2.2.2.1) := by rfl
theorem hb_g159 : px_bM hb_h159 95 = true := by decide +kernel
theorem hb_o159 : px_okM px_Ts px_Ns hb_cl hb_SL hb_P hb_m159 := ⟨px_bM_ok hb_w159 hb_g159, hb_d159_0, px_bL_ok hb_l11⟩
end
section
theorem hb_d160_0 : ∀ q ∈ hb_c160_0, decode hb_h160.2.1 q.1 = .ok q.2 := by decide +kernel
set_option maxRecDepth 100000 in
theorem hb_w160 : lw_tbl[1241]? = some (Cond.code hb_h160.1 hb_h160.2.1 hb_h160.2.2.1 hb_h160.2.2.2.1) := by rfl
theorem hb_g160 : px_bM hb_h160 95 = true := by decide +kernel
theorem hb_o160 : px_okM px_Ts px_Ns hb_cl hb_SL hb_P hb_m160 := ⟨px_bM_ok hb_w160 hb_g160, hb_d160_0, px_bL_ok hb_l11⟩
theorem hb_d161_0 : ∀ q ∈ hb_c161_0, decode hb_h161.2.1 q.1 = .ok q.2 := by decide +kernel
theorem hb_d161_1 : ∀ q ∈ hb_c161_1, decode hb_h161.2.1 q.1 = .ok q.2 := by decide +kernel
set_option maxRecDepth 100000 in
theorem hb_w161 : lw_tbl[1249]? = some (Cond.code hb_h161.1 hb_h161.2.1 hb_h161.2.2.1 hb_h161.2.2.2.1) := by rfl
theorem hb_g161 : px_bM hb_h161 95 = true := by decide +kernel
theorem hb_o161 : px_okM px_Ts px_Ns hb_cl hb_SL hb_P hb_m161 := ⟨px_bM_ok hb_w161 hb_g161, List.forall_mem_append.mpr ⟨hb_d161_0, hb_d161_1⟩, px_bL_ok hb_l11⟩
theorem hb_d162_0 : ∀ q ∈ hb_c162_0, decode hb_h162.2.1 q.1 = .ok q.2 := by decide +kernel
set_option maxRecDepth 100000 in
theorem hb_w162 : lw_tbl[1270]? = some (Cond.code hb_h162.1 hb_h162.2.1 hb_h162.2.2.1 hb_h162.2.2.2.1) := by rfl
theorem hb_g162 : px_bM hb_h162 95 = true := by decide +kernel
theorem hb_o162 : px_okM px_Ts px_Ns hb_cl hb_SL hb_P hb_m162 := ⟨px_bM_ok hb_w162 hb_g162, hb_d162_0, px_bL_ok hb_l11⟩
theorem hb_d163_0 : ∀ q ∈ hb_c163_0, decode hb_h163.2.1 q.1 = .ok q.2 := by decide +kernel
set_option maxRecDepth 100000 in
theorem hb_w163 : lw_tbl[1281]? = some (Cond.code hb_h163.1 hb_h163.2.1 hb_h163.2.2.1 hb_h163.2.2.2.1) := by rfl
theorem hb_g163 : px_bM hb_h163 95 = true := by decide +kernel
theorem hb_o163 : px_okM px_Ts px_Ns hb_cl hb_SL hb_P hb_m163 := ⟨px_bM_ok hb_w163 hb_g163, hb_d163_0, px_bL_ok hb_l11⟩
theorem hb_d164_0 : ∀ q ∈ hb_c164_0, decode hb_h164.2.1 q.1 = .ok q.2 := by decide +kernel
set_option maxRecDepth 100000 in
theorem hb_w164 : lw_tbl[1296]? = some (Cond.code hb_h164.1 hb_h164.2.1 hb_h164.2.2.1 hb_h164.2.2.2.1) := by rfl
theorem hb_g164 : px_bM hb_h164 95 = true := by decide +kernel
theorem hb_o164 : px_okM px_Ts px_Ns hb_cl hb_SL hb_P hb_m164 := ⟨px_bM_ok hb_w164 hb_g164, hb_d164_0, px_bL_ok hb_l11⟩
theorem hb_d165_0 : ∀ q ∈ hb_c165_0, decode hb_h165.2.1 q.1 = .ok q.2 := by decide +kernel
theorem hb_d165_1 : ∀ q ∈ hb_c165_1, decode hb_h165.2.1 q.1 = .ok q.2 := by decide +kernel
theorem hb_d165_2 : ∀ q ∈ hb_c165_2, decode hb_h165.2.1 q.1 = .ok q.2 := by decide +kernel
set_option maxRecDepth 100000 in
theorem hb_w165 : lw_tbl[1308]? = some (Cond.code hb_h165.1 hb_h165.2.1 hb_h165.2.2.1 hb_h165.2.2.2.1) := by rfl
theorem hb_g165 : px_bM hb_h165 95 = true := by decide +kernel
theorem hb_o165 : px_okM px_Ts px_Ns hb_cl hb_SL hb_P hb_m165 := ⟨px_bM_ok hb_w165 hb_g165, List.forall_mem_append.mpr ⟨hb_d165_0, List.forall_mem_append.mpr ⟨hb_d165_1, hb_d165_2⟩⟩, px_bL_ok hb_l11⟩
theorem hb_d166_0 : ∀ q ∈ hb_c166_0, decode hb_h166.2.1 q.1 = .ok q.2 := by decide +kernel
set_option maxRecDepth 100000 in
theorem hb_w166 : lw_tbl[1313]? = some (Cond.code hb_h166.1 hb_h166.2.1 hb_h166.2.2.1 hb_h166.2.2.2.1) := by rfl
theorem hb_g166 : px_bM hb_h166 95 = true := by decide +kernel
theorem hb_o166 : px_okM px_Ts px_Ns hb_cl hb_SL hb_P hb_m166 := ⟨px_bM_ok hb_w166 hb_g166, hb_d166_0, px_bL_ok hb_l11⟩
theorem hb_d167_0 : ∀ q ∈ hb_c167_0, decode hb_h167.2.1 q.1 = .ok q.2 := by decide +kernel
set_option maxRecDepth 100000 in
theorem hb_w167 : lw_tbl[1325]? = some (Cond.code hb_h167.1 hb_h167.2.1 hb_h167.2.2.1 hb_h167.2.2.2.1) := by rfl
theorem hb_g167 : px_bM hb_h167 95 = true := by decide +kernel
theorem hb_o167 : px_okM px_Ts px_Ns hb_cl hb_SL hb_P hb_m167 := ⟨px_bM_ok hb_w167 hb_g167, hb_d167_0, px_bL_ok hb_l11⟩
theorem hb_d168_0 : ∀ q ∈ hb_c168_0, decode hb_h168.2.1 q.1 = .ok q.2 := by decide +kernel
theorem hb_d168_1 : ∀ q ∈ hb_c168_1, decode hb_h168.2.1 q.1 = .ok q.2 := by decide +kernel
set_option maxRecDepth 100000 in
theorem hb_w168 : lw_tbl[1336]? = some (Cond.code hb_h168.1 hb_h168.2.1 hb_h168.2.2.1 hb_h168.2.2.2.1) := by rfl
theorem hb_g168 : px_bM hb_h168 95 = true := by decide +kernel
theorem hb_o168 : px_okM px_Ts px_Ns hb_cl hb_SL hb_P hb_m168 := ⟨px_bM_ok hb_w168 hb_g168, List.forall_mem_append.mpr ⟨hb_d168_0, hb_d168_1⟩, px_bL_ok hb_l11⟩
theorem hb_d169_0 : ∀ q ∈ hb_c169_0, decode hb_h169.2.1 q.1 = .ok q.2 := by decide +kernel
set_option maxRecDepth 100000 in
theorem hb_w169 : lw_tbl[1390]? = some (Cond.code hb_h169.1 hb_h169.2.1 hb_h169.2.2.1 hb_h169.2.2.2.1) := by rfl
theorem hb_g169 : px_bM hb_h169 95 = true := by decide +kernel
theorem hb_o169 : px_okM px_Ts px_Ns hb_cl hb_SL hb_P hb_m169 := ⟨px_bM_ok hb_w169 hb_g169, hb_d169_0, px_bL_ok hb_l11⟩
theorem hb_d170_0 : ∀ q ∈ hb_c170_0, decode hb_h170.2.1 q.1 = .ok q.2 := by decide +kernel
theorem hb_d170_1 : ∀ q ∈ hb_c170_1, decode hb_h170.2.1 q.1 = .ok q.2 := by decide +kernel
set_option maxRecDepth 100000 in
theorem hb_w170 : lw_tbl[1394]? = some (Cond.code hb_h170.1 hb_h170.2.1 hb_h170.2.2.1 hb_h170.2.2.2.1) := by rfl
theorem hb_g170 : px_bM hb_h170 95 = true := by decide +kernel
theorem hb_o170 : px_okM px_Ts px_Ns hb_cl hb_SL hb_P hb_m170 := ⟨px_bM_ok hb_w170 hb_g170, List.forall_mem_append.mpr ⟨hb_d170_0, hb_d170_1⟩, px_bL_ok hb_l11⟩
theorem hb_d171_0 : ∀ q ∈ hb_c171_0, decode hb_h171.2.1 q.1 = .ok q.2 := by decide +kernel
set_option maxRecDepth 100000 in
theorem hb_w171 : lw_tbl[1402]? = some (Cond.code hb_h171.1 hb_h171.2.1 hb_h171.2.2.1 hb_h171.2.2.2.1) := by rfl
theorem hb_g171 : px_bM hb_h171 95 = true := by decide +kernel
theorem hb_o171 : px_okM px_Ts px_Ns hb_cl hb_SL hb_P hb_m171 := ⟨px_bM_ok hb_w171 hb_g171, hb_d171_0, px_bL_ok hb_l11⟩
theorem hb_d172_0 : ∀ q ∈ hb_c172_0, decode hb_h172.2.1 q.1 = .ok q.2 := by decide +kernel
theorem hb_d172_1 : ∀ q ∈ hb_c172_1, decode hb_h172.2.1 q.1 = .ok q.2 := by decide +kernel
set_option maxRecDepth 100000 in
theorem hb_w172 : lw_tbl[1435]? = some (Cond.code hb_h172.1 hb_h172.2.1 hb_h172.2.2.1 hb_h172.2.2.2.1) := by rfl
theorem hb_g172 : px_bM hb_h172 95 = true := by decide +kernel
theorem hb_o172 : px_okM px_Ts px_Ns hb_cl hb_SL hb_P hb_m172 := ⟨px_bM_ok hb_w172 hb_g172, List.forall_mem_append.mpr ⟨hb_d172_0, hb_d172_1⟩, px_bL_ok hb_l11⟩
theorem hb_d173_0 : ∀ q ∈ hb_c173_0, decode hb_h173.2.1 q.1 = .ok q.2 := by decide +kernel
set_option maxRecDepth 100000 in
theorem hb_w173 : lw_tbl[658]? = some (Cond.code hb_h173.1 hb_h173.2.1 hb_h173.2.2.1 hb_h173.2.2.2.1) := by rfl
theorem hb_g173 : px_bM hb_h173 95 = true := by decide +kernel
theorem hb_o173 : px_okM px_Ts px_Ns hb_cl hb_SL hb_P hb_m173 := ⟨px_bM_ok hb_w173 hb_g173, hb_d173_0, px_bL_ok hb_l11⟩
theorem hb_d174_0 : ∀ q ∈ hb_c174_0, decode hb_h174.2.1 q.1 = .ok q.2 := by decide +kernel
set_option maxRecDepth 100000 in
theorem hb_w174 : lw_tbl[784]? = some (Cond.code hb_h174.1 hb_h174.2.1 hb_h174.2.2.1 hb_h174.2.2.2.1) := by rfl
theorem hb_g174 : px_bM hb_h174 95 = true := by decide +kernel
theorem hb_o174 : px_okM px_Ts px_Ns hb_cl hb_SL hb_P hb_m174 := ⟨px_bM_ok hb_w174 hb_g174, hb_d174_0, px_bL_ok hb_l11⟩
theorem hb_d175_0 : ∀ q ∈ hb_c175_0, decode hb_h175.2.1 q.1 = .ok q.2 := by decide +kernel
set_option maxRecDepth 100000 in
theorem hb_w175 : lw_tbl[898]? = some (Cond.code hb_h175.1 hb_h175.2.1 hb_h175.2.2.1 hb_h175.2.2.2.1) := by rfl
theorem hb_g175 : px_bM hb_h175 95 = true := by decide +kernel
theorem hb_o175 : px_okM px_Ts px_Ns hb_cl hb_SL hb_P hb_m175 := ⟨px_bM_ok hb_w175 hb_g175, hb_d175_0, px_bL_ok hb_l11⟩
theorem hb_d176_0 : ∀ q ∈ hb_c176_0, decode hb_h176.2.1 q.1 = .ok q.2 := by decide +kernel
set_option maxRecDepth 100000 in
theorem hb_w176 : lw_tbl[737]? = some (Cond.code hb_h176.1 hb_h176.2.1 hb_h176.2.2.1 hb_h176.2.2.2.1) := by rfl
theorem hb_g176 : px_bM hb_h176 95 = true := by decide +kernel
theorem hb_o176 : px_okM px_Ts px_Ns hb_cl hb_SL hb_P hb_m176 := ⟨px_bM_ok hb_w176 hb_g176, hb_d176_0, px_bL_ok hb_l11⟩
theorem hb_d177_0 : ∀ q ∈ hb_c177_0, decode hb_h177.2.1 q.1 = .ok q.2 := by decide +kernel
set_option maxRecDepth 100000 in
theorem hb_w177 : lw_tbl[1317]? = some (Cond.code hb_h177.1 hb_h177.2.1 hb_h177.2.2.1 hb_h177.2.2.2.1) := by rfl
theorem hb_g177 : px_bM hb_h177 95 = true := by decide +kernel
theorem hb_o177 : px_okM px_Ts px_Ns hb_cl hb_SL hb_P hb_m177 := ⟨px_bM_ok hb_w177 hb_g177, hb_d177_0, px_bL_ok hb_l11⟩
theorem hb_d178_0 : ∀ q ∈ hb_c178_0, decode hb_h178.2.1 q.1 = .ok q.2 := by decide +kernel
theorem hb_d178_1 : ∀ q ∈ hb_c178_1, decode hb_h178.2.1 q.1 = .ok q.2 := by decide +kernel
set_option maxRecDepth 100000 in
theorem hb_w178 : lw_tbl[1329]? = some (Cond.code hb_h178.1 hb_h178.2.1 hb_h178.2.2.1 hb_h178.2.2.2.1) := by rfl
theorem hb_g178 : px_bM hb_h178 95 = true := by decide +kernel
theorem hb_o178 : px_okM px_Ts px_Ns hb_cl hb_SL hb_P hb_m178 := ⟨px_bM_ok hb_w178 hb_g178, List.forall_mem_append.mpr ⟨hb_d178_0, hb_d178_1⟩, px_bL_ok hb_l11⟩
theorem hb_d179_0 : ∀ q ∈ hb_c179_0, decode hb_h179.2.1 q.1 = .ok q.2 := by decide +kernel
set_option maxRecDepth 100000 in
theorem hb_w179 : lw_tbl[1352]? = some (Cond.code hb_h179.1 hb_h179.2.1 hb_h179.2.2.1 hb_h179.2.2.2.1) := by rfl
theorem hb_g179 : px_bM hb_h179 95 = true := by decide +kernel
theorem hb_o179 : px_okM px_Ts px_Ns hb_cl hb_SL hb_P hb_m179 := ⟨px_bM_ok hb_w179 hb_g179, hb_d179_0, px_bL_ok hb_l11⟩
end
section
theorem hb_d180_0 : ∀ q ∈ hb_c180_0, decode hb_h180.2.1 q.1 = .ok q.2 := by decide +kernel
set_option maxRecDepth 100000 in
theorem hb_w180 : lw_tbl[1344]? = some (Cond.code hb_h180.1 hb_h180.2.1 hb_h180.2.2.1 hb_h180.2.2.2.1) := by rfl
theorem hb_g180 : px_bM hb_h180 95 = true := by decide +kernel
theorem hb_o180 : px_okM px_Ts px_Ns hb_cl hb_SL hb_P hb_m180 := ⟨px_bM_ok hb_w180 hb_g180, hb_d180_0, px_bL_ok hb_l11⟩
theorem hb_d181_0 : ∀ q ∈ hb_c181_0, decode hb_h181.2.1 q.1 = .ok q.2 := by decide +kernel
theorem hb_d181_1 : ∀ q ∈ hb_c181_1, decode hb_h181.2.1 q.1 = .ok q.2 := by decide +kernel
theorem hb_d181_2 : ∀ q ∈ hb_c181_2, decode hb_h181.2.1 q.1 = .ok q.2 := by decide +kernel
theorem hb_d181_3 : ∀ q ∈ hb_c181_3, decode hb_h181.2.1 q.1 = .ok q.2 := by decide +kernel
theorem hb_d181_4 : ∀ q ∈ hb_c181_4, decode hb_h181.2.1 q.1 = .ok q.2 := by decide +kernel
theorem hb_d181_5 : ∀ q ∈ hb_c181_5, decode hb_h181.2.1 q.1 = .ok q.2 := by decide +kernel
theorem hb_d181_6 : ∀ q ∈ hb_c181_6, decode hb_h181.2.1 q.1 = .ok q.2 := by decide +kernel
theorem hb_d181_7 : ∀ q ∈ hb_c181_7, decode hb_h181.2.1 q.1 = .ok q.2 := by decide +kernel
theorem hb_d181_8 : ∀ q ∈ hb_c181_8, decode hb_h181.2.1 q.1 = .ok q.2 := by decide +kernel
theorem hb_d181_9 : ∀ q ∈ hb_c181_9, decode hb_h181.2.1 q.1 = .ok q.2 := by decide +kernel
theorem hb_d181_10 : ∀ q ∈ hb_c181_10, decode hb_h181.2.1 q.1 = .ok q.2 := by decide +kernel
theorem hb_d181_11 : ∀ q ∈ hb_c181_11, decode hb_h181.2.1 q.1 = .ok q.2 := by decide +kernel
theorem hb_d181_12 : ∀ q ∈ hb_c181_12, decode hb_h181.2.1 q.1 = .ok q.2 := by decide +kernel
set_option maxRecDepth 100000 in
theorem hb_w181 : lw_tbl[1440]? = some (Cond.code hb_h181.1 hb_h181.2.1 hb_h181.2.2.1 hb_h181.2.2.2.1) := by rfl
theorem hb_g181 : px_bM hb_h181 107 = true := by decide +kernel
theorem hb_o181 : px_okM px_Ts px_Ns hb_cl hb_SL hb_P hb_m181 := ⟨px_bM_ok hb_w181 hb_g181, List.forall_mem_append.mpr ⟨hb_d181_0, List.forall_mem_append.mpr ⟨hb_d181_1, List.forall_mem_append.mpr ⟨hb_d181_2, List.forall_mem_append.mpr ⟨hb_d181_3, List.forall_mem_append.mpr ⟨hb_d181_4, List.forall_mem_append.mpr ⟨hb_d181_5, List.forall_mem_append.mpr ⟨hb_d181_6, List.forall_mem_append.mpr ⟨hb_d181_7, List.forall_mem_append.mpr ⟨hb_d181_8, List.forall_mem_append.mpr ⟨hb_d181_9, List.forall_mem_append.mpr ⟨hb_d181_10, List.forall_mem_append.mpr ⟨hb_d181_11, hb_d181_12⟩⟩⟩⟩⟩⟩⟩⟩⟩⟩⟩⟩, px_bL_ok hb_l12⟩
theorem hb_d182_0 : ∀ q ∈ hb_c182_0, decode hb_h182.2.1 q.1 = .ok q.2 := by decide +kernel
set_option maxRecDepth 100000 in
theorem hb_w182 : lw_tbl[1605]? = some (Cond.code hb_h182.1 hb_h182.2.1 hb_h182.2.2.1 hb_h182.2.2.2.1) := by rfl
theorem hb_g182 : px_bM hb_h182 107 = true := by decide +kernel
theorem hb_o182 : px_okM px_Ts px_Ns hb_cl hb_SL hb_P hb_m182 := ⟨px_bM_ok hb_w182 hb_g182, hb_d182_0, px_bL_ok hb_l12⟩
theorem hb_d183_0 : ∀ q ∈ hb_c183_0, decode hb_h183.2.1 q.1 = .ok q.2 := by decide +kernel
set_option maxRecDepth 100000 in
theorem hb_w183 : lw_tbl[1691]? = some (Cond.code hb_h183.1 hb_h183.2.1 hb_h183.2.2.1 hb_h183.2.2.2.1) := by rfl
theorem hb_g183 : px_bM hb_h183 107 = true := by decide +kernel
theorem hb_o183 : px_okM px_Ts px_Ns hb_cl hb_SL hb_P hb_m183 := ⟨px_bM_ok hb_w183 hb_g183, hb_d183_0, px_bL_ok hb_l12⟩
theorem hb_d184_0 : ∀ q ∈ hb_c184_0, decode hb_h184.2.1 q.1 = .ok q.2 := by decide +kernel
set_option maxRecDepth 100000 in
theorem hb_w184 : lw_tbl[1635]? = some (Cond.code hb_h184.1 hb_h184.2.1 hb_h184.2.2.1 hb_h184.2.2.2.1) := by rfl
theorem hb_g184 : px_bM hb_h184 107 = true := by decide +kernel
theorem hb_o184 : px_okM px_Ts px_Ns hb_cl hb_SL hb_P hb_m184 := ⟨px_bM_ok hb_w184 hb_g184, hb_d184_0, px_bL_ok hb_l12⟩
theorem hb_d185_0 : ∀ q ∈ hb_c185_0, decode hb_h185.2.1 q.1 = .ok q.2 := by decide +kernel
set_option maxRecDepth 100000 in
theorem hb_w185 : lw_tbl[1624]? = some (Cond.code hb_h185.1 hb_h185.2.1 hb_h185.2.2.1 hb_h185.2.2.2.1) := by rfl
theorem hb_g185 : px_bM hb_h185 107 = true := by decide +kernel
theorem hb_o185 : px_okM px_Ts px_Ns hb_cl hb_SL hb_P hb_m185 := ⟨px_bM_ok hb_w185 hb_g185, hb_d185_0, px_bL_ok hb_l12⟩
theorem hb_d186_0 : ∀ q ∈ hb_c186_0, decode hb_h186.2.1 q.1 = .ok q.2 := by decide +kernel
set_option maxRecDepth 100000 in
theorem hb_w186 : lw_tbl[1609]? = some (Cond.code hb_h186.1 hb_h186.2.1 hb_h186.2.2.1 hb_h186.2.2.2.1) := by rfl
theorem hb_g186 : px_bM hb_h186 107 = true := by decide +kernel
theorem hb_o186 : px_okM px_Ts px_Ns hb_cl hb_SL hb_P hb_m186 := ⟨px_bM_ok hb_w186 hb_g186, hb_d186_0, px_bL_ok hb_l12⟩
theorem hb_d187_0 : ∀ q ∈ hb_c187_0, decode hb_h187.2.1 q.1 = .ok q.2 := by decide +kernel
theorem hb_d187_1 : ∀ q ∈ hb_c187_1, decode hb_h187.2.1 q.1 = .ok q.2 := by decide +kernel
set_option maxRecDepth 100000 in
theorem hb_w187 : lw_tbl[1617]? = some (Cond.code hb_h187.1 hb_h187.2.1 hb_h187.2.2.1 hb_h187.2.2.2.1) := by rfl
theorem hb_g187 : px_bM hb_h187 107 = true := by decide +kernel
theorem hb_o187 : px_okM px_Ts px_Ns hb_cl hb_SL hb_P hb_m187 := ⟨px_bM_ok hb_w187 hb_g187, List.forall_mem_append.mpr ⟨hb_d187_0, hb_d187_1⟩, px_bL_ok hb_l12⟩
theorem hb_d188_0 : ∀ q ∈ hb_c188_0, decode hb_h188.2.1 q.1 = .ok q.2 := by decide +kernel
set_option maxRecDepth 100000 in
theorem hb_w188 : lw_tbl[1621]? = some (Cond.code hb_h188.1 hb_h188.2.1 hb_h188.2.2.1 hb_h188.2.2.2.1) := by rfl
theorem hb_g188 : px_bM hb_h188 107 = true := by decide +kernel
theorem hb_o188 : px_okM px_Ts px_Ns hb_cl hb_SL hb_P hb_m188 := ⟨px_bM_ok hb_w188 hb_g188, hb_d188_0, px_bL_ok hb_l12⟩
theorem hb_d189_0 : ∀ q ∈ hb_c189_0, decode hb_h189.2.1 q.1 = .ok q.2 := by decide +kernel
set_option maxRecDepth 100000 in
theorem hb_w189 : lw_tbl[1628]? = some (Cond.code hb_h189.1 hb_h189.2.1 hb_h189.2.2.1 hb_h189.2.2.2.1) := by rfl
theorem hb_g189 : px_bM hb_h189 107 = true := by decide +kernel
theorem hb_o189 : px_okM px_Ts px_Ns hb_cl hb_SL hb_P hb_m189 := ⟨px_bM_ok hb_w189 hb_g189, hb_d189_0, px_bL_ok hb_l12⟩
theorem hb_d190_0 : ∀ q ∈ hb_c190_0, decode hb_h190.2.1 q.1 = .ok q.2 := by decide +kernel
theorem hb_d190_1 : ∀ q ∈ hb_c190_1, decode hb_h190.2.1 q.1 = .ok q.2 := by decide +kernel
theorem hb_d190_2 : ∀ q ∈ hb_c190_2, decode hb_h190.2.1 q.1 = .ok q.2 := by decide +kernel
theorem hb_d190_3 : ∀ q ∈ hb_c190_3, decode hb_h190.2.1 q.1 = .ok q.2 := by decide +kernel
theorem hb_d190_4 : ∀ q ∈ hb_c190_4, decode hb_h190.2.1 q.1 = .ok q.2 := by decide +kernel
set_option maxRecDepth 100000 in
theorem hb_w190 : lw_tbl[1613]? = some (Cond.code hb_h190.1 hb_h190.2.1 hb_h190.2.2.1 hb_h190.2.2.2.1) := by rfl
theorem hb_g190 : px_bM hb_h190 107 = true := by decide +kernel
theorem hb_o190 : px_okM px_Ts px_Ns hb_cl hb_SL hb_P hb_m190 := ⟨px_bM_ok hb_w190 hb_g190, List.forall_mem_append.mpr ⟨hb_d190_0, List.forall_mem_append.mpr ⟨hb_d190_1, List.forall_mem_append.mpr ⟨hb_d190_2, List.forall_mem_append.mpr ⟨hb_d190_3, hb_d190_4⟩⟩⟩⟩, px_bL_ok hb_l12⟩
theorem hb_d191_0 : ∀ q ∈ hb_c191_0, decode hb_h191.2.1 q.1 = .ok q.2 := by decide +kernel
theorem hb_d191_1 : ∀ q ∈ hb_c191_1, decode hb_h191.2.1 q.1 = .ok q.2 := by decide +kernel
set_option maxRecDepth 100000 in
theorem hb_w191 : lw_tbl[1602]? = some (Cond.code hb_h191.1 hb_h191.2.1 hb_h191.2.2.1 hb_h191.2.2.2.1) := by rfl
theorem hb_g191 : px_bM hb_h191 107 = true := by decide +kernel
theorem hb_o191 : px_okM px_Ts px_Ns hb_cl hb_SL hb_P hb_m191 := ⟨px_bM_ok hb_w191 hb_g191, List.forall_mem_append.mpr ⟨hb_d191_0, hb_d191_1⟩, px_bL_ok hb_l12⟩
theorem hb_d192_0 : ∀ q ∈ hb_c192_0, decode hb_h192.2.1 q.1 = .ok q.2 := by decide +kernel
theorem hb_d192_1 : ∀ q ∈ hb_c192_1, decode hb_h192.2.1 q.1 = .ok q.2 := by decide +kernel
set_option maxRecDepth 100000 in
theorem hb_w192 : lw_tbl[1632]? = some (Cond.code hb_h192.1 hb_h192.2.1 hb_h192.2.2.1 hb_h192.2.2.2.1) := by rfl
theorem hb_g192 : px_bM hb_h192 107 = true := by decide +kernel
theorem hb_o192 : px_okM px_Ts px_Ns hb_cl hb_SL hb_P hb_m192 := ⟨px_bM_ok hb_w192 hb_g192, List.forall_mem_append.mpr ⟨hb_d192_0, hb_d192_1⟩, px_bL_ok hb_l12⟩
theorem hb_d193_0 : ∀ q ∈ hb_c193_0, decode hb_h193.2.1 q.1 = .ok q.2 := by decide +kernel
set_option maxRecDepth 100000 in
theorem hb_w193 : lw_tbl[1642]? = some (Cond.code hb_h193.1 hb_h193.2.1 hb_h193.2.2.1 hb_h193.2.2.2.1) := by rfl
theorem hb_g193 : px_bM hb_h193 107 = true := by decide +kernel
theorem hb_o193 : px_okM px_Ts px_Ns hb_cl hb_SL hb_P hb_m193 := ⟨px_bM_ok hb_w193 hb_g193, hb_d193_0, px_bL_ok hb_l12⟩
theorem hb_d194_0 : ∀ q ∈ hb_c194_0, decode hb_h194.2.1 q.1 = .ok q.2 := by decide +kernel
set_option maxRecDepth 100000 in
theorem hb_w194 : lw_tbl[1639]? = some (Cond.code hb_h194.1 hb_h194.2.1 hb_h194.2.2.1 hb_h194.2.2.2.1) := by rfl
theorem hb_g194 : px_bM hb_h194 107 = true := by decide +kernel
theorem hb_o194 : px_okM px_Ts px_Ns hb_cl hb_SL hb_P hb_m194 := ⟨px_bM_ok hb_w194 hb_g194, hb_d194_0, px_bL_ok hb_l12⟩
theorem hb_d195_0 : ∀ q ∈ hb_c195_0, decode hb_h195.2.1 q.1 = .ok q.2 := by decide +kernel
set_option maxRecDepth 100000 in
theorem hb_w195 : lw_tbl[1646]? = some (Cond.code hb_h195.1 hb_h195.2.1 hb_h195.2.2.1 hb_h195.2.2.2.1) := by rfl
theorem hb_g195 : px_bM hb_h195 107 = true := by decide +kernel
theorem hb_o195 : px_okM px_Ts px_Ns hb_cl hb_SL hb_P hb_m195 := ⟨px_bM_ok hb_w195 hb_g195, hb_d195_0, px_bL_ok hb_l12⟩
theorem hb_d196_0 : ∀ q ∈ hb_c196_0, decode hb_h196.2.1 q.1 = .ok q.2 := by decide +kernel
set_option maxRecDepth 100000 in
theorem hb_w196 : lw_tbl[1650]? = some (Cond.code hb_h196.1 hb_h196.2.1 hb_h196.2.2.1 hb_h196.2.2.2.1) := by rfl
theorem hb_g196 : px_bM hb_h196 107 = true := by decide +kernel
theorem hb_o196 : px_okM px_Ts px_Ns hb_cl hb_SL hb_P hb_m196 := ⟨px_bM_ok hb_w196 hb_g196, hb_d196_0, px_bL_ok hb_l12⟩
theorem hb_d197_0 : ∀ q ∈ hb_c197_0, decode hb_h197.2.1 q.1 = .ok q.2 := by decide +kernel
set_option maxRecDepth 100000 in
theorem hb_w197 : lw_tbl[1654]? = some (Cond.code hb_h197.1 hb_h197.2.1 hb_h197.2.2.1 hb_h197.2.2.2.1) := by rfl
theorem hb_g197 : px_bM hb_h197 107 = true := by decide +kernel
theorem hb_o197 : px_okM px_Ts px_Ns hb_cl hb_SL hb_P hb_m197 := ⟨px_bM_ok hb_w197 hb_g197, hb_d197_0, px_bL_ok hb_l12⟩
theorem hb_d198_0 : ∀ q ∈ hb_c198_0, decode hb_h198.2.1 q.1 = .ok q.2 := by decide +kernel
theorem hb_d198_1 : ∀ q ∈ hb_c198_1, decode hb_h198.2.1 q.1 = .ok q.2 := by decide +kernel
set_option maxRecDepth 100000 in
theorem hb_w198 : lw_tbl[1658]? = some (Cond.code hb_h198.1 hb_h198.2.1 hb_h198.2.2.1 hb_h198.2.2.2.1) := by rfl
theorem hb_g198 : px_bM hb_h198 107 = true := by decide +kernel
theorem hb_o198 : px_okM px_Ts px_Ns hb_cl hb_SL hb_P hb_m198 := ⟨px_bM_ok hb_w198 hb_g198, List.forall_mem_append.mpr ⟨hb_d198_0, hb_d198_1⟩, px_bL_ok hb_l12⟩
theorem hb_d199_0 : ∀ q ∈ hb_c199_0, decode hb_h199.2.1 q.1 = .ok q.2 := by decide +kernel
theorem hb_d199_1 : ∀ q ∈ hb_c199_1, decode hb_h199.2.1 q.1 = .ok q.2 := by decide +kernel
set_option maxRecDepth 100000 in
theorem hb_w199 : lw_tbl[1662]? = some (Cond.code hb_h199.1 hb_h199.2.1 hb_h199.2.2.1 hb_h199.2.2.2.1) := by rfl
theorem hb_g199 : px_bM hb_h199 107 = true := by decide +kernel
theorem hb_o199 : px_okM px_Ts px_Ns hb_cl hb_SL hb_P hb_m199 := ⟨px_bM_ok hb_w199 hb_g199, List.forall_mem_append.mpr ⟨hb_d199_0, hb_d199_1⟩, px_bL_ok hb_l12⟩
end
section
theorem hb_d200_0 : ∀ q ∈ hb_c200_0, decode hb_h200.2.1 q.1 = .ok q.2 := by decide +kernel
set_option maxRecDepth 100000 in
theorem hb_w200 : lw_tbl[1673]? = some (Cond.code hb_h200.1 hb_h200.2.1 hb_h200.2.2.1 hb_h200.2.2.2.1) := by rfl
theorem hb_g200 : px_bM hb_h200 107 = true := by decide +kernel
theorem hb_o200 : px_okM px_Ts px_Ns hb_cl hb_SL hb_P hb_m200 := ⟨px_bM_ok hb_w200 hb_g200, hb_d200_0, px_bL_ok hb_l12⟩
theorem hb_d201_0 : ∀ q ∈ hb_c201_0, decode hb_h201.2.1 q.1 = .ok q.2 := by decide +kernel
theorem hb_d201_1 : ∀ q ∈ hb_c201_1, decode hb_h201.2.1 q.1 = .ok q.2 := by decide +kernel
set_option maxRecDepth 100000 in
theorem hb_w201 : lw_tbl[1681]? = some (Cond.code hb_h201.1 hb_h201.2.1 hb_h201.2.2.1 hb_h201.2.2.2.1) := by rfl
theorem hb_g201 : px_bM hb_h201 107 = true := by decide +kernel
theorem hb_o201 : px_okM px_Ts px_Ns hb_cl hb_SL hb_P hb_m201 := ⟨px_bM_ok hb_w201 hb_g201, List.forall_mem_append.mpr ⟨hb_d201_0, hb_d201_1⟩, px_bL_ok hb_l12⟩
theorem hb_d202_0 : ∀ q ∈ hb_c202_0, decode hb_h202.2.1 q.1 = .ok q.2 := by decide +kernel
theorem hb_d202_1 : ∀ q ∈ hb_c202_1, decode hb_h202.2.1 q.1 = .ok q.2 := by decide +kernel
set_option maxRecDepth 100000 in
theorem hb_w202 : lw_tbl[1677]? = some (Cond.code hb_h202.1 hb_h202.2.1 hb_h202.2.2.1 hb_h202.2.2.2.1) := by rfl
theorem hb_g202 : px_bM hb_h202 107 = true := by decide +kernel
theorem hb_o202 : px_okM px_Ts px_Ns hb_cl hb_SL hb_P hb_m202 := ⟨px_bM_ok hb_w202 hb_g202, List.forall_mem_append.mpr ⟨hb_d202_0, hb_d202_1⟩, px_bL_ok hb_l12⟩
theorem hb_d203_0 : ∀ q ∈ hb_c203_0, decode hb_h203.2.1 q.1 = .ok q.2 := by decide +kernel
set_option maxRecDepth 100000 in
theorem hb_w203 : lw_tbl[1670]? = some (Cond.code hb_h203.1 hb_h203.2.1 hb_h203.2.2.1 hb_h203.2.2.2.1) := by rfl
theorem hb_g203 : px_bM hb_h203 107 = true := by decide +kernel
theorem hb_o203 : px_okM px_Ts px_Ns hb_cl hb_SL hb_P hb_m203 := ⟨px_bM_ok hb_w203 hb_g203, hb_d203_0, px_bL_ok hb_l12⟩
theorem hb_d204_0 : ∀ q ∈ hb_c204_0, decode hb_h204.2.1 q.1 = .ok q.2 := by decide +kernel
set_option maxRecDepth 100000 in
theorem hb_w204 : lw_tbl[1666]? = some (Cond.code hb_h204.1 hb_h204.2.1 hb_h204.2.2.1 hb_h204.2.2.2.1) := by rfl
theorem hb_g204 : px_bM hb_h204 107 = true := by decide +kernel
theorem hb_o204 : px_okM px_Ts px_Ns hb_cl hb_SL hb_P hb_m204 := ⟨px_bM_ok hb_w204 hb_g204, hb_d204_0, px_bL_ok hb_l12⟩
theorem hb_d205_0 : ∀ q ∈ hb_c205_0, decode hb_h205.2.1 q.1 = .ok q.2 := by decide +kernel
set_option maxRecDepth 100000 in
theorem hb_w205 : lw_tbl[1688]? = some (Cond.code hb_h205.1 hb_h205.2.1 hb_h205.2.2.1 hb_h205.2.2.2.1) := by rfl
theorem hb_g205 : px_bM hb_h205 107 = true := by decide +kernel
theorem hb_o205 : px_okM px_Ts px_Ns hb_cl hb_SL hb_P hb_m205 := ⟨px_bM_ok hb_w205 hb_g205, hb_d205_0, px_bL_ok hb_l12⟩
theorem hb_d206_0 : ∀ q ∈ hb_c206_0, decode hb_h206.2.1 q.1 = .ok q.2 := by decide +kernel
theorem hb_d206_1 : ∀ q ∈ hb_c206_1, decode hb_h206.2.1 q.1 = .ok q.2 := by decide +kernel
set_option maxRecDepth 100000 in
theorem hb_w206 : lw_tbl[1685]? = some (Cond.code hb_h206.1 hb_h206.2.1 hb_h206.2.2.1 hb_h206.2.2.2.1) := by rfl
theorem hb_g206 : px_bM hb_h206 107 = true := by decide +kernel
theorem hb_o206 : px_okM px_Ts px_Ns hb_cl hb_SL hb_P hb_m206 := ⟨px_bM_ok hb_w206 hb_g206, List.forall_mem_append.mpr ⟨hb_d206_0, hb_d206_1⟩, px_bL_ok hb_l12⟩
theorem hb_d207_0 : ∀ q ∈ hb_c207_0, decode hb_h207.2.1 q.1 = .ok q.2 := by decide +kernel
theorem hb_d207_1 : ∀ q ∈ hb_c207_1, decode hb_h207.2.1 q.1 = .ok q.2 := by decide +kernel
set_option maxRecDepth 100000 in
theorem hb_w207 : lw_tbl[1695]? = some (Cond.code hb_h207.1 hb_h207.2.1 hb_h207.2.2.1 hb_h207.2.2.2.1) := by rfl
theorem hb_g207 : px_bM hb_h207 107 = true := by decide +kernel
theorem hb_o207 : px_okM px_Ts px_Ns hb_cl hb_SL hb_P hb_m207 := ⟨px_bM_ok hb_w207 hb_g207, List.forall_mem_append.mpr ⟨hb_d207_0, hb_d207_1⟩, px_bL_ok hb_l12⟩
theorem hb_d208_0 : ∀ q ∈ hb_c208_0, decode hb_h208.2.1 q.1 = .ok q.2 := by decide +kernel
set_option maxRecDepth 100000 in
theorem hb_w208 : lw_tbl[1703]? = some (Cond.code hb_h208.1 hb_h208.2.1 hb_h208.2.2.1 hb_h208.2.2.2.1) := by rfl
theorem hb_g208 : px_bM hb_h208 107 = true := by decide +kernel
theorem hb_o208 : px_okM px_Ts px_Ns hb_cl hb_SL hb_P hb_m208 := ⟨px_bM_ok hb_w208 hb_g208, hb_d208_0, px_bL_ok hb_l12⟩
theorem hb_d209_0 : ∀ q ∈ hb_c209_0, decode hb_h209.2.1 q.1 = .ok q.2 := by decide +kernel
theorem hb_d209_1 : ∀ q ∈ hb_c209_1, decode hb_h209.2.1 q.1 = .ok q.2 := by decide +kernel
theorem hb_d209_2 : ∀ q ∈ hb_c209_2, decode hb_h209.2.1 q.1 = .ok q.2 := by decide +kernel
set_option maxRecDepth 100000 in
theorem hb_w209 : lw_tbl[1707]? = some (Cond.code hb_h209.1 hb_h209.2.1 hb_h209.2.2.1 hb_h209.2.2.2.1) := by rfl
theorem hb_g209 : px_bM hb_h209 107 = true := by decide +kernel
theorem hb_o209 : px_okM px_Ts px_Ns hb_cl hb_SL hb_P hb_m209 := ⟨px_bM_ok hb_w209 hb_g209, List.forall_mem_append.mpr ⟨hb_d209_0, List.forall_mem_append.mpr ⟨hb_d209_1, hb_d209_2⟩⟩, px_bL_ok hb_l12⟩
theorem hb_d210_0 : ∀ q ∈ hb_c210_0, decode hb_h210.2.1 q.1 = .ok q.2 := by decide +kernel
set_option maxRecDepth 100000 in
theorem hb_w210 : lw_tbl[1712]? = some (Cond.code hb_h210.1 hb_h210.2.1 hb_h210.2.2.1 hb_h210.2.2.2.1) := by rfl
theorem hb_g210 : px_bM hb_h210 107 = true := by decide +kernel
theorem hb_o210 : px_okM px_Ts px_Ns hb_cl hb_SL hb_P hb_m210 := ⟨px_bM_ok hb_w210 hb_g210, hb_d210_0, px_bL_ok hb_l12⟩
theorem hb_d211_0 : ∀ q ∈ hb_c211_0, decode hb_h211.2.1 q.1 = .ok q.2 := by decide +kernel
set_option maxRecDepth 100000 in
theorem hb_w211 : lw_tbl[1699]? = some (Cond.code hb_h211.1 hb_h211.2.1 hb_h211.2.2.1 hb_h211.2.2.2.1) := by rfl
theorem hb_g211 : px_bM hb_h211 107 = true := by decide +kernel
theorem hb_o211 : px_okM px_Ts px_Ns hb_cl hb_SL hb_P hb_m211 := ⟨px_bM_ok hb_w211 hb_g211, hb_d211_0, px_bL_ok hb_l12⟩
theorem hb_d212_0 : ∀ q ∈ hb_c212_0, decode hb_h212.2.1 q.1 = .ok q.2 := by decide +kernel
theorem hb_d212_1 : ∀ q ∈ hb_c212_1, decode hb_h212.2.1 q.1 = .ok q.2 := by decide +kernel
set_option maxRecDepth 100000 in
theorem hb_w212 : lw_tbl[1716]? = some (Cond.code hb_h212.1 hb_h212.2.1 hb_h212.2.2.1 hb_h212.2.2.2.1) := by rfl
theorem hb_g212 : px_bM hb_h212 107 = true := by decide +kernel
theorem hb_o212 : px_okM px_Ts px_Ns hb_cl hb_SL hb_P hb_m212 := ⟨px_bM_ok hb_w212 hb_g212, List.forall_mem_append.mpr ⟨hb_d212_0, hb_d212_1⟩, px_bL_ok hb_l12⟩
theorem hb_d213_0 : ∀ q ∈ hb_c213_0, decode hb_h213.2.1 q.1 = .ok q.2 := by decide +kernel
set_option maxRecDepth 100000 in
theorem hb_w213 : lw_tbl[1764]? = some (Cond.code hb_h213.1 hb_h213.2.1 hb_h213.2.2.1 hb_h213.2.2.2.1) := by rfl
theorem hb_g213 : px_bM hb_h213 107 = true := by decide +kernel
theorem hb_o213 : px_okM px_Ts px_Ns hb_cl hb_SL hb_P hb_m213 := ⟨px_bM_ok hb_w213 hb_g213, hb_d213_0, px_bL_ok hb_l12⟩
theorem hb_d214_0 : ∀ q ∈ hb_c214_0, decode hb_h214.2.1 q.1 = .ok q.2 := by decide +kernel
set_option maxRecDepth 100000 in
theorem hb_w214 : lw_tbl[1724]? = some (Cond.code hb_h214.1 hb_h214.2.1 hb_h214.2.2.1 hb_h214.2.2.2.1) := by rfl
theorem hb_g214 : px_bM hb_h214 107 = true := by decide +kernel
theorem hb_o214 : px_okM px_Ts px_Ns hb_cl hb_SL hb_P hb_m214 := ⟨px_bM_ok hb_w214 hb_g214, hb_d214_0, px_bL_ok hb_l12⟩
theorem hb_d215_0 : ∀ q ∈ hb_c215_0, decode hb_h215.2.1 q.1 = .ok q.2 := by decide +kernel
theorem hb_d215_1 : ∀ q ∈ hb_c215_1, decode hb_h215.2.1 q.1 = .ok q.2 := by decide +kernel
theorem hb_d215_2 : ∀ q ∈ hb_c215_2, decode hb_h215.2.1 q.1 = .ok q.2 := by decide +kernel
theorem hb_d215_3 : ∀ q ∈ hb_c215_3, decode hb_h215.2.1 q.1 = .ok q.2 := by decide +kernel
set_option maxRecDepth 100000 in
theorem hb_w215 : lw_tbl[1728]? = some (Cond.code hb_h215.1 hb_h215.2.1 hb_h215.2.2.1 hb_h215.2.2.2.1) := by rfl
theorem hb_g215 : px_bM hb_h215 107 = true := by decide +kernel
theorem hb_o215 : px_okM px_Ts px_Ns hb_cl hb_SL hb_P hb_m215 := ⟨px_bM_ok hb_w215 hb_g215, List.forall_mem_append.mpr ⟨hb_d215_0, List.forall_mem_append.mpr ⟨hb_d215_1, List.forall_mem_append.mpr ⟨hb_d215_2, hb_d215_3⟩⟩⟩, px_bL_ok hb_l12⟩
theorem hb_d216_0 : ∀ q ∈ hb_c216_0, decode hb_h216.2.1 q.1 = .ok q.2 := by decide +kernel
set_option maxRecDepth 100000 in
theorem hb_w216 : lw_tbl[1720]? = some (Cond.code hb_h216.1 hb_h216.2.1 hb_h216.2.2.1 hb_h216.2.2.2.1) := by rfl
theorem hb_g216 : px_bM hb_h216 107 = true := by decide +kernel
theorem hb_o216 : px_okM px_Ts px_Ns hb_cl hb_SL hb_P hb_m216 := ⟨px_bM_ok hb_w216 hb_g216, hb_d216_0, px_bL_ok hb_l12⟩
theorem hb_d217_0 : ∀ q ∈ hb_c217_0, decode hb_h217.2.1 q.1 = .ok q.2 := by decide +kernel
theorem hb_d217_1 : ∀ q ∈ hb_c217_1, decode hb_h217.2.1 q.1 = .ok q.2 := by decide +kernel
theorem hb_d217_2 : ∀ q ∈ hb_c217_2, decode hb_h217.2.1 q.1 = .ok q.2 := by decide +kernel
set_option maxRecDepth 100000 in
theorem hb_w217 : lw_tbl[1736]? = some (Cond.code hb_h217.1 hb_h217.2.1 hb_h217.2.2.1 hb_h217.2.2.2.1) := by rfl
theorem hb_g217 : px_bM hb_h217 107 = true := by decide +kernel
theorem hb_o217 : px_okM px_Ts px_Ns hb_cl hb_SL hb_P hb_m217 := ⟨px_bM_ok hb_w217 hb_g217, List.forall_mem_append.mpr ⟨hb_d217_0, List.forall_mem_append.mpr ⟨hb_d217_1, hb_d217_2⟩⟩, px_bL_ok hb_l12⟩
theorem hb_d218_0 : ∀ q ∈ hb_c218_0, decode hb_h218.2.1 q.1 = .ok q.2 := by decide +kernel
set_option maxRecDepth 100000 in
theorem hb_w218 : lw_tbl[1732]? = some (Cond.code hb_h218.1 hb_h218.2.1 hb_h218.2.2.1 hb_h218.2.2.2.1) := by rfl
theorem hb_g218 : px_bM hb_h218 107 = true := by decide +kernel
theorem hb_o218 : px_okM px_Ts px_Ns hb_cl hb_SL hb_P hb_m218 := ⟨px_bM_ok hb_w218 hb_g218, hb_d218_0, px_bL_ok hb_l12⟩
theorem hb_d219_0 : ∀ q ∈ hb_c219_0, decode hb_h219.2.1 q.1 = .ok q.2 := by decide +kernel
theorem hb_d219_1 : ∀ q ∈ hb_c219_1, decode hb_h219.2.1 q.1 = .ok q.2 := by decide +kernel
theorem hb_d219_2 : ∀ q ∈ hb_c219_2, decode hb_h219.2.1 q.1 = .ok q.2 := by decide +kernel
set_option maxRecDepth 100000 in
theorem hb_w219 : lw_tbl[1744]? = some (Cond.code hb_h219.1 hb_h219.2.1 hb_h219.2.2.1 hb_h219.2.2.2.1) := by rfl
theorem hb_g219 : px_bM hb_h219 107 = true := by decide +kernel
theorem hb_o219 : px_okM px_Ts px_Ns hb_cl hb_SL hb_P hb_m219 := ⟨px_bM_ok hb_w219 hb_g219, List.forall_mem_append.mpr ⟨hb_d219_0, List.forall_mem_append.mpr ⟨hb_d219_1, hb_d219_2⟩⟩, px_bL_ok hb_l12⟩
end
section
theorem hb_d220_0 : ∀ q ∈ hb_c220_0, decode hb_h220.2.1 q.1 = .ok q.2 := by decide +kernel
theorem hb_d220_1 : ∀ q ∈ hb_c220_1, decode hb_h220.2.1 q.1 = .ok q.2 := by decide +kernel
theorem hb_d220_2 : ∀ q ∈ hb_c220_2, decode hb_h220.2.1 q.1 = .ok q.2 := by decide +kernel
set_option maxRecDepth 100000 in
theorem hb_w220 : lw_tbl[1740]? = some (Cond.code hb_h220.1 hb_h220.2.1 hb_h220.2.2.1 hb_h220.2.2.2.1) := by rfl
theorem hb_g220 : px_bM hb_h220 107 = true := by decide +kernel
theorem hb_o220 : px_okM px_Ts px_Ns hb_cl hb_SL hb_P hb_m220 := ⟨px_bM_ok hb_w220 hb_g220, List.forall_mem_append.mpr ⟨hb_d220_0, List.forall_mem_append.mpr ⟨hb_d220_1, hb_d220_2⟩⟩, px_bL_ok hb_l12⟩
theorem hb_d221_0 : ∀ q ∈ hb_c221_0, decode hb_h221.2.1 q.1 = .ok q.2 := by decide +kernel
set_option maxRecDepth 100000 in
theorem hb_w221 : lw_tbl[1752]? = some (Cond.code hb_h221.1 hb_h221.2.1 hb_h221.2.2.1 hb_h221.2.2.2.1) := by rfl
theorem hb_g221 : px_bM hb_h221 107 = true := by decide +kernel
theorem hb_o221 : px_okM px_Ts px_Ns hb_cl hb_SL hb_P hb_m221 := ⟨px_bM_ok hb_w221 hb_g221, hb_d221_0, px_bL_ok hb_l12⟩
theorem hb_d222_0 : ∀ q ∈ hb_c222_0, decode hb_h222.2.1 q.1 = .ok q.2 := by decide +kernel
set_option maxRecDepth 100000 in
theorem hb_w222 : lw_tbl[1748]? = some (Cond.code hb_h222.1 hb_h222.2.1 hb_h222.2.2.1 hb_h222.2.2.2.1) := by rfl
theorem hb_g222 : px_bM hb_h222 107 = true := by decide +kernel
theorem hb_o222 : px_okM px_Ts px_Ns hb_cl hb_SL hb_P hb_m222 := ⟨px_bM_ok hb_w222 hb_g222, hb_d222_0, px_bL_ok hb_l12⟩
theorem hb_d223_0 : ∀ q ∈ hb_c223_0, decode hb_h223.2.1 q.1 = .ok q.2 := by decide +kernel
set_option maxRecDepth 100000 in
theorem hb_w223 : lw_tbl[1756]? = some (Cond.code hb_h223.1 hb_h223.2.1 hb_h223.2.2.1 hb_h223.2.2.2.1) := by rfl
theorem hb_g223 : px_bM hb_h223 107 = true := by decide +kernel
theorem hb_o223 : px_okM px_Ts px_Ns hb_cl hb_SL hb_P hb_m223 := ⟨px_bM_ok hb_w223 hb_g223, hb_d223_0, px_bL_ok hb_l12⟩
theorem hb_d224_0 : ∀ q ∈ hb_c224_0, decode hb_h224.2.1 q.1 = .ok q.2 := by decide +kernel
theorem hb_d224_1 : ∀ q ∈ hb_c224_1, decode hb_h224.2.1 q.1 = .ok q.2 := by decide +kernel
theorem hb_d224_2 : ∀ q ∈ hb_c224_2, decode hb_h224.2.1 q.1 = .ok q.2 := by decide +kernel
theorem hb_d224_3 : ∀ q ∈ hb_c224_3, decode hb_h224.2.1 q.1 = .ok q.2 := by decide +kernel
set_option maxRecDepth 100000 in
theorem hb_w224 : lw_tbl[1760]? = some (Cond.code hb_h224.1 hb_h224.2.1 hb_h224.2.2.1 hb_h224.2.2.2.1) := by rfl
theorem hb_g224 : px_bM hb_h224 107 = true := by decide +kernel
theorem hb_o224 : px_okM px_Ts px_Ns hb_cl hb_SL hb_P hb_m224 := ⟨px_bM_ok hb_w224 hb_g224, List.forall_mem_append.mpr ⟨hb_d224_0, List.forall_mem_append.mpr ⟨hb_d224_1, List.forall_mem_append.mpr ⟨hb_d224_2, hb_d224_3⟩⟩⟩, px_bL_ok hb_l12⟩
theorem hb_d225_0 : ∀ q ∈ hb_c225_0, decode hb_h225.2.1 q.1 = .ok q.2 := by decide +kernel
theorem hb_d225_1 : ∀ q ∈ hb_c225_1, decode hb_h225.2.1 q.1 = .ok q.2 := by decide +kernel
set_option maxRecDepth 100000 in
theorem hb_w225 : lw_tbl[1772]? = some (Cond.code hb_h225.1 hb_h225.2.1 hb_h225.2.2.1 hb_h225.2.2.2.1) := by rfl
theorem hb_g225 : px_bM hb_h225 107 = true := by decide +kernel
theorem hb_o225 : px_okM px_Ts px_Ns hb_cl hb_SL hb_P hb_m225 := ⟨px_bM_ok hb_w225 hb_g225, List.forall_mem_append.mpr ⟨hb_d225_0, hb_d225_1⟩, px_bL_ok hb_l12⟩
theorem hb_d226_0 : ∀ q ∈ hb_c226_0, decode hb_h226.2.1 q.1 = .ok q.2 := by decide +kernel
theorem hb_d226_1 : ∀ q ∈ hb_c226_1, decode hb_h226.2.1 q.1 = .ok q.2 := by decide +kernel
theorem hb_d226_2 : ∀ q ∈ hb_c226_2, decode hb_h226.2.1 q.1 = .ok q.2 := by decide +kernel
theorem hb_d226_3 : ∀ q ∈ hb_c226_3, decode hb_h226.2.1 q.1 = .ok q.2 := by decide +kernel
set_option maxRecDepth 100000 in
theorem hb_w226 : lw_tbl[1768]? = some (Cond.code hb_h226.1 hb_h226.2.1 hb_h226.2.2.1 hb_h226.2.2.2.1) := by rfl
theorem hb_g226 : px_bM hb_h226 107 = true := by decide +kernel
theorem hb_o226 : px_okM px_Ts px_Ns hb_cl hb_SL hb_P hb_m226 := ⟨px_bM_ok hb_w226 hb_g226, List.forall_mem_append.mpr ⟨hb_d226_0, List.forall_mem_append.mpr ⟨hb_d226_1, List.forall_mem_append.mpr ⟨hb_d226_2, hb_d226_3⟩⟩⟩, px_bL_ok hb_l12⟩
theorem hb_d227_0 : ∀ q ∈ hb_c227_0, decode hb_h227.2.1 q.1 = .ok q.2 := by decide +kernel
theorem hb_d227_1 : ∀ q ∈ hb_c227_1, decode hb_h227.2.1 q.1 = .ok q.2 := by decide +kernel
theorem hb_d227_2 : ∀ q ∈ hb_c227_2, decode hb_h227.2.1 q.1 = .ok q.2 := by decide +kernel
set_option maxRecDepth 100000 in
theorem hb_w227 : lw_tbl[1776]? = some (Cond.code hb_h227.1 hb_h227.2.1 hb_h227.2.2.1 hb_h227.2.2.2.1) := by rfl
theorem hb_g227 : px_bM hb_h227 107 = true := by decide +kernel
theorem hb_o227 : px_okM px_Ts px_Ns hb_cl hb_SL hb_P hb_m227 := ⟨px_bM_ok hb_w227 hb_g227, List.forall_mem_append.mpr ⟨hb_d227_0, List.forall_mem_append.mpr ⟨hb_d227_1, hb_d227_2⟩⟩, px_bL_ok hb_l12⟩
theorem hb_d228_0 : ∀ q ∈ hb_c228_0, decode hb_h228.2.1 q.1 = .ok q.2 := by decide +kernel
set_option maxRecDepth 100000 in
theorem hb_w228 : lw_tbl[1805]? = some (Cond.code hb_h228.1 hb_h228.2.1 hb_h228.2.2.1 hb_h228.2.2.2.1) := by rfl
theorem hb_g228 : px_bM hb_h228 107 = true := by decide +kernel
theorem hb_o228 : px_okM px_Ts px_Ns hb_cl hb_SL hb_P hb_m228 := ⟨px_bM_ok hb_w228 hb_g228, hb_d228_0, px_bL_ok hb_l12⟩
theorem hb_d229_0 : ∀ q ∈ hb_c229_0, decode hb_h229.2.1 q.1 = .ok q.2 := by decide +kernel
set_option maxRecDepth 100000 in
theorem hb_w229 : lw_tbl[1797]? = some (Cond.code hb_h229.1 hb_h229.2.1 hb_h229.2.2.1 hb_h229.2.2.2.1) := by rfl
theorem hb_g229 : px_bM hb_h229 107 = true := by decide +kernel
theorem hb_o229 : px_okM px_Ts px_Ns hb_cl hb_SL hb_P hb_m229 := ⟨px_bM_ok hb_w229 hb_g229, hb_d229_0, px_bL_ok hb_l12⟩
theorem hb_d230_0 : ∀ q ∈ hb_c230_0, decode hb_h230.2.1 q.1 = .ok q.2 := by decide +kernel
set_option maxRecDepth 100000 in
theorem hb_w230 : lw_tbl[1781]? = some (Cond.code hb_h230.1 hb_h230.2.1 hb_h230.2.2.1 hb_h230.2.2.2.1) := by rfl
theorem hb_g230 : px_bM hb_h230 107 = true := by decide +kernel
theorem hb_o230 : px_okM px_Ts px_Ns hb_cl hb_SL hb_P hb_m230 := ⟨px_bM_ok hb_w230 hb_g230, hb_d230_0, px_bL_ok hb_l12⟩
theorem hb_d231_0 : ∀ q ∈ hb_c231_0, decode hb_h231.2.1 q.1 = .ok q.2 := by decide +kernel
set_option maxRecDepth 100000 in
theorem hb_w231 : lw_tbl[1785]? = some (Cond.code hb_h231.1 hb_h231.2.1 hb_h231.2.2.1 hb_h231.2.2.2.1) := by rfl
theorem hb_g231 : px_bM hb_h231 107 = true := by decide +kernel
theorem hb_o231 : px_okM px_Ts px_Ns hb_cl hb_SL hb_P hb_m231 := ⟨px_bM_ok hb_w231 hb_g231, hb_d231_0, px_bL_ok hb_l12⟩
theorem hb_d232_0 : ∀ q ∈ hb_c232_0, decode hb_h232.2.1 q.1 = .ok q.2 := by decide +kernel
set_option maxRecDepth 100000 in
theorem hb_w232 : lw_tbl[1793]? = some (Cond.code hb_h232.1 hb_h232.2.1 hb_h232.2.2.1 hb_h232.2.2.2.1) := by rfl
theorem hb_g232 : px_bM hb_h232 107 = true := by decide +kernel
theorem hb_o232 : px_okM px_Ts px_Ns hb_cl hb_SL hb_P hb_m232 := ⟨px_bM_ok hb_w232 hb_g232, hb_d232_0, px_bL_ok hb_l12⟩
theorem hb_d233_0 : ∀ q ∈ hb_c233_0, decode hb_h233.2.1 q.1 = .ok q.2 := by decide +kernel
theorem hb_d233_1 : ∀ q ∈ hb_c233_1, decode hb_h233.2.1 q.1 = .ok q.2 := by decide +kernel
set_option maxRecDepth 100000 in
theorem hb_w233 : lw_tbl[1789]? = some (Cond.code hb_h233.1 hb_h233.2.1 hb_h233.2.2.1 hb_h233.2.2.2.1) := by rfl
theorem hb_g233 : px_bM hb_h233 107 = true := by decide +kernel
theorem hb_o233 : px_okM px_Ts px_Ns hb_cl hb_SL hb_P hb_m233 := ⟨px_bM_ok hb_w233 hb_g233, List.forall_mem_append.mpr ⟨hb_d233_0, hb_d233_1⟩, px_bL_ok hb_l12⟩
theorem hb_d234_0 : ∀ q ∈ hb_c234_0, decode hb_h234.2.1 q.1 = .ok q.2 := by decide +kernel
set_option maxRecDepth 100000 in
theorem hb_w234 : lw_tbl[1809]? = some (Cond.code hb_h234.1 hb_h234.2.1 hb_h234.2.2.1 hb_h234.2.2.2.1) := by rfl
theorem hb_g234 : px_bM hb_h234 107 = true := by decide +kernel
theorem hb_o234 : px_okM px_Ts px_Ns hb_cl hb_SL hb_P hb_m234 := ⟨px_bM_ok hb_w234 hb_g234, hb_d234_0, px_bL_ok hb_l12⟩
theorem hb_d235_0 : ∀ q ∈ hb_c235_0, decode hb_h235.2.1 q.1 = .ok q.2 := by decide +kernel
theorem hb_d235_1 : ∀ q ∈ hb_c235_1, decode hb_h235.2.1 q.1 = .ok q.2 := by decide +kernel
set_option maxRecDepth 100000 in
theorem hb_w235 : lw_tbl[1801]? = some (Cond.code hb_h235.1 hb_h235.2.1 hb_h235.2.2.1 hb_h235.2.2.2.1) := by rfl
theorem hb_g235 : px_bM hb_h235 107 = true := by decide +kernel
theorem hb_o235 : px_okM px_Ts px_Ns hb_cl hb_SL hb_P hb_m235 := ⟨px_bM_ok hb_w235 hb_g235, List.forall_mem_append.mpr ⟨hb_d235_0, hb_d235_1⟩, px_bL_ok hb_l12⟩
theorem hb_d236_0 : ∀ q ∈ hb_c236_0, decode hb_h236.2.1 q.1 = .ok q.2 := by decide +kernel
theorem hb_d236_1 : ∀ q ∈ hb_c236_1, decode hb_h236.2.1 q.1 = .ok q.2 := by decide +kernel
set_option maxRecDepth 100000 in
theorem hb_w236 : lw_tbl[1813]? = some (Cond.code hb_h236.1 hb_h236.2.1 hb_h236.2.2.1 hb_h236.2.2.2.1) := by rfl
theorem hb_g236 : px_bM hb_h236 107 = true := by decide +kernel
theorem hb_o236 : px_okM px_Ts px_Ns hb_cl hb_SL hb_P hb_m236 := ⟨px_bM_ok hb_w236 hb_g236, List.forall_mem_append.mpr ⟨hb_d236_0, hb_d236_1⟩, px_bL_ok hb_l12⟩
theorem hb_d237_0 : ∀ q ∈ hb_c237_0, decode hb_h237.2.1 q.1 = .ok q.2 := by decide +kernel
set_option maxRecDepth 100000 in
theorem hb_w237 : lw_tbl[1821]? = some (Cond.code hb_h237.1 hb_h237.2.1 hb_h237.2.2.1 hb_h237.2.2.2.1) := by rfl
theorem hb_g237 : px_bM hb_h237 107 = true := by decide +kernel
theorem hb_o237 : px_okM px_Ts px_Ns hb_cl hb_SL hb_P hb_m237 := ⟨px_bM_ok hb_w237 hb_g237, hb_d237_0, px_bL_ok hb_l12⟩
theorem hb_d238_0 : ∀ q ∈ hb_c238_0, decode hb_h238.2.1 q.1 = .ok q.2 := by decide +kernel
theorem hb_d238_1 : ∀ q ∈ hb_c238_1, decode hb_h238.2.1 q.1 = .ok q.2 := by decide +kernel
theorem hb_d238_2 : ∀ q ∈ hb_c238_2, decode hb_h238.2.1 q.1 = .ok q.2 := by decide +kernel
set_option maxRecDepth 100000 in
theorem hb_w238 : lw_tbl[1825]? = some (Cond.code hb_h238.1 hb_h238.2.1 hb_h238.2.2.1 hb_h238.2.2.2.1) := by rfl
theorem hb_g238 : px_bM hb_h238 107 = true := by decide +kernel
theorem hb_o238 : px_okM px_Ts px_Ns hb_cl hb_SL hb_P hb_m238 := ⟨px_bM_ok hb_w238 hb_g238, List.forall_mem_append.mpr ⟨hb_d238_0, List.forall_mem_append.mpr ⟨hb_d238_1, hb_d238_2⟩⟩, px_bL_ok hb_l12⟩
theorem hb_d239_0 : ∀ q ∈ hb_c239_0, decode hb_h239.2.1 q.1 = .ok q.2 := by decide +kernel
set_option maxRecDepth 100000 in
theorem hb_w239 : lw_tbl[1817]? = some (Cond.code hb_h239.1 hb_h239.2.1 hb_h239.2.2.1 hb_h239.2.2.2.1) := by rfl
theorem hb_g239 : px_bM hb_h239 107 = true := by decide +kernel
theorem hb_o239 : px_okM px_Ts px_Ns hb_cl hb_SL hb_P hb_m239 := ⟨px_bM_ok hb_w239 hb_g239, hb_d239_0, px_bL_ok hb_l12⟩
end
section
theorem hb_d240_0 : ∀ q ∈ hb_c240_0, decode hb_h240.2.1 q.1 = .ok q.2 := by decide +kernel
set_option maxRecDepth 100000 in
theorem hb_w240 : lw_tbl[1829]? = some (Cond.code hb_h240.1 hb_h240.2.1 hb_h240.2.2.1 hb_h240.2.2.2.1) := by rfl
theorem hb_g240 : px_bM hb_h240 107 = true := by decide +kernel
theorem hb_o240 : px_okM px_Ts px_Ns hb_cl hb_SL hb_P hb_m240 := ⟨px_bM_ok hb_w240 hb_g240, hb_d240_0, px_bL_ok hb_l12⟩
theorem hb_d241_0 : ∀ q ∈ hb_c241_0, decode hb_h241.2.1 q.1 = .ok q.2 := by decide +kernel
set_option maxRecDepth 100000 in
theorem hb_w241 : lw_tbl[1833]? = some (Cond.code hb_h241.1 hb_h241.2.1 hb_h241.2.2.1 hb_h241.2.2.2.1) := by rfl
theorem hb_g241 : px_bM hb_h241 107 = true := by decide +kernel
theorem hb_o241 : px_okM px_Ts px_Ns hb_cl hb_SL hb_P hb_m241 := ⟨px_bM_ok hb_w241 hb_g241, hb_d241_0, px_bL_ok hb_l12⟩
theorem hb_d242_0 : ∀ q ∈ hb_c242_0, decode hb_h242.2.1 q.1 = .ok q.2 := by decide +kernel
theorem hb_d242_1 : ∀ q ∈ hb_c242_1, decode hb_h242.2.1 q.1 = .ok q.2 := by decide +kernel
set_option maxRecDepth 100000 in
theorem hb_w242 : lw_tbl[1837]? = some (Cond.code hb_h242.1 hb_h242.2.1 hb_h242.2.2.1 hb_h242.2.2.2.1) := by rfl
theorem hb_g242 : px_bM hb_h242 107 = true := by decide +kernel
theorem hb_o242 : px_okM px_Ts px_Ns hb_cl hb_SL hb_P hb_m242 := ⟨px_bM_ok hb_w242 hb_g242, List.forall_mem_append.mpr ⟨hb_d242_0, hb_d242_1⟩, px_bL_ok hb_l12⟩
theorem hb_d243_0 : ∀ q ∈ hb_c243_0, decode hb_h243.2.1 q.1 = .ok q.2 := by decide +kernel
theorem hb_d243_1 : ∀ q ∈ hb_c243_1, decode hb_h243.2.1 q.1 = .ok q.2 := by decide +kernel
set_option maxRecDepth 100000 in
theorem hb_w243 : lw_tbl[1841]? = some (Cond.code hb_h243.1 hb_h243.2.1 hb_h243.2.2.1 hb_h243.2.2.2.1) := by rfl
theorem hb_g243 : px_bM hb_h243 107 = true := by decide +kernel
theorem hb_o243 : px_okM px_Ts px_Ns hb_cl hb_SL hb_P hb_m243 := ⟨px_bM_ok hb_w243 hb_g243, List.forall_mem_append.mpr ⟨hb_d243_0, hb_d243_1⟩, px_bL_ok hb_l12⟩
theorem hb_d244_0 : ∀ q ∈ hb_c244_0, decode hb_h244.2.1 q.1 = .ok q.2 := by decide +kernel
theorem hb_d244_1 : ∀ q ∈ hb_c244_1, decode hb_h244.2.1 q.1 = .ok q.2 := by decide +kernel
set_option maxRecDepth 100000 in
theorem hb_w244 : lw_tbl[1849]? = some (Cond.code hb_h244.1 hb_h244.2.1 hb_h244.2.2.1 hb_h244.2.2.2.1) := by rfl
theorem hb_g244 : px_bM hb_h244 107 = true := by decide +kernel
theorem hb_o244 : px_okM px_Ts px_Ns hb_cl hb_SL hb_P hb_m244 := ⟨px_bM_ok hb_w244 hb_g244, List.forall_mem_append.mpr ⟨hb_d244_0, hb_d244_1⟩, px_bL_ok hb_l12⟩
theorem hb_d245_0 : ∀ q ∈ hb_c245_0, decode hb_h245.2.1 q.1 = .ok q.2 := by decide +kernel
theorem hb_d245_1 : ∀ q ∈ hb_c245_1, decode hb_h245.2.1 q.1 = .ok q.2 := by decide +kernel
set_option maxRecDepth 100000 in
theorem hb_w245 : lw_tbl[1845]? = some (Cond.code hb_h245.1 hb_h245.2.1 hb_h245.2.2.1 hb_h245.2.2.2.1) := by rfl
theorem hb_g245 : px_bM hb_h245 107 = true := by decide +kernel
theorem hb_o245 : px_okM px_Ts px_Ns hb_cl hb_SL hb_P hb_m245 := ⟨px_bM_ok hb_w245 hb_g245, List.forall_mem_append.mpr ⟨hb_d245_0, hb_d245_1⟩, px_bL_ok hb_l12⟩
theorem hb_d246_0 : ∀ q ∈ hb_c246_0, decode hb_h246.2.1 q.1 = .ok q.2 := by decide +kernel
set_option maxRecDepth 100000 in
theorem hb_w246 : lw_tbl[1853]? = some (Cond.code hb_h246.1 hb_h246.2.1 hb_h246.2.2.1 hb_h246.2.2.2.1) := by rfl
theorem hb_g246 : px_bM hb_h246 107 = true := by decide +kernel
theorem hb_o246 : px_okM px_Ts px_Ns hb_cl hb_SL hb_P hb_m246 := ⟨px_bM_ok hb_w246 hb_g246, hb_d246_0, px_bL_ok hb_l12⟩
theorem hb_d247_0 : ∀ q ∈ hb_c247_0, decode hb_h247.2.1 q.1 = .ok q.2 := by decide +kernel
theorem hb_d247_1 : ∀ q ∈ hb_c247_1, decode hb_h247.2.1 q.1 = .ok q.2 := by decide +kernel
set_option maxRecDepth 100000 in
theorem hb_w247 : lw_tbl[1857]? = some (Cond.code hb_h247.1 hb_h247.2.1 hb_h247.2.2.1 hb_h247.2.2.2.1) := by rfl
theorem hb_g247 : px_bM hb_h247 107 = true := by decide +kernel
theorem hb_o247 : px_okM px_Ts px_Ns hb_cl hb_SL hb_P hb_m247 := ⟨px_bM_ok hb_w247 hb_g247, List.forall_mem_append.mpr ⟨hb_d247_0, hb_d247_1⟩, px_bL_ok hb_l12⟩
theorem hb_d248_0 : ∀ q ∈ hb_c248_0, decode hb_h248.2.1 q.1 = .ok q.2 := by decide +kernel
set_option maxRecDepth 100000 in
theorem hb_w248 : lw_tbl[1874]? = some (Cond.code hb_h248.1 hb_h248.2.1 hb_h248.2.2.1 hb_h248.2.2.2.1) := by rfl
theorem hb_g248 : px_bM hb_h248 107 = true := by decide +kernel
theorem hb_o248 : px_okM px_Ts px_Ns hb_cl hb_SL hb_P hb_m248 := ⟨px_bM_ok hb_w248 hb_g248, hb_d248_0, px_bL_ok hb_l12⟩
theorem hb_d249_0 : ∀ q ∈ hb_c249_0, decode hb_h249.2.1 q.1 = .ok q.2 := by decide +kernel
theorem hb_d249_1 : ∀ q ∈ hb_c249_1, decode hb_h249.2.1 q.1 = .ok q.2 := by decide +kernel
theorem hb_d249_2 : ∀ q ∈ hb_c249_2, decode hb_h249.2.1 q.1 = .ok q.2 := by decide +kernel
theorem hb_d249_3 : ∀ q ∈ hb_c249_3, decode hb_h249.2.1 q.1 = .ok q.2 := by decide +kernel
set_option maxRecDepth 100000 in
theorem hb_w249 : lw_tbl[1870]? = some (Cond.code hb_h249.1 hb_h249.2.1 hb_h249.2.2.1 hb_h249.2.2.2.1) := by rfl
theorem hb_g249 : px_bM hb_h249 107 = true := by decide +kernel
theorem hb_o249 : px_okM px_Ts px_Ns hb_cl hb_SL hb_P hb_m249 := ⟨px_bM_ok hb_w249 hb_g249, List.forall_mem_append.mpr ⟨hb_d249_0, List.forall_mem_append.mpr ⟨hb_d249_1, List.forall_mem_append.mpr ⟨hb_d249_2, hb_d249_3⟩⟩⟩, px_bL_ok hb_l12⟩
theorem hb_d250_0 : ∀ q ∈ hb_c250_0, decode hb_h250.2.1 q.1 = .ok q.2 := by decide +kernel
theorem hb_d250_1 : ∀ q ∈ hb_c250_1, decode hb_h250.2.1 q.1 = .ok q.2 := by decide +kernel
set_option maxRecDepth 100000 in
theorem hb_w250 : lw_tbl[1878]? = some (Cond.code hb_h250.1 hb_h250.2.1 hb_h250.2.2.1 hb_h250.2.2.2.1) := by rfl
theorem hb_g250 : px_bM hb_h250 107 = true := by decide +kernel
theorem hb_o250 : px_okM px_Ts px_Ns hb_cl hb_SL hb_P hb_m250 := ⟨px_bM_ok hb_w250 hb_g250, List.forall_mem_append.mpr ⟨hb_d250_0, hb_d250_1⟩, px_bL_ok hb_l12⟩
theorem hb_d251_0 : ∀ q ∈ hb_c251_0, decode hb_h251.2.1 q.1 = .ok q.2 := by decide +kernel
set_option maxRecDepth 100000 in
theorem hb_w251 : lw_tbl[1894]? = some (Cond.code hb_h251.1 hb_h251.2.1 hb_h251.2.2.1 hb_h251.2.2.2.1) := by rfl
theorem hb_g251 : px_bM hb_h251 107 = true := by decide +kernel
theorem hb_o251 : px_okM px_Ts px_Ns hb_cl hb_SL hb_P hb_m251 := ⟨px_bM_ok hb_w251 hb_g251, hb_d251_0, px_bL_ok hb_l12⟩
theorem hb_d252_0 : ∀ q ∈ hb_c252_0, decode hb_h252.2.1 q.1 = .ok q.2 := by decide +kernel
set_option maxRecDepth 100000 in
theorem hb_w252 : lw_tbl[1882]? = some (Cond.code hb_h252.1 hb_h252.2.1 hb_h252.2.2.1 hb_h252.2.2.2.1) := by rfl
theorem hb_g252 : px_bM hb_h252 107 = true := by decide +kernel
theorem hb_o252 : px_okM px_Ts px_Ns hb_cl hb_SL hb_P hb_m252 := ⟨px_bM_ok hb_w252 hb_g252, hb_d252_0, px_bL_ok hb_l12⟩
theorem hb_d253_0 : ∀ q ∈ hb_c253_0, decode hb_h253.2.1 q.1 = .ok q.2 := by decide +kernel
set_option maxRecDepth 100000 in
theorem hb_w253 : lw_tbl[1898]? = some (Cond.code hb_h253.1 hb_h253.2.1 hb_h253.2.2.1 hb_h253.2.2.2.1) := by rfl
theorem hb_g253 : px_bM hb_h253 107 = true := by decide +kernel
theorem hb_o253 : px_okM px_Ts px_Ns hb_cl hb_SL hb_P hb_m253 := ⟨px_bM_ok hb_w253 hb_g253, hb_d253_0, px_bL_ok hb_l12⟩
theorem hb_d254_0 : ∀ q ∈ hb_c254_0, decode hb_h254.2.1 q.1 = .ok q.2 := by decide +kernel
set_option maxRecDepth 100000 in
theorem hb_w254 : lw_tbl[1890]? = some (Cond.code hb_h254.1 hb_h254.2.1 hb_h254.2.2.1 hb_h254.2.2.2.1) := by rfl
theorem hb_g254 : px_bM hb_h254 107 = true := by decide +kernel
theorem hb_o254 : px_okM px_Ts px_Ns hb_cl hb_SL hb_P hb_m254 := ⟨px_bM_ok hb_w254 hb_g254, hb_d254_0, px_bL_ok hb_l12⟩
theorem hb_d255_0 : ∀ q ∈ hb_c255_0, decode hb_h255.2.1 q.1 = .ok q.2 := by decide +kernel
theorem hb_d255_1 : ∀ q ∈ hb_c255_1, decode hb_h255.2.1 q.1 = .ok q.2 := by decide +kernel
theorem hb_d255_2 : ∀ q ∈ hb_c255_2, decode hb_h255.2.1 q.1 = .ok q.2 := by decide +kernel
theorem hb_d255_3 : ∀ q ∈ hb_c255_3, decode hb_h255.2.1 q.1 = .ok q.2 := by decide +kernel
set_option maxRecDepth 100000 in
theorem hb_w255 : lw_tbl[1914]? = some (Cond.code hb_h255.1 hb_h255.2.1 hb_h255.2.2.1 hb_h255.2.2.2.1) := by rfl
theorem hb_g255 : px_bM hb_h255 107 = true := by decide +kernel
theorem hb_o255 : px_okM px_Ts px_Ns hb_cl hb_SL hb_P hb_m255 := ⟨px_bM_ok hb_w255 hb_g255, List.forall_mem_append.mpr ⟨hb_d255_0, List.forall_mem_append.mpr ⟨hb_d255_1, List.forall_mem_append.mpr ⟨hb_d255_2, hb_d255_3⟩⟩⟩, px_bL_ok hb_l12⟩
theorem hb_d256_0 : ∀ q ∈ hb_c256_0, decode hb_h256.2.1 q.1 = .ok q.2 := by decide +kernel
set_option maxRecDepth 100000 in
theorem hb_w256 : lw_tbl[1910]? = some (Cond.code hb_h256.1 hb_h256.2.1 hb_h256.2.2.1 hb_h256.2.2.2.1) := by rfl
theorem hb_g256 : px_bM hb_h256 107 = true := by decide +kernel
theorem hb_o256 : px_okM px_Ts px_Ns hb_cl hb_SL hb_P hb_m256 := ⟨px_bM_ok hb_w256 hb_g256, hb_d256_0, px_bL_ok hb_l12⟩
theorem hb_d257_0 : ∀ q ∈ hb_c257_0, decode hb_h257.2.1 q.1 = .ok q.2 := by decide +kernel
set_option maxRecDepth 100000 in
theorem hb_w257 : lw_tbl[1906]? = some (Cond.code hb_h257.1 hb_h257.2.1 hb_h257.2.2.1 hb_h257.2.2.2.1) := by rfl
theorem hb_g257 : px_bM hb_h257 107 = true := by decide +kernel
theorem hb_o257 : px_okM px_Ts px_Ns hb_cl hb_SL hb_P hb_m257 := ⟨px_bM_ok hb_w257 hb_g257, hb_d257_0, px_bL_ok hb_l12⟩
theorem hb_d258_0 : ∀ q ∈ hb_c258_0, decode hb_h258.2.1 q.1 = .ok q.2 := by decide +kernel
theorem hb_d258_1 : ∀ q ∈ hb_c258_1, decode hb_h258.2.1 q.1 = .ok q.2 := by decide +kernel
set_option maxRecDepth 100000 in
theorem hb_w258 : lw_tbl[1902]? = some (Cond.code hb_h258.1 hb_h258.2.1 hb_h258.2.2.1 hb_h258.2.2.2.1) := by rfl
theorem hb_g258 : px_bM hb_h258 107 = true := by decide +kernel
theorem hb_o258 : px_okM px_Ts px_Ns hb_cl hb_SL hb_P hb_m258 := ⟨px_bM_ok hb_w258 hb_g258, List.forall_mem_append.mpr ⟨hb_d258_0, hb_d258_1⟩, px_bL_ok hb_l12⟩
theorem hb_d259_0 : ∀ q ∈ hb_c259_0, decode hb_h259.2.1 q.1 = .ok q.2 := by decide +kernel
theorem hb_d259_1 : ∀ q ∈ hb_c259_1, decode hb_h259.2.1 q.1 = .ok q.2 := by decide +kernel
set_option maxRecDepth 100000 in
theorem hb_w259 : lw_tbl[1886]? = some (Cond.code hb_h259.1 hb_h259.2.1 hb_h259.2.2.1 hb_h259.2.2.2.1) := by rfl
theorem hb_g259 : px_bM hb_h259 107 = true := by decide +kernel
theorem hb_o259 : px_okM px_Ts px_Ns hb_cl hb_SL hb_P hb_m259 := ⟨px_bM_ok hb_w259 hb_g259, List.forall_mem_append.mpr ⟨hb_d259_0, hb_d259_1⟩, px_bL_ok hb_l12⟩
end
section
theorem hb_d260_0 : ∀ q ∈ hb_c260_0, decode hb_h260.2.1 q.1 = .ok q.2 := by decide +kernel
theorem hb_d260_1 : ∀ q ∈ hb_c260_1, decode hb_h260.2.1 q.1 = .ok q.2 := by decide +kernel
set_option maxRecDepth 100000 in
theorem hb_w260 : lw_tbl[1866]? = some (Cond.code hb_h260.1 hb_h260.2.1 hb_h260.2.2.1 hb_h260.2.2.2.1) := by rfl
theorem hb_g260 : px_bM hb_h260 107 = true := by decide +kernel
theorem hb_o260 : px_okM px_Ts px_Ns hb_cl hb_SL hb_P hb_m260 := ⟨px_bM_ok hb_w260 hb_g260, List.forall_mem_append.mpr ⟨hb_d260_0, hb_d260_1⟩, px_bL_ok hb_l12⟩
theorem hb_d261_0 : ∀ q ∈ hb_c261_0, decode hb_h261.2.1 q.1 = .ok q.2 := by decide +kernel
theorem hb_d261_1 : ∀ q ∈ hb_c261_1, decode hb_h261.2.1 q.1 = .ok q.2 := by decide +kernel
set_option maxRecDepth 100000 in
theorem hb_w261 : lw_tbl[1862]? = some (Cond.code hb_h261.1 hb_h261.2.1 hb_h261.2.2.1 hb_h261.2.2.2.1) := by rfl
theorem hb_g261 : px_bM hb_h261 107 = true := by decide +kernel
theorem hb_o261 : px_okM px_Ts px_Ns hb_cl hb_SL hb_P hb_m261 := ⟨px_bM_ok hb_w261 hb_g261, List.forall_mem_append.mpr ⟨hb_d261_0, hb_d261_1⟩, px_bL_ok hb_l12⟩
theorem hb_d262_0 : ∀ q ∈ hb_c262_0, decode hb_h262.2.1 q.1 = .ok q.2 := by decide +kernel
theorem hb_d262_1 : ∀ q ∈ hb_c262_1, decode hb_h262.2.1 q.1 = .ok q.2 := by decide +kernel
set_option maxRecDepth 100000 in
theorem hb_w262 : lw_tbl[1918]? = some (Cond.code hb_h262.1 hb_h262.2.1 hb_h262.2.2.1 hb_h262.2.2.2.1) := by rfl
theorem hb_g262 : px_bM hb_h262 107 = true := by decide +kernel
theorem hb_o262 : px_okM px_Ts px_Ns hb_cl hb_SL hb_P hb_m262 := ⟨px_bM_ok hb_w262 hb_g262, List.forall_mem_append.mpr ⟨hb_d262_0, hb_d262_1⟩, px_bL_ok hb_l12⟩
theorem hb_d263_0 : ∀ q ∈ hb_c263_0, decode hb_h263.2.1 q.1 = .ok q.2 := by decide +kernel
theorem hb_d263_1 : ∀ q ∈ hb_c263_1, decode hb_h263.2.1 q.1 = .ok q.2 := by decide +kernel
set_option maxRecDepth 100000 in
theorem hb_w263 : lw_tbl[1926]? = some (Cond.code hb_h263.1 hb_h263.2.1 hb_h263.2.2.1 hb_h263.2.2.2.1) := by rfl
theorem hb_g263 : px_bM hb_h263 107 = true := by decide +kernel
theorem hb_o263 : px_okM px_Ts px_Ns hb_cl hb_SL hb_P hb_m263 := ⟨px_bM_ok hb_w263 hb_g263, List.forall_mem_append.mpr ⟨hb_d263_0, hb_d263_1⟩, px_bL_ok hb_l12⟩
theorem hb_d264_0 : ∀ q ∈ hb_c264_0, decode hb_h264.2.1 q.1 = .ok q.2 := by decide +kernel
set_option maxRecDepth 100000 in
theorem hb_w264 : lw_tbl[1930]? = some (Cond.code hb_h264.1 hb_h264.2.1 hb_h264.2.2.1 hb_h264.2.2.2.1) := by rfl
theorem hb_g264 : px_bM hb_h264 107 = true := by decide +kernel
theorem hb_o264 : px_okM px_Ts px_Ns hb_cl hb_SL hb_P hb_m264 := ⟨px_bM_ok hb_w264 hb_g264, hb_d264_0, px_bL_ok hb_l12⟩
theorem hb_d265_0 : ∀ q ∈ hb_c265_0, decode hb_h265.2.1 q.1 = .ok q.2 := by decide +kernel
set_option maxRecDepth 100000 in
theorem hb_w265 : lw_tbl[1922]? = some (Cond.code hb_h265.1 hb_h265.2.1 hb_h265.2.2.1 hb_h265.2.2.2.1) := by rfl
theorem hb_g265 : px_bM hb_h265 107 = true := by decide +kernel
theorem hb_o265 : px_okM px_Ts px_Ns hb_cl hb_SL hb_P hb_m265 := ⟨px_bM_ok hb_w265 hb_g265, hb_d265_0, px_bL_ok hb_l12⟩
theorem hb_d266_0 : ∀ q ∈ hb_c266_0, decode hb_h266.2.1 q.1 = .ok q.2 := by decide +kernel
set_option maxRecDepth 100000 in
theorem hb_w266 : lw_tbl[1934]? = some (Cond.code hb_h266.1 hb_h266.2.1 hb_h266.2.2.1 hb_h266.2.2.2.1) := by rfl
theorem hb_g266 : px_bM hb_h266 107 = true := by decide +kernel
theorem hb_o266 : px_okM px_Ts px_Ns hb_cl hb_SL hb_P hb_m266 := ⟨px_bM_ok hb_w266 hb_g266, hb_d266_0, px_bL_ok hb_l12⟩
theorem hb_d267_0 : ∀ q ∈ hb_c267_0, decode hb_h267.2.1 q.1 = .ok q.2 := by decide +kernel
theorem hb_d267_1 : ∀ q ∈ hb_c267_1, decode hb_h267.2.1 q.1 = .ok q.2 := by decide +kernel
set_option maxRecDepth 100000 in
theorem hb_w267 : lw_tbl[1938]? = some (Cond.code hb_h267.1 hb_h267.2.1 hb_h267.2.2.1 hb_h267.2.2.2.1) := by rfl
theorem hb_g267 : px_bM hb_h267 107 = true := by decide +kernel
theorem hb_o267 : px_okM px_Ts px_Ns hb_cl hb_SL hb_P hb_m267 := ⟨px_bM_ok hb_w267 hb_g267, List.forall_mem_append.mpr ⟨hb_d267_0, hb_d267_1⟩, px_bL_ok hb_l12⟩
theorem hb_d268_0 : ∀ q ∈ hb_c268_0, decode hb_h268.2.1 q.1 = .ok q.2 := by decide +kernel
theorem hb_d268_1 : ∀ q ∈ hb_c268_1, decode hb_h268.2.1 q.1 = .ok q.2 := by decide +kernel
set_option maxRecDepth 100000 in
theorem hb_w268 : lw_tbl[1942]? = some (Cond.code hb_h268.1 hb_h268.2.1 hb_h268.2.2.1 hb_h268.2.2.2.1) := by rfl
theorem hb_g268 : px_bM hb_h268 107 = true := by decide +kernel
theorem hb_o268 : px_okM px_Ts px_Ns hb_cl hb_SL hb_P hb_m268 := ⟨px_bM_ok hb_w268 hb_g268, List.forall_mem_append.mpr ⟨hb_d268_0, hb_d268_1⟩, px_bL_ok hb_l12⟩
theorem hb_d269_0 : ∀ q ∈ hb_c269_0, decode hb_h269.2.1 q.1 = .ok q.2 := by decide +kernel
theorem hb_d269_1 : ∀ q ∈ hb_c269_1, decode hb_h269.2.1 q.1 = .ok q.2 := by decide +kernel
theorem hb_d269_2 : ∀ q ∈ hb_c269_2, decode hb_h269.2.1 q.1 = .ok q.2 := by decide +kernel
theorem hb_d269_3 : ∀ q ∈ hb_c269_3, decode hb_h269.2.1 q.1 = .ok q.2 := by decide +kernel
set_option maxRecDepth 100000 in
theorem hb_w269 : lw_tbl[1946]? = some (Cond.code hb_h269.1 hb_h269.2.1 hb_h269.2.2.1 hb_h269.2.2.2.1) := by rfl
theorem hb_g269 : px_bM hb_h269 107 = true := by decide +kernel
theorem hb_o269 : px_okM px_Ts px_Ns hb_cl hb_SL hb_P hb_m269 := ⟨px_bM_ok hb_w269 hb_g269, List.forall_mem_append.mpr ⟨hb_d269_0, List.forall_mem_append.mpr ⟨hb_d269_1, List.forall_mem_append.mpr ⟨hb_d269_2, hb_d269_3⟩⟩⟩, px_bL_ok hb_l12⟩
theorem hb_d270_0 : ∀ q ∈ hb_c270_0, decode hb_h270.2.1 q.1 = .ok q.2 := by decide +kernel
set_option maxRecDepth 100000 in
theorem hb_w270 : lw_tbl[1949]? = some (Cond.code hb_h270.1 hb_h270.2.1 hb_h270.2.2.1 hb_h270.2.2.2.1) := by rfl
theorem hb_g270 : px_bM hb_h270 107 = true := by decide +kernel
theorem hb_o270 : px_okM px_Ts px_Ns hb_cl hb_SL hb_P hb_m270 := ⟨px_bM_ok hb_w270 hb_g270, hb_d270_0, px_bL_ok hb_l12⟩
theorem hb_d271_0 : ∀ q ∈ hb_c271_0, decode hb_h271.2.1 q.1 = .ok q.2 := by decide +kernel
set_option maxRecDepth 100000 in
theorem hb_w271 : lw_tbl[1956]? = some (Cond.code hb_h271.1 hb_h271.2.1 hb_h271.2.2.1 hb_h271.2.2.2.1) := by rfl
theorem hb_g271 : px_bM hb_h271 107 = true := by decide +kernel
theorem hb_o271 : px_okM px_Ts px_Ns hb_cl hb_SL hb_P hb_m271 := ⟨px_bM_ok hb_w271 hb_g271, hb_d271_0, px_bL_ok hb_l12⟩
theorem hb_d272_0 : ∀ q ∈ hb_c272_0, decode hb_h272.2.1 q.1 = .ok q.2 := by decide +kernel
theorem hb_d272_1 : ∀ q ∈ hb_c272_1, decode hb_h272.2.1 q.1 = .ok q.2 := by decide +kernel
set_option maxRecDepth 100000 in
theorem hb_w272 : lw_tbl[1960]? = some (Cond.code hb_h272.1 hb_h272.2.1 hb_h272.2.2.1 hb_h272.2.2.2.1) := by rfl
theorem hb_g272 : px_bM hb_h272 107 = true := by decide +kernel
theorem hb_o272 : px_okM px_Ts px_Ns hb_cl hb_SL hb_P hb_m272 := ⟨px_bM_ok hb_w272 hb_g272, List.forall_mem_append.mpr ⟨hb_d272_0, hb_d272_1⟩, px_bL_ok hb_l12⟩
theorem hb_d273_0 : ∀ q ∈ hb_c273_0, decode hb_h273.2.1 q.1 = .ok q.2 := by decide +kernel
theorem hb_d273_1 : ∀ q ∈ hb_c273_1, decode hb_h273.2.1 q.1 = .ok q.2 := by decide +kernel
set_option maxRecDepth 100000 in
theorem hb_w273 : lw_tbl[1953]? = some (Cond.code hb_h273.1 hb_h273.2.1 hb_h273.2.2.1 hb_h273.2.2.2.1) := by rfl
theorem hb_g273 : px_bM hb_h273 107 = true := by decide +kernel
theorem hb_o273 : px_okM px_Ts px_Ns hb_cl hb_SL hb_P hb_m273 := ⟨px_bM_ok hb_w273 hb_g273, List.forall_mem_append.mpr ⟨hb_d273_0, hb_d273_1⟩, px_bL_ok hb_l12⟩
theorem hb_d274_0 : ∀ q ∈ hb_c274_0, decode hb_h274.2.1 q.1 = .ok q.2 := by decide +kernel
theorem hb_d274_1 : ∀ q ∈ hb_c274_1, decode hb_h274.2.1 q.1 = .ok q.2 := by decide +kernel
set_option maxRecDepth 100000 in
theorem hb_w274 : lw_tbl[1964]? = some (Cond.code hb_h274.1 hb_h274.2.1 hb_h274.2.2.1 hb_h274.2.2.2.1) := by rfl
theorem hb_g274 : px_bM hb_h274 107 = true := by decide +kernel
theorem hb_o274 : px_okM px_Ts px_Ns hb_cl hb_SL hb_P hb_m274 := ⟨px_bM_ok hb_w274 hb_g274, List.forall_mem_append.mpr ⟨hb_d274_0, hb_d274_1⟩, px_bL_ok hb_l12⟩
theorem hb_d275_0 : ∀ q ∈ hb_c275_0, decode hb_h275.2.1 q.1 = .ok q.2 := by decide +kernel
theorem hb_d275_1 : ∀ q ∈ hb_c275_1, decode hb_h275.2.1 q.1 = .ok q.2 := by decide +kernel
set_option maxRecDepth 100000 in
theorem hb_w275 : lw_tbl[1968]? = some (Cond.code hb_h275.1 hb_h275.2.1 hb_h275.2.2.1 hb_h275.2.2.2.1) := by rfl
theorem hb_g275 : px_bM hb_h275 107 = true := by decide +kernel
theorem hb_o275 : px_okM px_Ts px_Ns hb_cl hb_SL hb_P hb_m275 := ⟨px_bM_ok hb_w275 hb_g275, List.forall_mem_append.mpr ⟨hb_d275_0, hb_d275_1⟩, px_bL_ok hb_l12⟩
theorem hb_d276_0 : ∀ q ∈ hb_c276_0, decode hb_h276.2.1 q.1 = .ok q.2 := by decide +kernel
theorem hb_d276_1 : ∀ q ∈ hb_c276_1, decode hb_h276.2.1 q.1 = .ok q.2 := by decide +kernel
theorem hb_d276_2 : ∀ q ∈ hb_c276_2, decode hb_h276.2.1 q.1 = .ok q.2 := by decide +kernel
set_option maxRecDepth 100000 in
theorem hb_w276 : lw_tbl[1972]? = some (Cond.code hb_h276.1 hb_h276.2.1 hb_h276.2.2.1 hb_h276.2.2.2.1) := by rfl
theorem hb_g276 : px_bM hb_h276 107 = true := by decide +kernel
theorem hb_o276 : px_okM px_Ts px_Ns hb_cl hb_SL hb_P hb_m276 := ⟨px_bM_ok hb_w276 hb_g276, List.forall_mem_append.mpr ⟨hb_d276_0, List.forall_mem_append.mpr ⟨hb_d276_1, hb_d276_2⟩⟩, px_bL_ok hb_l12⟩
theorem hb_d277_0 : ∀ q ∈ hb_c277_0, decode hb_h277.2.1 q.1 = .ok q.2 := by decide +kernel
theorem hb_d277_1 : ∀ q ∈ hb_c277_1, decode hb_h277.2.1 q.1 = .ok q.2 := by decide +kernel
theorem hb_d277_2 : ∀ q ∈ hb_c277_2, decode hb_h277.2.1 q.1 = .ok q.2 := by decide +kernel
set_option maxRecDepth 100000 in
theorem hb_w277 : lw_tbl[1977]? = some (Cond.code hb_h277.1 hb_h277.2.1 hb_h277.2.2.1 hb_h277.2.2.2.1) := by rfl
theorem hb_g277 : px_bM hb_h277 107 = true := by decide +kernel
theorem hb_o277 : px_okM px_Ts px_Ns hb_cl hb_SL hb_P hb_m277 := ⟨px_bM_ok hb_w277 hb_g277, List.forall_mem_append.mpr ⟨hb_d277_0, List.forall_mem_append.mpr ⟨hb_d277_1, hb_d277_2⟩⟩, px_bL_ok hb_l12⟩
theorem hb_d278_0 : ∀ q ∈ hb_c278_0, decode hb_h278.2.1 q.1 = .ok q.2 := by decide +kernel
theorem hb_d278_1 : ∀ q ∈ hb_c278_1, decode hb_h278.2.1 q.1 = .ok q.2 := by decide +kernel
set_option maxRecDepth 100000 in
theorem hb_w278 : lw_tbl[1985]? = some (Cond.code hb_h278.1 hb_h278.2.1 hb_h278.2.2.1 hb_h278.2.2.2.1) := by rfl
theorem hb_g278 : px_bM hb_h278 107 = true := by decide +kernel
theorem hb_o278 : px_okM px_Ts px_Ns hb_cl hb_SL hb_P hb_m278 := ⟨px_bM_ok hb_w278 hb_g278, List.forall_mem_append.mpr ⟨hb_d278_0, hb_d278_1⟩, px_bL_ok hb_l12⟩
theorem hb_d279_0 : ∀ q ∈ hb_c279_0, decode hb_h279.2.1 q.1 = .ok q.2 := by decide +kernel
theorem hb_d279_1 : ∀ q ∈ hb_c279_1, decode hb_h279.2.1 q.1 = .ok q.2 := by decide +kernel
theorem hb_d279_2 : ∀ q ∈ hb_c279_2, decode hb_h279.2.1 q.1 = .ok q.2 := by decide +kernel
set_option maxRecDepth 100000 in
theorem hb_w279 : lw_tbl[1981]? = some (Cond.code hb_h279.1 hb_h279.2.1 hb_h279.2.2.1 hb_h279.2.2.2.1) := by rfl
theorem hb_g279 : px_bM hb_h279 107 = true := by decide +kernel
theorem hb_o279 : px_okM px_Ts px_Ns hb_cl hb_SL hb_P hb_m279 := ⟨px_bM_ok hb_w279 hb_g279, List.forall_mem_append.mpr ⟨hb_d279_0, List.forall_mem_append.mpr ⟨hb_d279_1, hb_d279_2⟩⟩, px_bL_ok hb_l12⟩
end
section
theorem hb_d280_0 : ∀ q ∈ hb_c280_0, decode hb_h280.2.1 q.1 = .ok q.2 := by decide +kernel
set_option maxRecDepth 100000 in
theorem hb_w280 : lw_tbl[1997]? = some (Cond.code hb_h280.1 hb_h280.2.1 hb_h280.2.2.1 hb_h280.2.2.2.1) := by rfl
theorem hb_g280 : px_bM hb_h280 107 = true := by decide +kernel
theorem hb_o280 : px_okM px_Ts px_Ns hb_cl hb_SL hb_P hb_m280 := ⟨px_bM_ok hb_w280 hb_g280, hb_d280_0, px_bL_ok hb_l12⟩
theorem hb_d281_0 : ∀ q ∈ hb_c281_0, decode hb_h281.2.1 q.1 = .ok q.2 := by decide +kernel
set_option maxRecDepth 100000 in
theorem hb_w281 : lw_tbl[2001]? = some (Cond.code hb_h281.1 hb_h281.2.1 hb_h281.2.2.1 hb_h281.2.2.2.1) := by rfl
theorem hb_g281 : px_bM hb_h281 107 = true := by decide +kernel
theorem hb_o281 : px_okM px_Ts px_Ns hb_cl hb_SL hb_P hb_m281 := ⟨px_bM_ok hb_w281 hb_g281, hb_d281_0, px_bL_ok hb_l12⟩
theorem hb_d282_0 : ∀ q ∈ hb_c282_0, decode hb_h282.2.1 q.1 = .ok q.2 := by decide +kernel
set_option maxRecDepth 100000 in
theorem hb_w282 : lw_tbl[1993]? = some (Cond.code hb_h282.1 hb_h282.2.1 hb_h282.2.2.1 hb_h282.2.2.2.1) := by rfl
theorem hb_g282 : px_bM hb_h282 107 = true := by decide +kernel
theorem hb_o282 : px_okM px_Ts px_Ns hb_cl hb_SL hb_P hb_m282 := ⟨px_bM_ok hb_w282 hb_g282, hb_d282_0, px_bL_ok hb_l12⟩
theorem hb_d283_0 : ∀ q ∈ hb_c283_0, decode hb_h283.2.1 q.1 = .ok q.2 := by decide +kernel
set_option maxRecDepth 100000 in
theorem hb_w283 : lw_tbl[2009]? = some (Cond.code hb_h283.1 hb_h283.2.1 hb_h283.2.2.1 hb_h283.2.2.2.1) := by rfl
theorem hb_g283 : px_bM hb_h283 107 = true := by decide +kernel
theorem hb_o283 : px_okM px_Ts px_Ns hb_cl hb_SL hb_P hb_m283 := ⟨px_bM_ok hb_w283 hb_g283, hb_d283_0, px_bL_ok hb_l12⟩
theorem hb_d284_0 : ∀ q ∈ hb_c284_0, decode hb_h284.2.1 q.1 = .ok q.2 := by decide +kernel
set_option maxRecDepth 100000 in
theorem hb_w284 : lw_tbl[2005]? = some (Cond.code hb_h284.1 hb_h284.2.1 hb_h284.2.2.1 hb_h284.2.2.2.1) := by rfl
theorem hb_g284 : px_bM hb_h284 107 = true := by decide +kernel
theorem hb_o284 : px_okM px_Ts px_Ns hb_cl hb_SL hb_P hb_m284 := ⟨px_bM_ok hb_w284 hb_g284, hb_d284_0, px_bL_ok hb_l12⟩
theorem hb_d285_0 : ∀ q ∈ hb_c285_0, decode hb_h285.2.1 q.1 = .ok q.2 := by decide +kernel
set_option maxRecDepth 100000 in
theorem hb_w285 : lw_tbl[2017]? = some (Cond.code hb_h285.1 hb_h285.2.1 hb_h285.2.2.1 hb_h285.2.2.2.1) := by rfl
theorem hb_g285 : px_bM hb_h285 107 = true := by decide +kernel
theorem hb_o285 : px_okM px_Ts px_Ns hb_cl hb_SL hb_P hb_m285 := ⟨px_bM_ok hb_w285 hb_g285, hb_d285_0, px_bL_ok hb_l12⟩
theorem hb_d286_0 : ∀ q ∈ hb_c286_0, decode hb_h286.2.1 q.1 = .ok q.2 := by decide +kernel
set_option maxRecDepth 100000 in
theorem hb_w286 : lw_tbl[2013]? = some (Cond.code hb_h286.1 hb_h286.2.1 hb_h286.2.2.1 hb_h286.2.2.2.1) := by rfl
theorem hb_g286 : px_bM hb_h286 107 = true := by decide +kernel
theorem hb_o286 : px_okM px_Ts px_Ns hb_cl hb_SL hb_P hb_m286 := ⟨px_bM_ok hb_w286 hb_g286, hb_d286_0, px_bL_ok hb_l12⟩
theorem hb_d287_0 : ∀ q ∈ hb_c287_0, decode hb_h287.2.1 q.1 = .ok q.2 := by decide +kernel
set_option maxRecDepth 100000 in
theorem hb_w287 : lw_tbl[2025]? = some (Cond.code hb_h287.1 hb_h287.2.1 hb_h287.2.2.1 hb_h287.2.2.2.1) := by rfl
theorem hb_g287 : px_bM hb_h287 107 = true := by decide +kernel
theorem hb_o287 : px_okM px_Ts px_Ns hb_cl hb_SL hb_P hb_m287 := ⟨px_bM_ok hb_w287 hb_g287, hb_d287_0, px_bL_ok hb_l12⟩
theorem hb_d288_0 : ∀ q ∈ hb_c288_0, decode hb_h288.2.1 q.1 = .ok q.2 := by decide +kernel
set_option maxRecDepth 100000 in
theorem hb_w288 : lw_tbl[2021]? = some (Cond.code hb_h288.1 hb_h288.2.1 hb_h288.2.2.1 hb_h288.2.2.2.1) := by rfl
theorem hb_g288 : px_bM hb_h288 107 = true := by decide +kernel
theorem hb_o288 : px_okM px_Ts px_Ns hb_cl hb_SL hb_P hb_m288 := ⟨px_bM_ok hb_w288 hb_g288, hb_d288_0, px_bL_ok hb_l12⟩
theorem hb_d289_0 : ∀ q ∈ hb_c289_0, decode hb_h289.2.1 q.1 = .ok q.2 := by decide +kernel
theorem hb_d289_1 : ∀ q ∈ hb_c289_1, decode hb_h289.2.1 q.1 = .ok q.2 := by decide +kernel
theorem hb_d289_2 : ∀ q ∈ hb_c289_2, decode hb_h289.2.1 q.1 = .ok q.2 := by decide +kernel
theorem hb_d289_3 : ∀ q ∈ hb_c289_3, decode hb_h289.2.1 q.1 = .ok q.2 := by decide +kernel
set_option maxRecDepth 100000 in
theorem hb_w289 : lw_tbl[1989]? = some (Cond.code hb_h289.1 hb_h289.2.1 hb_h289.2.2.1 hb_h289.2.2.2.1) := by rfl
theorem hb_g289 : px_bM hb_h289 107 = true := by decide +kernel
theorem hb_o289 : px_okM px_Ts px_Ns hb_cl hb_SL hb_P hb_m289 := ⟨px_bM_ok hb_w289 hb_g289, List.forall_mem_append.mpr ⟨hb_d289_0, List.forall_mem_append.mpr ⟨hb_d289_1, List.forall_mem_append.mpr ⟨hb_d289_2, hb_d289_3⟩⟩⟩, px_bL_ok hb_l12⟩
theorem hb_d290_0 : ∀ q ∈ hb_c290_0, decode hb_h290.2.1 q.1 = .ok q.2 := by decide +kernel
set_option maxRecDepth 100000 in
theorem hb_w290 : lw_tbl[2029]? = some (Cond.code hb_h290.1 hb_h290.2.1 hb_h290.2.2.1 hb_h290.2.2.2.1) := by rfl
theorem hb_g290 : px_bM hb_h290 107 = true := by decide +kernel
theorem hb_o290 : px_okM px_Ts px_Ns hb_cl hb_SL hb_P hb_m290 := ⟨px_bM_ok hb_w290 hb_g290, hb_d290_0, px_bL_ok hb_l12⟩
theorem hb_d291_0 : ∀ q ∈ hb_c291_0, decode hb_h291.2.1 q.1 = .ok q.2 := by decide +kernel
theorem hb_d291_1 : ∀ q ∈ hb_c291_1, decode hb_h291.2.1 q.1 = .ok q.2 := by decide +kernel
set_option maxRecDepth 100000 in
theorem hb_w291 : lw_tbl[2033]? = some (Cond.code hb_h291.1 hb_h291.2.1 hb_h291.2.2.1 hb_h291.2.2.2.1) := by rfl
theorem hb_g291 : px_bM hb_h291 107 = true := by decide +kernel
theorem hb_o291 : px_okM px_Ts px_Ns hb_cl hb_SL hb_P hb_m291 := ⟨px_bM_ok hb_w291 hb_g291, List.forall_mem_append.mpr ⟨hb_d291_0, hb_d291_1⟩, px_bL_ok hb_l12⟩
theorem hb_d292_0 : ∀ q ∈ hb_c292_0, decode hb_h292.2.1 q.1 = .ok q.2 := by decide +kernel
set_option maxRecDepth 100000 in
theorem hb_w292 : lw_tbl[2037]? = some (Cond.code hb_h292.1 hb_h292.2.1 hb_h292.2.2.1 hb_h292.2.2.2.1) := by rfl
theorem hb_g292 : px_bM hb_h292 107 = true := by decide +kernel
theorem hb_o292 : px_okM px_Ts px_Ns hb_cl hb_SL hb_P hb_m292 := ⟨px_bM_ok hb_w292 hb_g292, hb_d292_0, px_bL_ok hb_l12⟩
theorem hb_d293_0 : ∀ q ∈ hb_c293_0, decode hb_h293.2.1 q.1 = .ok q.2 := by decide +kernel
set_option maxRecDepth 100000 in
theorem hb_w293 : lw_tbl[2041]? = some (Cond.code hb_h293.1 hb_h293.2.1 hb_h293.2.2.1 hb_h293.2.2.2.1) := by rfl
theorem hb_g293 : px_bM hb_h293 107 = true := by decide +kernel
theorem hb_o293 : px_okM px_Ts px_Ns hb_cl hb_SL hb_P hb_m293 := ⟨px_bM_ok hb_w293 hb_g293, hb_d293_0, px_bL_ok hb_l12⟩
theorem hb_d294_0 : ∀ q ∈ hb_c294_0, decode hb_h294.2.1 q.1 = .ok q.2 := by decide +kernel
theorem hb_d294_1 : ∀ q ∈ hb_c294_1, decode hb_h294.2.1 q.1 = .ok q.2 := by decide +kernel
set_option maxRecDepth 100000 in
theorem hb_w294 : lw_tbl[761]? = some (Cond.code hb_h294.1 hb_h294.2.1 hb_h294.2.2.1 hb_h294.2.2.2.1) := by rfl
theorem hb_g294 : px_bM hb_h294 110 = true := by decide +kernel
theorem hb_o294 : px_okM px_Ts px_Ns hb_cl hb_SL hb_P hb_m294 := ⟨px_bM_ok hb_w294 hb_g294, List.forall_mem_append.mpr ⟨hb_d294_0, hb_d294_1⟩, px_bL_ok hb_l13⟩
theorem hb_d295_0 : ∀ q ∈ hb_c295_0, decode hb_h295.2.1 q.1 = .ok q.2 := by decide +kernel
set_option maxRecDepth 100000 in
theorem hb_w295 : lw_tbl[1048]? = some (Cond.code hb_h295.1 hb_h295.2.1 hb_h295.2.2.1 hb_h295.2.2.2.1) := by rfl
theorem hb_g295 : px_bM hb_h295 111 = true := by decide +kernel
theorem hb_o295 : px_okM px_Ts px_Ns hb_cl hb_SL hb_P hb_m295 := ⟨px_bM_ok hb_w295 hb_g295, hb_d295_0, px_bL_ok hb_l14⟩
theorem hb_d296_0 : ∀ q ∈ hb_c296_0, decode hb_h296.2.1 q.1 = .ok q.2 := by decide +kernel
set_option maxRecDepth 100000 in
theorem hb_w296 : lw_tbl[1058]? = some (Cond.code hb_h296.1 hb_h296.2.1 hb_h296.2.2.1 hb_h296.2.2.2.1) := by rfl
theorem hb_g296 : px_bM hb_h296 111 = true := by decide +kernel
theorem hb_o296 : px_okM px_Ts px_Ns hb_cl hb_SL hb_P hb_m296 := ⟨px_bM_ok hb_w296 hb_g296, hb_d296_0, px_bL_ok hb_l14⟩
theorem hb_d297_0 : ∀ q ∈ hb_c297_0, decode hb_h297.2.1 q.1 = .ok q.2 := by decide +kernel
set_option maxRecDepth 100000 in
theorem hb_w297 : lw_tbl[1052]? = some (Cond.code hb_h297.1 hb_h297.2.1 hb_h297.2.2.1 hb_h297.2.2.2.1) := by rfl
theorem hb_g297 : px_bM hb_h297 111 = true := by decide +kernel
theorem hb_o297 : px_okM px_Ts px_Ns hb_cl hb_SL hb_P hb_m297 := ⟨px_bM_ok hb_w297 hb_g297, hb_d297_0, px_bL_ok hb_l14⟩
theorem hb_d298_0 : ∀ q ∈ hb_c298_0, decode hb_h298.2.1 q.1 = .ok q.2 := by decide +kernel
set_option maxRecDepth 100000 in
theorem hb_w298 : lw_tbl[1062]? = some (Cond.code hb_h298.1 hb_h298.2.1 hb_h298.2.2.1 hb_h298.2.2.2.1) := by rfl
theorem hb_g298 : px_bM hb_h298 111 = true := by decide +kernel
theorem hb_o298 : px_okM px_Ts px_Ns hb_cl hb_SL hb_P hb_m298 := ⟨px_bM_ok hb_w298 hb_g298, hb_d298_0, px_bL_ok hb_l14⟩
theorem hb_d299_0 : ∀ q ∈ hb_c299_0, decode hb_h299.2.1 q.1 = .ok q.2 := by decide +kernel
set_option maxRecDepth 100000 in
theorem hb_w299 : lw_tbl[1068]? = some (Cond.code hb_h299.1 hb_h299.2.1 hb_h299.2.2.1 hb_h299.2.2.2.1) := by rfl
theorem hb_g299 : px_bM hb_h299 111 = true := by decide +kernel
theorem hb_o299 : px_okM px_Ts px_Ns hb_cl hb_SL hb_P hb_m299 := ⟨px_bM_ok hb_w299 hb_g299, hb_d299_0, px_bL_ok hb_l14⟩
end
section
theorem hb_d300_0 : ∀ q ∈ hb_c300_0, decode hb_h300.2.1 q.1 = .ok q.2 := by decide +kernel
set_option maxRecDepth 100000 in
theorem hb_w300 : lw_tbl[1065]? = some (Cond.code hb_h300.1 hb_h300.2.1 hb_h300.2.2.1 hb_h300.2.2.2.1) := by rfl
theorem hb_g300 : px_bM hb_h300 112 = true := by decide +kernel
theorem hb_o300 : px_okM px_Ts px_Ns hb_cl hb_SL hb_P hb_m300 := ⟨px_bM_ok hb_w300 hb_g300, hb_d300_0, px_bL_ok hb_l15⟩
theorem hb_d301_0 : ∀ q ∈ hb_c301_0, decode hb_h301.2.1 q.1 = .ok q.2 := by decide +kernel
set_option maxRecDepth 100000 in
theorem hb_w301 : lw_tbl[1073]? = some (Cond.code hb_h301.1 hb_h301.2.1 hb_h301.2.2.1 hb_h301.2.2.2.1) := by rfl
theorem hb_g301 : px_bM hb_h301 113 = true := by decide +kernel
theorem hb_o301 : px_okM px_Ts px_Ns hb_cl hb_SL hb_P hb_m301 := ⟨px_bM_ok hb_w301 hb_g301, hb_d301_0, px_bL_ok hb_l16⟩
theorem hb_d302_0 : ∀ q ∈ hb_c302_0, decode hb_h302.2.1 q.1 = .ok q.2 := by decide +kernel
theorem hb_d302_1 : ∀ q ∈ hb_c302_1, decode hb_h302.2.1 q.1 = .ok q.2 := by decide +kernel
theorem hb_d302_2 : ∀ q ∈ hb_c302_2, decode hb_h302.2.1 q.1 = .ok q.2 := by decide +kernel
theorem hb_d302_3 : ∀ q ∈ hb_c302_3, decode hb_h302.2.1 q.1 = .ok q.2 := by decide +kernel
theorem hb_d302_4 : ∀ q ∈ hb_c302_4, decode hb_h302.2.1 q.1 = .ok q.2 := by decide +kernel
theorem hb_d302_5 : ∀ q ∈ hb_c302_5, decode hb_h302.2.1 q.1 = .ok q.2 := by decide +kernel
theorem hb_d302_6 : ∀ q ∈ hb_c302_6, decode hb_h302.2.1 q.1 = .ok q.2 := by decide +kernel
theorem hb_d302_7 : ∀ q ∈ hb_c302_7, decode hb_h302.2.1 q.1 = .ok q.2 := by decide +kernel
theorem hb_d302_8 : ∀ q ∈ hb_c302_8, decode hb_h302.2.1 q.1 = .ok q.2 := by decide +kernel
theorem hb_d302_9 : ∀ q ∈ hb_c302_9, decode hb_h302.2.1 q.1 = .ok q.2 := by decide +kernel
theorem hb_d302_10 : ∀ q ∈ hb_c302_10, decode hb_h302.2.1 q.1 = .ok q.2 := by decide +kernel
theorem hb_d302_11 : ∀ q ∈ hb_c302_11, decode hb_h302.2.1 q.1 = .ok q.2 := by decide +kernel
theorem hb_d302_12 : ∀ q ∈ hb_c302_12, decode hb_h302.2.1 q.1 = .ok q.2 := by decide +kernel
theorem hb_d302_13 : ∀ q ∈ hb_c302_13, decode hb_h302.2.1 q.1 = .ok q.2 := by decide +kernel
theorem hb_d302_14 : ∀ q ∈ hb_c302_14, decode hb_h302.2.1 q.1 = .ok q.2 := by decide +kernel
theorem hb_d302_15 : ∀ q ∈ hb_c302_15, decode hb_h302.2.1 q.1 = .ok q.2 := by decide +kernel
theorem hb_d302_16 : ∀ q ∈ hb_c302_16, decode hb_h302.2.1 q.1 = .ok q.2 := by decide +kernel
theorem hb_d302_17 : ∀ q ∈ hb_c302_17, decode hb_h302.2.1 q.1 = .ok q.2 := by decide +kernel
theorem hb_d302_18 : ∀ q ∈ hb_c302_18, decode hb_h302.2.1 q.1 = .ok q.2 := by decide +kernel
theorem hb_d302_19 : ∀ q ∈ hb_c302_19, decode hb_h302.2.1 q.1 = .ok q.2 := by decide +kernel
theorem hb_d302_20 : ∀ q ∈ hb_c302_20, decode hb_h302.2.1 q.1 = .ok q.2 := by decide +kernel
theorem hb_d302_21 : ∀ q ∈ hb_c302_21, decode hb_h302.2.1 q.1 = .ok q.2 := by decide +kernel
theorem hb_d302_22 : ∀ q ∈ hb_c302_22, decode hb_h302.2.1 q.1 = .ok q.2 := by decide +kernel
theorem hb_d302_23 : ∀ q ∈ hb_c302_23, decode hb_h302.2.1 q.1 = .ok q.2 := by decide +kernel
theorem hb_d302_24 : ∀ q ∈ hb_c302_24, decode hb_h302.2.1 q.1 = .ok q.2 := by decide +kernel
theorem hb_d302_25 : ∀ q ∈ hb_c302_25, decode hb_h302.2.1 q.1 = .ok q.2 := by decide +kernel
theorem hb_d302_26 : ∀ q ∈ hb_c302_26, decode hb_h302.2.1 q.1 = .ok q.2 := by decide +kernel
theorem hb_d302_27 : ∀ q ∈ hb_c302_27, decode hb_h302.2.1 q.1 = .ok q.2 := by decide +kernel
theorem hb_d302_28 : ∀ q ∈ hb_c302_28, decode hb_h302.2.1 q.1 = .ok q.2 := by decide +kernel
theorem hb_d302_29 : ∀ q ∈ hb_c302_29, decode hb_h302.2.1 q.1 = .ok q.2 := by decide +kernel
theorem hb_d302_30 : ∀ q ∈ hb_c302_30, decode hb_h302.2.1 q.1 = .ok q.2 := by decide +kernel
theorem hb_d302_31 : ∀ q ∈ hb_c302_31, decode hb_h302.2.1 q.1 = .ok q.2 := by decide +kernel
theorem hb_d302_32 : ∀ q ∈ hb_c302_32, decode hb_h302.2.1 q.1 = .ok q.2 := by decide +kernel
theorem hb_d302_33 : ∀ q ∈ hb_c302_33, decode hb_h302.2.1 q.1 = .ok q.2 := by decide +kernel
theorem hb_d302_34 : ∀ q ∈ hb_c302_34, decode hb_h302.2.1 q.1 = .ok q.2 := by decide +kernel
theorem hb_dL : ∀ q ∈ hb_m302.2.1, decode hb_m302.1.2.1 q.1 = .ok q.2 := List.forall_mem_append.mpr ⟨hb_d302_0, List.forall_mem_append.mpr ⟨hb_d302_1, List.forall_mem_append.mpr ⟨hb_d302_2, List.forall_mem_append.mpr ⟨hb_d302_3, List.forall_mem_append.mpr ⟨hb_d302_4, List.forall_mem_append.mpr ⟨hb_d302_5, List.forall_mem_append.mpr ⟨hb_d302_6, List.forall_mem_append.mpr ⟨hb_d302_7, List.forall_mem_append.mpr ⟨hb_d302_8, List.forall_mem_append.mpr ⟨hb_d302_9, List.forall_mem_append.mpr ⟨hb_d302_10, List.forall_mem_append.mpr ⟨hb_d302_11, List.forall_mem_append.mpr ⟨hb_d302_12, List.forall_mem_append.mpr ⟨hb_d302_13, List.forall_mem_append.mpr ⟨hb_d302_14, List.forall_mem_append.mpr ⟨hb_d302_15, List.forall_mem_append.mpr ⟨hb_d302_16, List.forall_mem_append.mpr ⟨hb_d302_17, List.forall_mem_append.mpr ⟨hb_d302_18, List.forall_mem_append.mpr ⟨hb_d302_19, List.forall_mem_append.mpr ⟨hb_d302_20, List.forall_mem_append.mpr ⟨hb_d302_21, List.forall_mem_append.mpr ⟨hb_d302_22, List.forall_mem_append.mpr ⟨hb_d302_23, List.forall_mem_append.mpr ⟨hb_d302_24, List.forall_mem_append.mpr ⟨hb_d302_25, List.forall_mem_append.mpr ⟨hb_d302_26, List.forall_mem_append.mpr ⟨hb_d302_27, List.forall_mem_append.mpr ⟨hb_d302_28, List.forall_mem_append.mpr ⟨hb_d302_29, List.forall_mem_append.mpr ⟨hb_d302_30, List.forall_mem_append.mpr ⟨hb_d302_31, List.forall_mem_append.mpr ⟨hb_d302_32, List.forall_mem_append.mpr ⟨hb_d302_33, hb_d302_34⟩⟩⟩⟩⟩⟩⟩⟩⟩⟩⟩⟩⟩⟩⟩⟩⟩⟩⟩⟩⟩⟩⟩⟩⟩⟩⟩⟩⟩⟩⟩⟩⟩⟩
end
section
theorem hb_p0 : ∀ M ∈ hb_P0, px_okM px_Ts px_Ns hb_cl hb_SL hb_P M := List.forall_mem_cons.mpr ⟨hb_o0, List.forall_mem_cons.mpr ⟨hb_o1, List.forall_mem_cons.mpr ⟨hb_o2, List.forall_mem_cons.mpr ⟨hb_o3, List.forall_mem_cons.mpr ⟨hb_o4, List.forall_mem_cons.mpr ⟨hb_o5, List.forall_mem_cons.mpr ⟨hb_o6, List.forall_mem_cons.mpr ⟨hb_o7, List.forall_mem_cons.mpr ⟨hb_o8, List.forall_mem_cons.mpr ⟨hb_o9, List.forall_mem_cons.mpr ⟨hb_o10, List.forall_mem_cons.mpr ⟨hb_o11, List.forall_mem_cons.mpr ⟨hb_o12, List.forall_mem_cons.mpr ⟨hb_o13, List.forall_mem_cons.mpr ⟨hb_o14, List.forall_mem_cons.mpr ⟨hb_o15, List.forall_mem_cons.mpr ⟨hb_o16, List.forall_mem_cons.mpr ⟨hb_o17, List.forall_mem_cons.mpr ⟨hb_o18, List.forall_mem_cons.mpr ⟨hb_o19, fun _ h => absurd h List.not_mem_nil⟩⟩⟩⟩⟩⟩⟩⟩⟩⟩⟩⟩⟩⟩⟩⟩⟩⟩⟩⟩
theorem hb_p1 : ∀ M ∈ hb_P1, px_okM px_Ts px_Ns hb_cl hb_SL hb_P M := List.forall_mem_cons.mpr ⟨hb_o20, List.forall_mem_cons.mpr ⟨hb_o21, List.forall_mem_cons.mpr ⟨hb_o22, List.forall_mem_cons.mpr ⟨hb_o23, List.forall_mem_cons.mpr ⟨hb_o24, List.forall_mem_cons.mpr ⟨hb_o25, List.forall_mem_cons.mpr ⟨hb_o26, List.forall_mem_cons.mpr ⟨hb_o27, List.forall_mem_cons.mpr ⟨hb_o28, List.forall_mem_cons.mpr ⟨hb_o29, List.forall_mem_cons.mpr ⟨hb_o30, List.forall_mem_cons.mpr ⟨hb_o31, List.forall_mem_cons.mpr ⟨hb_o32, List.forall_mem_cons.mpr ⟨hb_o33, List.forall_mem_cons.mpr ⟨hb_o34, List.forall_mem_cons.mpr ⟨hb_o35, List.forall_mem_cons.mpr ⟨hb_o36, List.forall_mem_cons.mpr ⟨hb_o37, List.forall_mem_cons.mpr ⟨hb_o38, List.forall_mem_cons.mpr ⟨hb_o39, fun _ h => absurd h List.not_mem_nil⟩⟩⟩⟩⟩⟩⟩⟩⟩⟩⟩⟩⟩⟩⟩⟩⟩⟩⟩⟩
theorem hb_p2 : ∀ M ∈ hb_P2, px_okM px_Ts px_Ns hb_cl hb_SL hb_P M := List.forall_mem_cons.mpr ⟨hb_o40, List.forall_mem_cons.mpr ⟨hb_o41, List.forall_mem_cons.mpr ⟨hb_o42, List.forall_mem_cons.mpr ⟨hb_o43, List.forall_mem_cons.mpr ⟨hb_o44, List.forall_mem_cons.mpr ⟨hb_o45, List.forall_mem_cons.mpr ⟨hb_o46, List.forall_mem_cons.mpr ⟨hb_o47, List.forall_mem_cons.mpr ⟨hb_o48, List.forall_mem_cons.mpr ⟨hb_o49, List.forall_mem_cons.mpr ⟨hb_o50, List.forall_mem_cons.mpr ⟨hb_o51, List.forall_mem_cons.mpr ⟨hb_o52, List.forall_mem_cons.mpr ⟨hb_o53, List.forall_mem_cons.mpr ⟨hb_o54, List.forall_mem_cons.mpr ⟨hb_o55, List.forall_mem_cons.mpr ⟨hb_o56, List.forall_mem_cons.mpr ⟨hb_o57, List.forall_mem_cons.mpr ⟨hb_o58, List.forall_mem_cons.mpr ⟨hb_o59, fun _ h => absurd h List.not_mem_nil⟩⟩⟩⟩⟩⟩⟩⟩⟩⟩⟩⟩⟩⟩⟩⟩⟩⟩⟩⟩
theorem hb_p3 : ∀ M ∈ hb_P3, px_okM px_Ts px_Ns hb_cl hb_SL hb_P M := List.forall_mem_cons.mpr ⟨hb_o60, List.forall_mem_cons.mpr ⟨hb_o61, List.forall_mem_cons.mpr ⟨hb_o62, List.forall_mem_cons.mpr ⟨hb_o63, List.forall_mem_cons.mpr ⟨hb_o64, List.forall_mem_cons.mpr ⟨hb_o65, List.forall_mem_cons.mpr ⟨hb_o66, List.forall_mem_cons.mpr ⟨hb_o67, List.forall_mem_cons.mpr ⟨hb_o68, List.forall_mem_cons.mpr ⟨hb_o69, List.forall_mem_cons.mpr ⟨hb_o70, List.forall_mem_cons.mpr ⟨hb_o71, List.forall_mem_cons.mpr ⟨hb_o72, List.forall_mem_cons.mpr ⟨hb_o73, List.forall_mem_cons.mpr ⟨hb_o74, List.forall_mem_cons.mpr ⟨hb_o75, List.forall_mem_cons.mpr ⟨hb_o76, List.forall_mem_cons.mpr ⟨hb_o77, List.forall_mem_cons.mpr ⟨hb_o78, List.forall_mem_cons.mpr ⟨hb_o79, fun _ h => absurd h List.not_mem_nil⟩⟩⟩⟩⟩⟩⟩⟩⟩⟩⟩⟩⟩⟩⟩⟩⟩⟩⟩⟩
theorem hb_p4 : ∀ M ∈ hb_P4, px_okM px_Ts px_Ns hb_cl hb_SL hb_P M := List.forall_mem_cons.mpr ⟨hb_o80, List.forall_mem_cons.mpr ⟨hb_o81, List.forall_mem_cons.mpr ⟨hb_o82, List.forall_mem_cons.mpr ⟨hb_o83, List.forall_mem_cons.mpr ⟨hb_o84, List.forall_mem_cons.mpr ⟨hb_o85, List.forall_mem_cons.mpr ⟨hb_o86, List.forall_mem_cons.mpr ⟨hb_o87, List.forall_mem_cons.mpr ⟨hb_o88, List.forall_mem_cons.mpr ⟨hb_o89, List.forall_mem_cons.mpr ⟨hb_o90, List.forall_mem_cons.mpr ⟨hb_o91, List.forall_mem_cons.mpr ⟨hb_o92, List.forall_mem_cons.mpr ⟨hb_o93, List.forall_mem_cons.mpr ⟨hb_o94, List.forall_mem_cons.mpr ⟨hb_o95, List.forall_mem_cons.mpr ⟨hb_o96, List.forall_mem_cons.mpr ⟨hb_o97, List.forall_mem_cons.mpr ⟨hb_o98, List.forall_mem_cons.mpr ⟨hb_o99, fun _ h => absurd h List.not_mem_nil⟩⟩⟩⟩⟩⟩⟩⟩⟩⟩⟩⟩⟩⟩⟩⟩⟩⟩⟩⟩
theorem hb_p5 : ∀ M ∈ hb_P5, px_okM px_Ts px_Ns hb_cl hb_SL hb_P M := List.forall_mem_cons.mpr ⟨hb_o100, List.forall_mem_cons.mpr ⟨hb_o101, List.forall_mem_cons.mpr ⟨hb_o102, List.forall_mem_cons.mpr ⟨hb_o103, List.forall_mem_cons.mpr ⟨hb_o104, List.forall_mem_cons.mpr ⟨hb_o105, List.forall_mem_cons.mpr ⟨hb_o106, List.forall_mem_cons.mpr ⟨hb_o107, List.forall_mem_cons.mpr ⟨hb_o108, List.forall_mem_cons.mpr ⟨hb_o109, List.forall_mem_cons.mpr ⟨hb_o110, List.forall_mem_cons.mpr ⟨hb_o111, List.forall_mem_cons.mpr ⟨hb_o112, List.forall_mem_cons.mpr ⟨hb_o113, List.forall_mem_cons.mpr ⟨hb_o114, List.forall_mem_cons.mpr ⟨hb_o115, List.forall_mem_cons.mpr ⟨hb_o116, List.forall_mem_cons.mpr ⟨hb_o117, List.forall_mem_cons.mpr ⟨hb_o118, List.forall_mem_cons.mpr ⟨hb_o119, fun _ h => absurd h List.not_mem_nil⟩⟩⟩⟩⟩⟩⟩⟩⟩⟩⟩⟩⟩⟩⟩⟩⟩⟩⟩⟩
theorem hb_p6 : ∀ M ∈ hb_P6, px_okM px_Ts px_Ns hb_cl hb_SL hb_P M := List.forall_mem_cons.mpr ⟨hb_o120, List.forall_mem_cons.mpr ⟨hb_o121, List.forall_mem_cons.mpr ⟨hb_o122, List.forall_mem_cons.mpr ⟨hb_o123, List.forall_mem_cons.mpr ⟨hb_o124, List.forall_mem_cons.mpr ⟨hb_o125, List.forall_mem_cons.mpr ⟨hb_o126, List.forall_mem_cons.mpr ⟨hb_o127, List.forall_mem_cons.mpr ⟨hb_o128, List.forall_mem_cons.mpr ⟨hb_o129, List.forall_mem_cons.mpr ⟨hb_o130, List.forall_mem_cons.mpr ⟨hb_o131, List.forall_mem_cons.mpr ⟨hb_o132, List.forall_mem_cons.mpr ⟨hb_o133, List.forall_mem_cons.mpr ⟨hb_o134, List.forall_mem_cons.mpr ⟨hb_o135, List.forall_mem_cons.mpr ⟨hb_o136, List.forall_mem_cons.mpr ⟨hb_o137, List.forall_mem_cons.mpr ⟨hb_o138, List.forall_mem_cons.mpr ⟨hb_o139, fun _ h => absurd h List.not_mem_nil⟩⟩⟩⟩⟩⟩⟩⟩⟩⟩⟩⟩⟩⟩⟩⟩⟩⟩⟩⟩
theorem hb_p7 : ∀ M ∈ hb_P7, px_okM px_Ts px_Ns hb_cl hb_SL hb_P M := List.forall_mem_cons.mpr ⟨hb_o140, List.forall_mem_cons.mpr ⟨hb_o141, List.forall_mem_cons.mpr ⟨hb_o142, List.forall_mem_cons.mpr ⟨hb_o143, List.forall_mem_cons.mpr ⟨hb_o144, List.forall_mem_cons.mpr ⟨hb_o145, List.forall_mem_cons.mpr ⟨hb_o146, List.forall_mem_cons.mpr ⟨hb_o147, List.forall_mem_cons.mpr ⟨hb_o148, List.forall_mem_cons.mpr ⟨hb_o149, List.forall_mem_cons.mpr ⟨hb_o150, List.forall_mem_cons.mpr ⟨hb_o151, List.forall_mem_cons.mpr ⟨hb_o152, List.forall_mem_cons.mpr ⟨hb_o153, List.forall_mem_cons.mpr ⟨hb_o154, List.forall_mem_cons.mpr ⟨hb_o155, List.forall_mem_cons.mpr ⟨hb_o156, List.forall_mem_cons.mpr ⟨hb_o157, List.forall_mem_cons.mpr ⟨hb_o158, List.forall_mem_cons.mpr ⟨hb_o159, fun _ h => absurd h List.not_mem_nil⟩⟩⟩⟩⟩⟩⟩⟩⟩⟩⟩⟩⟩⟩⟩⟩⟩⟩⟩⟩
theorem hb_p8 : ∀ M ∈ hb_P8, px_okM px_Ts px_Ns hb_cl hb_SL hb_P M := List.forall_mem_cons.mpr ⟨hb_o160, List.forall_mem_cons.mpr ⟨hb_o161, List.forall_mem_cons.mpr ⟨hb_o162, List.forall_mem_cons.mpr ⟨hb_o163, List.forall_mem_cons.mpr ⟨hb_o164, List.forall_mem_cons.mpr ⟨hb_o165, List.forall_mem_cons.mpr ⟨hb_o166, List.forall_mem_cons.mpr ⟨hb_o167, List.forall_mem_cons.mpr ⟨hb_o168, List.forall_mem_cons.mpr ⟨hb_o169, List.forall_mem_cons.mpr ⟨hb_o170, List.forall_mem_cons.mpr ⟨hb_o171, List.forall_mem_cons.mpr ⟨hb_o172, List.forall_mem_cons.mpr ⟨hb_o173, List.forall_mem_cons.mpr ⟨hb_o174, List.forall_mem_cons.mpr ⟨hb_o175, List.forall_mem_cons.mpr ⟨hb_o176, List.forall_mem_cons.mpr ⟨hb_o177, List.forall_mem_cons.mpr ⟨hb_o178, List.forall_mem_cons.mpr ⟨hb_o179, fun _ h => absurd h List.not_mem_nil⟩⟩⟩⟩⟩⟩⟩⟩⟩⟩⟩⟩⟩⟩⟩⟩⟩⟩⟩⟩
theorem hb_p9 : ∀ M ∈ hb_P9, px_okM px_Ts px_Ns hb_cl hb_SL hb_P M := List.forall_mem_cons.mpr ⟨hb_o180, List.forall_mem_cons.mpr ⟨hb_o181, List.forall_mem_cons.mpr ⟨hb_o182, List.forall_mem_cons.mpr ⟨hb_o183, List.forall_mem_cons.mpr ⟨hb_o184, List.forall_mem_cons.mpr ⟨hb_o185, List.forall_mem_cons.mpr ⟨hb_o186, List.forall_mem_cons.mpr ⟨hb_o187, List.forall_mem_cons.mpr ⟨hb_o188, List.forall_mem_cons.mpr ⟨hb_o189, List.forall_mem_cons.mpr ⟨hb_o190, List.forall_mem_cons.mpr ⟨hb_o191, List.forall_mem_cons.mpr ⟨hb_o192, List.forall_mem_cons.mpr ⟨hb_o193, List.forall_mem_cons.mpr ⟨hb_o194, List.forall_mem_cons.mpr ⟨hb_o195, List.forall_mem_cons.mpr ⟨hb_o196, List.forall_mem_cons.mpr ⟨hb_o197, List.forall_mem_cons.mpr ⟨hb_o198, List.forall_mem_cons.mpr ⟨hb_o199, fun _ h => absurd h List.not_mem_nil⟩⟩⟩⟩⟩⟩⟩⟩⟩⟩⟩⟩⟩⟩⟩⟩⟩⟩⟩⟩
theorem hb_p10 : ∀ M ∈ hb_P10, px_okM px_Ts px_Ns hb_cl hb_SL hb_P M := List.forall_mem_cons.mpr ⟨hb_o200, List.forall_mem_cons.mpr ⟨hb_o201, List.forall_mem_cons.mpr ⟨hb_o202, List.forall_mem_cons.mpr ⟨hb_o203, List.forall_mem_cons.mpr ⟨hb_o204, List.forall_mem_cons.mpr ⟨hb_o205, List.forall_mem_cons.mpr ⟨hb_o206, List.forall_mem_cons.mpr ⟨hb_o207, List.forall_mem_cons.mpr ⟨hb_o208, List.forall_mem_cons.mpr ⟨hb_o209, List.forall_mem_cons.mpr ⟨hb_o210, List.forall_mem_cons.mpr ⟨hb_o211, List.forall_mem_cons.mpr ⟨hb_o212, List.forall_mem_cons.mpr ⟨hb_o213, List.forall_mem_cons.mpr ⟨hb_o214, List.forall_mem_cons.mpr ⟨hb_o215, List.forall_mem_cons.mpr ⟨hb_o216, List.forall_mem_cons.mpr ⟨hb_o217, List.forall_mem_cons.mpr ⟨hb_o218, List.forall_mem_cons.mpr ⟨hb_o219, fun _ h => absurd h List.not_mem_nil⟩⟩⟩⟩⟩⟩⟩⟩⟩⟩⟩⟩⟩⟩⟩⟩⟩⟩⟩⟩
theorem hb_p11 : ∀ M ∈ hb_P11, px_okM px_Ts px_Ns hb_cl hb_SL hb_P M := List.forall_mem_cons.mpr ⟨hb_o220, List.forall_mem_cons.mpr ⟨hb_o221, List.forall_mem_cons.mpr ⟨hb_o222, List.forall_mem_cons.mpr ⟨hb_o223, List.forall_mem_cons.mpr ⟨hb_o224, List.forall_mem_cons.mpr ⟨hb_o225, List.forall_mem_cons.mpr ⟨hb_o226, List.forall_mem_cons.mpr ⟨hb_o227, List.forall_mem_cons.mpr ⟨hb_o228, List.forall_mem_cons.mpr ⟨hb_o229, List.forall_mem_cons.mpr ⟨hb_o230, List.forall_mem_cons.mpr ⟨hb_o231, List.forall_mem_cons.mpr ⟨hb_o232, List.forall_mem_cons.mpr ⟨hb_o233, List.forall_mem_cons.mpr ⟨hb_o234, List.forall_mem_cons.mpr ⟨hb_o235, List.forall_mem_cons.mpr ⟨hb_o236, List.forall_mem_cons.mpr ⟨hb_o237, List.forall_mem_cons.mpr ⟨hb_o238, List.forall_mem_cons.mpr ⟨hb_o239, fun _ h => absurd h List.not_mem_nil⟩⟩⟩⟩⟩⟩⟩⟩⟩⟩⟩⟩⟩⟩⟩⟩⟩⟩⟩⟩
theorem hb_p12 : ∀ M ∈ hb_P12, px_okM px_Ts px_Ns hb_cl hb_SL hb_P M := List.forall_mem_cons.mpr ⟨hb_o240, List.forall_mem_cons.mpr ⟨hb_o241, List.forall_mem_cons.mpr ⟨hb_o242, List.forall_mem_cons.mpr ⟨hb_o243, List.forall_mem_cons.mpr ⟨hb_o244, List.forall_mem_cons.mpr ⟨hb_o245, List.forall_mem_cons.mpr ⟨hb_o246, List.forall_mem_cons.mpr ⟨hb_o247, List.forall_mem_cons.mpr ⟨hb_o248, List.forall_mem_cons.mpr ⟨hb_o249, List.forall_mem_cons.mpr ⟨hb_o250, List.forall_mem_cons.mpr ⟨hb_o251, List.forall_mem_cons.mpr ⟨hb_o252, List.forall_mem_cons.mpr ⟨hb_o253, List.forall_mem_cons.mpr ⟨hb_o254, List.forall_mem_cons.mpr ⟨hb_o255, List.forall_mem_cons.mpr ⟨hb_o256, List.forall_mem_cons.mpr ⟨hb_o257, List.forall_mem_cons.mpr ⟨hb_o258, List.forall_mem_cons.mpr ⟨hb_o259, fun _ h => absurd h List.not_mem_nil⟩⟩⟩⟩⟩⟩⟩⟩⟩⟩⟩⟩⟩⟩⟩⟩⟩⟩⟩⟩
theorem hb_p13 : ∀ M ∈ hb_P13, px_okM px_Ts px_Ns hb_cl hb_SL hb_P M := List.forall_mem_cons.mpr ⟨hb_o260, List.forall_mem_cons.mpr ⟨hb_o261, List.forall_mem_cons.mpr ⟨hb_o262, List.forall_mem_cons.mpr ⟨hb_o263, List.forall_mem_cons.mpr ⟨hb_o264, List.forall_mem_cons.mpr ⟨hb_o265, List.forall_mem_cons.mpr ⟨hb_o266, List.forall_mem_cons.mpr ⟨hb_o267, List.forall_mem_cons.mpr ⟨hb_o268, List.forall_mem_cons.mpr ⟨hb_o269, List.forall_mem_cons.mpr ⟨hb_o270, List.forall_mem_cons.mpr ⟨hb_o271, List.forall_mem_cons.mpr ⟨hb_o272, List.forall_mem_cons.mpr ⟨hb_o273, List.forall_mem_cons.mpr ⟨hb_o274, List.forall_mem_cons.mpr ⟨hb_o275, List.forall_mem_cons.mpr ⟨hb_o276, List.forall_mem_cons.mpr ⟨hb_o277, List.forall_mem_cons.mpr ⟨hb_o278, List.forall_mem_cons.mpr ⟨hb_o279, fun _ h => absurd h List.not_mem_nil⟩⟩⟩⟩⟩⟩⟩⟩⟩⟩⟩⟩⟩⟩⟩⟩⟩⟩⟩⟩
theorem hb_p14 : ∀ M ∈ hb_P14, px_okM px_Ts px_Ns hb_cl hb_SL hb_P M := List.forall_mem_cons.mpr ⟨hb_o280, List.forall_mem_cons.mpr ⟨hb_o281, List.forall_mem_cons.mpr ⟨hb_o282, List.forall_mem_cons.mpr ⟨hb_o283, List.forall_mem_cons.mpr ⟨hb_o284, List.forall_mem_cons.mpr ⟨hb_o285, List.forall_mem_cons.mpr ⟨hb_o286, List.forall_mem_cons.mpr ⟨hb_o287, List.forall_mem_cons.mpr ⟨hb_o288, List.forall_mem_cons.mpr ⟨hb_o289, List.forall_mem_cons.mpr ⟨hb_o290, List.forall_mem_cons.mpr ⟨hb_o291, List.forall_mem_cons.mpr ⟨hb_o292, List.forall_mem_cons.mpr ⟨hb_o293, List.forall_mem_cons.mpr ⟨hb_o294, List.forall_mem_cons.mpr ⟨hb_o295, List.forall_mem_cons.mpr ⟨hb_o296, List.forall_mem_cons.mpr ⟨hb_o297, List.forall_mem_cons.mpr ⟨hb_o298, List.forall_mem_cons.mpr ⟨hb_o299, fun _ h => absurd h List.not_mem_nil⟩⟩⟩⟩⟩⟩⟩⟩⟩⟩⟩⟩⟩⟩⟩⟩⟩⟩⟩⟩
theorem hb_p15 : ∀ M ∈ hb_P15, px_okM px_Ts px_Ns hb_cl hb_SL hb_P M := List.forall_mem_cons.mpr ⟨hb_o300, List.forall_mem_cons.mpr ⟨hb_o301, fun _ h => absurd h List.not_mem_nil⟩⟩
theorem hb_pall : ∀ M ∈ hb_P, px_okM px_Ts px_Ns hb_cl hb_SL hb_P M := List.forall_mem_append.mpr ⟨hb_p0, List.forall_mem_append.mpr ⟨hb_p1, List.forall_mem_append.mpr ⟨hb_p2, List.forall_mem_append.mpr ⟨hb_p3, List.forall_mem_append.mpr ⟨hb_p4, List.forall_mem_append.mpr ⟨hb_p5, List.forall_mem_append.mpr ⟨hb_p6, List.forall_mem_append.mpr ⟨hb_p7, List.forall_mem_append.mpr ⟨hb_p8, List.forall_mem_append.mpr ⟨hb_p9, List.forall_mem_append.mpr ⟨hb_p10, List.forall_mem_append.mpr ⟨hb_p11, List.forall_mem_append.mpr ⟨hb_p12, List.forall_mem_append.mpr ⟨hb_p13, List.forall_mem_append.mpr ⟨hb_p14, hb_p15⟩⟩⟩⟩⟩⟩⟩⟩⟩⟩⟩⟩⟩⟩⟩
theorem hb_okP : px_okP px_Ts px_Ns hb_cl hb_SL hb_P := ⟨hb_clok, hb_pall, px_wd_in (k := 174) (by decide +kernel), px_wd_in (k := 562) (by decide +kernel), px_Ts_good, px_Ns_ok⟩
theorem hb_okL : (∀ q ∈ hb_m302.2.1, decode hb_m302.1.2.1 q.1 = .ok q.2) ∧ px_okL px_Ts px_Ns hb_cl hb_SL hb_P hb_m302.1.1.cls hb_m302.2.2 := ⟨hb_dL, px_bL_ok hb_l17⟩
end
section
/-! THE CLAIM OUT OF ONE WALK OF THE LAW'S BODY. Your part is whole_start (and what it stands on); all else here is the same for every law, but numbers. -/
def R_law : String := "HalfBoatsLaw"
def lw_P (b : Addr) (xs : List Int32) (args : Array Value) (s : State) : Prop := args = #[.ref b] ∧ s.IntsAt b xs ∧ xs.length ≤ 3072 ∧ (Jvm.Cond.and given_1 narrow_1).before args s = true
def lw_Q (_ : Array Value) (s : State) (o : Outcome) (t : State) : Prop := o = .returned (some (.int 1)) ∧ Framed s o t [] 600000 7302250
def lw_Z (below : List Frame) (a : Array Value) (s : State) : State → Prop := fun t => ∃ o, t.status = .running ∧ Ended t below o ∧ lw_Q a s o t
/-- the law's own end, with 1 on the stack, nothing written that was there before, its room as the claim has it -/
theorem lw_ret {p : Program} {l : Launch} {e : Env} {s : State} {m : MethodId} {below : List Frame} {meth : Method} {c : Code} {b : Nat} (hx : p.tables.exec = Jvm.exec) (hb : c.code = code) (hr : meth.sig.returnType = ret) (hlocks : meth.locks = false) {pc : Nat} {H : Heap} {ls : Array Slot} (hdg : decode code pc = .ok (.ireturn, 1)) : W p l e room_1 s m #[Value.ref b] below meth c H [] 600000 7302250 (lw_Z below #[Value.ref b] s) (F0 m pc ls [.int 1]) := by
  intro T hT X
  obtain ⟨fs, hret, hrun, hended, hW, hframe⟩ := X.leave (v := some (.int 1)) (hlocks := hlocks) (fun h => by rw [hr] at h; cases h)
  have hmeth' : T.vm.method? m = some meth := X.method'
  refine ⟨T.setFrames fs, ?_, .returned (some (.int 1)), hrun, hended, rfl, ⟨_, rfl⟩, hW, hframe⟩
  jvm_step X.here [X.here.top, hx, hb, hdg, hmeth', hr, ret, narrow_b1]
  (try refine ⟨rfl, ?_⟩); (try refine ⟨rfl, ?_⟩)
  first | (intro acts; rw [hret _ acts rfl rfl rfl]) | rw [hret _ _ rfl rfl rfl]
  exact Steps.refl _
/-- what holds at the law's entry: the machine, the code, the tables' words (any of lw_tbl by 'hts w (by decide +kernel)'), the script of L ints xs at the cell b, what the Statement gives of the start (any of its parts by flat_of_before) -/
def lw_At (p : Program) (s : State) (m : MethodId) (meth : Method) (c : Code) (b L : Nat) (xs : Nat → Int32) : Prop :=
  p.tables.exec = Jvm.exec ∧ c.code = code ∧ meth.sig.returnType = ret ∧ c.maxLocals = 4 ∧ s.vm.findClass R_law = some m.cls ∧ (∀ w ∈ lw_tbl, w.before #[Value.ref b] s = true) ∧ va_X b L xs s s.heap ∧ b < s.heap.size ∧ meth.locks = false ∧ (Jvm.Cond.and given_1 narrow_1).before #[Value.ref b] s = true
def hb_ne : List (Nat × Nat × Nat) := [(0, 1, 21), (0, 2, 29), (1, 2, 30), (0, 3, 38), (1, 3, 39), (2, 3, 40), (0, 4, 48), (1, 4, 49), (2, 4, 50), (3, 4, 51), (0, 5, 59), (1, 5, 60), (2, 5, 61), (3, 5, 62), (4, 5, 63), (0, 6, 71), (1, 6, 72), (2, 6, 73), (3, 6, 74), (4, 6, 75), (5, 6, 76), (0, 7, 85), (1, 7, 86), (2, 7, 87), (3, 7, 88), (4, 7, 89), (5, 7, 90), (6, 7, 91), (0, 8, 100), (1, 8, 101), (2, 8, 102), (3, 8, 103), (4, 8, 104), (5, 8, 105), (6, 8, 106), (7, 8, 107), (0, 9, 117), (1, 9, 118), (2, 9, 119), (3, 9, 120), (4, 9, 121), (5, 9, 122), (6, 9, 123), (7, 9, 124), (8, 9, 125), (0, 10, 135), (1, 10, 136), (2, 10, 137), (3, 10, 138), (4, 10, 139), (5, 10, 140), (6, 10, 141), (7, 10, 142), (8, 10, 143), (9, 10, 144), (0, 11, 154), (1, 11, 155), (2, 11, 156), (3, 11, 157), (4, 11, 158), (5, 11, 159), (6, 11, 160), (7, 11, 161), (8, 11, 162), (9, 11, 163), (10, 11, 164), (0, 12, 174), (1, 12, 175), (2, 12, 176), (3, 12, 177), (4, 12, 178), (5, 12, 179), (6, 12, 180), (7, 12, 181), (8, 12, 182), (9, 12, 183), (10, 12, 184), (11, 12, 185), (0, 13, 195), (1, 13, 196), (2, 13, 197), (3, 13, 198), (4, 13, 199), (5, 13, 200), (6, 13, 201), (7, 13, 202), (8, 13, 203), (9, 13, 204), (10, 13, 205), (11, 13, 206), (12, 13, 207), (0, 14, 218), (1, 14, 219), (2, 14, 220), (3, 14, 221), (4, 14, 222), (5, 14, 223), (6, 14, 224), (7, 14, 225), (8, 14, 226), (9, 14, 227), (10, 14, 228), (11, 14, 229), (12, 14, 230), (13, 14, 231), (0, 15, 244), (1, 15, 245), (2, 15, 246), (3, 15, 247), (4, 15, 248), (5, 15, 249), (6, 15, 250), (7, 15, 251), (8, 15, 252), (9, 15, 253), (10, 15, 254), (11, 15, 255), (12, 15, 256), (13, 15, 257), (14, 15, 258)]
def hb_tm (i : Nat) : Term := .string "HalfBoats$Reader" (hb_SL.getD i ("", 0, 0)).2.1
def hb_flat : List Cond := flatC (Jvm.Cond.and given_1 narrow_1)
def hb_vt (i : Nat) : Term := .field (hb_tm i) "java/lang/String" "value" "[B"
theorem hb_t1 : (List.range 16).all (fun i => decide (Cond.exactly (hb_tm i) "java/lang/String" ∈ hb_flat)) = true := by decide +kernel
theorem hb_t2 : (List.range 16).all (fun i => decide (Cond.eq (.field (hb_tm i) "java/lang/String" "coder" "B") (.int 0) ∈ hb_flat)) = true := by decide +kernel
theorem hb_t3 : (List.range 16).all (fun i => decide (Cond.arrayOf (hb_vt i) .byte ∈ hb_flat)) = true := by decide +kernel
theorem hb_t4 : (List.range 16).all (fun i => decide (Cond.eq (.length (hb_vt i)) (.int (Int32.ofNat ((hb_lt.map List.length).getD i 0))) ∈ hb_flat)) = true := by decide +kernel
theorem hb_t5 : (List.range 16).all (fun i => (List.range ((hb_lt.map List.length).getD i 0)).all (fun j => decide (Cond.eq (.elem (hb_vt i) (.int (Int32.ofNat j))) (.int ((hb_lt.getD i []).getD j 0)) ∈ hb_flat))) = true := by decide +kernel
theorem hb_t6a : (hb_ne.take 40).all (fun q => decide (hb_flat[q.2.2]? = some (Cond.not (Cond.eq (hb_tm q.1) (hb_tm q.2.1))))) = true := by decide +kernel
theorem hb_t6b : ((hb_ne.drop 40).take 40).all (fun q => decide (hb_flat[q.2.2]? = some (Cond.not (Cond.eq (hb_tm q.1) (hb_tm q.2.1))))) = true := by decide +kernel
theorem hb_t6c : (hb_ne.drop 80).all (fun q => decide (hb_flat[q.2.2]? = some (Cond.not (Cond.eq (hb_tm q.1) (hb_tm q.2.1))))) = true := by decide +kernel
theorem hb_t6d : (List.range 16).all (fun i => (List.range 16).all (fun j => i == j || hb_ne.any (fun q => (q.1 == i && q.2.1 == j) || (q.1 == j && q.2.1 == i)))) = true := by decide +kernel
theorem hb_t6 : ∀ q ∈ hb_ne, Cond.not (Cond.eq (hb_tm q.1) (hb_tm q.2.1)) ∈ hb_flat := by
  intro q hq
  have h : q ∈ hb_ne.take 40 ++ ((hb_ne.drop 40).take 40 ++ hb_ne.drop 80) := by
    rw [show hb_ne.drop 80 = (hb_ne.drop 40).drop 40 by rw [List.drop_drop], List.take_append_drop, List.take_append_drop]
    exact hq
  rcases List.mem_append.mp h with h | h
  · exact List.mem_of_getElem? (of_decide_eq_true (List.all_eq_true.mp hb_t6a q h))
  · rcases List.mem_append.mp h with h | h
    · exact List.mem_of_getElem? (of_decide_eq_true (List.all_eq_true.mp hb_t6b q h))
    · exact List.mem_of_getElem? (of_decide_eq_true (List.all_eq_true.mp hb_t6c q h))
theorem hb_t7 : (List.range 16).all (fun i => decide ((hb_lt.map List.length).getD i 0 < 2 ^ 31)) = true := by decide +kernel
theorem hb_t8 : hb_SL.all (fun q => decide (q.1 = "HalfBoats$Reader") && (decide (q.2.2 < 16) && decide (hb_SL.getD q.2.2 ("", 0, 0) = q))) = true := by decide +kernel
theorem hb_t9 : hb_SL.all (fun q => tables_1.any (fun w => match w with
  | .stringRef o k _ => decide (o = q.1) && decide (k = q.2.1)
  | _ => false)) = true := by decide +kernel
theorem hb_all {f : Nat → Bool} (h : (List.range 16).all f = true) {i : Nat} (hi : i < 16) : f i = true := List.all_eq_true.mp h i (List.mem_range.mpr hi)
theorem hb_start (hO : px_okP px_Ts px_Ns hb_cl hb_SL hb_P) (hDL : (∀ q ∈ hb_m302.2.1, decode hb_m302.1.2.1 q.1 = .ok q.2) ∧ px_okL px_Ts px_Ns hb_cl hb_SL hb_P hb_m302.1.1.cls hb_m302.2.2)
    (hp : ∀ xs : List Int32, xs.length ≤ 3072 → ∃ (n : Nat) (r : Option Value × px_W × (Nat × Nat)), px_exec hb_cl hb_lt hb_P n 40 (some xs) hb_m302 0 [(0, .ref 0)] [] [] (600000, 7302250) = some r ∧ r.1 = some (.int 1))
    {p : Program} {e : Env} {s : State} {m : MethodId} {below : List Frame} {meth : Method} {c : Code} (l : Launch) {b L : Nat} {xs : Nat → Int32} (hL : L ≤ 3072) (C0 : lw_At p s m meth c b L xs) : W p l e room_1 s m #[Value.ref b] below meth c s.heap [] 0 0 (lw_Z below #[Value.ref b] s) (entryFrame m ([Value.ref b] : List Value).toArray 4) := by
  obtain ⟨hx, hb, hr, hml, hown, hts, hX, hbl, hlk, hgv⟩ := C0
  have hfl := flat_of_before _ hgv
  have htT : ∀ w ∈ px_Ts, w.before #[Value.ref b] s = true := fun w hw => hts w (List.mem_filter.mp hw).1
  have htt : ∀ w ∈ tables_1, w.before #[Value.ref b] s = true := fun w hw => hts w (List.mem_append_right _ hw)
  -- the made kinds
  have hD0 : ∀ ci : Nat, ∃ q : ClassId × (Nat → Nat), ∀ r : vw_C, hb_cl[ci]? = some r → u_Kn s r.1 r.2.1 r.2.2 q.1 q.2 := by
    intro ci
    cases hc : hb_cl[ci]? with
    | none => exact ⟨(0, fun _ => 0), fun r h => by cases h⟩
    | some r =>
      obtain ⟨h1, -, -, h4, -⟩ := hO.1 r (List.mem_of_getElem? hc)
      obtain ⟨cC, iS, hk⟩ := u_known htT h1 (htT _ h4)
      exact ⟨(cC, iS), fun r' h => by cases h; exact hk⟩
  obtain ⟨dd, hdd⟩ := Classical.axiomOfChoice hD0
  obtain ⟨cI, kI, compI, i1, i2, i3⟩ := Cond.arrayClass_spec (htT _ hO.2.2.1)
  obtain ⟨cJ, kJ, compJ, j1, j2, j3⟩ := Cond.arrayClass_spec (htT _ hO.2.2.2.1)
  have hK : va_K (fun i => (dd i).1, fun i => (dd i).2) hb_cl [(cI, .int), (cJ, .long)] s := by
    refine ⟨fun ci q hq => hdd ci q hq, fun k q hk => ?_⟩
    match k, hk with
    | 0, hk => cases hk; exact ⟨fun n z => ⟨fun k h => (by cases h), kI, i2, compI, i3⟩, i1⟩
    | 1, hk => cases hk; exact ⟨fun n z => ⟨fun k h => (by cases h), kJ, j2, compJ, j3⟩, j1⟩
    | k + 2, hk => simp at hk
  have hNs : ∀ x ∈ px_Ns, va_Nw x s := fun x hx => by
    obtain ⟨a, i, y, h, rfl⟩ := px_Ns_ok x hx
    exact va_Nw.of rfl (htt _ (List.mem_filter.mp hx).1)
  -- texts
  have hA : ∀ a : Nat, a < s.heap.size → ¬ s.heap.size ≤ a := fun a h z => absurd h (Nat.not_lt.mpr z)
  obtain ⟨adK, adV, hS, hev⟩ := vk_Sof (args := #[Value.ref b]) (s := s) (N := 16) (tm := hb_tm) (len := hb_lt.map List.length) (byt := hb_lt) (A := fun q => s.heap.size ≤ q)
    (fun i hi => of_decide_eq_true (hb_all hb_t7 hi)) (fun i hi => hfl _ (of_decide_eq_true (hb_all hb_t1 hi))) (fun i hi => hfl _ (of_decide_eq_true (hb_all hb_t2 hi))) (fun i hi => hfl _ (of_decide_eq_true (hb_all hb_t3 hi))) (fun i hi => hfl _ (of_decide_eq_true (hb_all hb_t4 hi)))
    (fun i hi j hj => hfl _ (of_decide_eq_true (List.all_eq_true.mp (hb_all hb_t5 hi) j (List.mem_range.mpr hj))))
    (fun i j hi hj hij => by
      have h1 := List.all_eq_true.mp (hb_all hb_t6d hi) j (List.mem_range.mpr hj)
      simp only [Bool.or_eq_true, beq_iff_eq] at h1
      rcases h1 with h1 | h1
      · exact absurd h1 hij
      · obtain ⟨q, hq, h2⟩ := List.any_eq_true.mp h1
        simp only [Bool.or_eq_true, Bool.and_eq_true, beq_iff_eq] at h2
        have h3 := hfl _ (hb_t6 q hq)
        rcases h2 with h2 | h2
        · rw [h2.1, h2.2] at h3
          exact Or.inl h3
        · rw [h2.1, h2.2] at h3
          exact Or.inr h3) hA
  obtain ⟨fv, hf1, hf2⟩ := Cond.isRef_spec (hfl (Cond.isRef (.static "jdk/internal/util/Preconditions" "SIOOBE_FORMATTER" "Ljava/util/function/BiFunction;")) (by decide +kernel))
  have hfm : ∃ fm : Option Nat, fv = va_rf fm := by
    cases fv with
    | null => exact ⟨none, rfl⟩
    | ref a => exact ⟨some a, rfl⟩
    | _ => simp [Value.isRef] at hf2
  obtain ⟨fm, rfl⟩ := hfm
  have hZ1 := va_Zof (args := #[Value.ref b]) (s := s) (A := fun q => s.heap.size ≤ q) (htt (.laysStatic "java/lang/String" "COMPACT_STRINGS" "Z") (by decide +kernel)) (htt (.initialized "java/lang/String") (by decide +kernel)) (va_eqi (hfl (Cond.eq (.static "java/lang/String" "COMPACT_STRINGS" "Z") (.int 1)) (by decide +kernel))) hA
  have hZ2 := va_Zof (args := #[Value.ref b]) (s := s) (A := fun q => s.heap.size ≤ q) (htt (.laysStatic "jdk/internal/util/Preconditions" "SIOOBE_FORMATTER" "Ljava/util/function/BiFunction;") (by decide +kernel)) (htt (.initialized "jdk/internal/util/Preconditions") (by decide +kernel)) hf1 hA
  -- where the pure references lie
  let ad : Nat → Option Nat := fun k => if k = 0 then some b else if k ≤ 16 then some (adK (k - 1)) else if k ≤ 32 then some (adV (k - 17)) else if k = 33 then fm else some (s.heap.size + (k - 64))
  have had : ∀ k, ad (64 + k) = some (s.heap.size + k) := fun k => by
    show (if 64 + k = 0 then some b else if 64 + k ≤ 16 then _ else if 64 + k ≤ 32 then _ else if 64 + k = 33 then _ else _) = _
    rw [if_neg (by omega), if_neg (by omega), if_neg (by omega), if_neg (by omega), show 64 + k - 64 = k by omega]
  have hXX : px_X hb_lt hb_SL ad s.heap.size s s.heap := by
    refine ⟨adK, adV, fun j hj => ⟨?_, ?_⟩, hS, fun q hq => ?_, hZ1, hZ2⟩
    · show (if 1 + j = 0 then some b else if 1 + j ≤ 16 then some (adK (1 + j - 1)) else _) = _
      rw [if_neg (by omega), if_pos (by omega), show 1 + j - 1 = j by omega]
    · show (if 17 + j = 0 then some b else if 17 + j ≤ 16 then _ else if 17 + j ≤ 32 then some (adV (17 + j - 17)) else _) = _
      rw [if_neg (by omega), if_neg (by omega), if_pos (by omega), show 17 + j - 17 = j by omega]
    · have h8 := List.all_eq_true.mp hb_t8 q hq
      have h9 := List.all_eq_true.mp hb_t9 q hq
      simp only [Bool.and_eq_true, decide_eq_true_eq] at h8
      obtain ⟨w, hw, hw2⟩ := List.any_eq_true.mp h9
      refine ⟨h8.2.1, ?_⟩
      split at hw2
      · rename_i o k tx
        simp only [Bool.and_eq_true, decide_eq_true_eq] at hw2
        obtain ⟨e1, e2⟩ := hw2
        subst e1; subst e2
        have h10 := hev q.2.2 h8.2.1
        refine ⟨tx, vk_R.of (htt _ hw) ?_⟩
        unfold hb_tm at h10
        rw [h8.2.2] at h10
        rw [h8.1]
        exact h10
      · cases hw2
  -- the script
  obtain ⟨n, r, hex, hr1⟩ := hp ((List.range L).map xs) (by rw [List.length_map, List.length_range]; exact hL)
  have hxl : ((List.range L).map xs).length = L := by rw [List.length_map, List.length_range]
  have hX2 : va_X b ((List.range L).map xs).length (fun j => ((List.range L).map xs).getD j 0) s s.heap := by
    obtain ⟨scr, g1, g2, g3, g4, g5⟩ := hX
    refine ⟨scr, g1, g2, g3, by rw [hxl]; exact g4, fun j hj => ?_⟩
    rw [hxl] at hj
    rw [g5 j hj]
    simp [hj]
  have hmo := px_mono _ _ _ _ _ _ _ _ _ _ hex
  have hl := lv_entry (([.ref 0] : List Value).map (px_tr ad)) (n := 4) (by rw [px_sl_tr]; decide)
  rw [px_args_tr] at hl
  have e0 : (([.ref 0] : List Value).map (px_tr ad)) = [Value.ref b] := rfl
  rw [← e0, lg_entry_eq]
  refine px_sim hO n 40 (some ((List.range L).map xs)) hb_m302 0 [(0, .ref 0)] [] [] (600000, 7302250) r hex hDL (fun i => (dd i).1, fun i => (dd i).2) cI cJ s.heap.size ad p l e room_1 s m _ below meth c s.heap [] 0 0 _ _ had ⟨hx, hb, hml, hr, hlk, fun z => absurd z (by decide), hown, htT, hK, hNs⟩ hl ⟨rfl, fun k x hk => by simp at hk⟩ (fun _ _ => rfl) (fun _ z => by cases z) (by decide) (by decide) (by show 0 + (600000 - _) ≤ 600000; omega) (by show 0 + (7302250 - _) ≤ 7302250; omega) (fun ys hys => by cases hys; exact ⟨b, rfl, hX2, hbl⟩) hXX ?_
  intro H1 ls1 pc1 i1' len1 locs1 cells1 slots1 a1 a2 a3 a4 a5 a6 a7
  rw [hr1] at a5 ⊢
  have hi : i1' = .ireturn ∧ len1 = 1 := by
    unfold px_s5 at a5
    split at a5
    · split at a5
      · split at a5
        · rename_i hc
          rename_i x _ _ _ hst
          exact ⟨rfl, hc.1⟩
        · cases a5
      · cases a5
    · split at a5
      · cases a5
      · cases a5
    · split at a5
      · cases a5
      · cases a5
    · cases a5
  obtain ⟨rfl, rfl⟩ := hi
  refine va_forget (fun q hq => a3 q hq) (W.widen (k := 600000) (n := 7302250) (by omega) (by omega) ?_)
  exact lw_ret hx hb hr hlk a4
end
section
/-! PURE RUNS WITH THE FRAMES THAT WAIT -/
theorem px_exec_succ (cl : List vw_C) (lt : List (List Int32)) (P : List px_M) (n d : Nat) (scr : Option (List Int32)) (M : px_M) (pc : Nat) (lv : List (Nat × Value)) (st : List Value) (w : px_W) (b : Nat × Nat) : px_exec cl lt P (n + 1) d scr M pc lv st w b = (match px_step cl lt P d scr M pc lv st w with
    | none => none
    | some (.inl z) => if z.2.2.2.2.1 ≤ b.1 ∧ z.2.2.2.2.2 ≤ b.2 then px_exec cl lt P n d scr M z.1 z.2.1 z.2.2.1 z.2.2.2.1 (b.1 - z.2.2.2.2.1, b.2 - z.2.2.2.2.2) else none
    | some (.inr (.inl v)) => some (v, w, b)
    | some (.inr (.inr q)) => match d, P[q.1]? with
      | d' + 1, some M' => if (lg_sl q.2.1).length ≤ M'.1.2.2.1 then (match px_exec cl lt P n d' none M' 0 (lv_args 0 q.2.1) [] w b with
        | none => none
        | some r => px_exec cl lt P n d scr M (pc + 3) lv (r.1.toList ++ q.2.2) r.2.1 r.2.2) else none
      | _, _ => none) := rfl
theorem px_more1 {cl : List vw_C} {lt : List (List Int32)} {P : List px_M} : ∀ (n d : Nat) (scr : Option (List Int32)) (M : px_M) (pc : Nat) (lv : List (Nat × Value)) (st : List Value) (w : px_W) (b : Nat × Nat) (r : Option Value × px_W × (Nat × Nat)), px_exec cl lt P n d scr M pc lv st w b = some r → px_exec cl lt P (n + 1) d scr M pc lv st w b = some r
  | 0, _, _, _, _, _, _, _, _, _, h => by simp [px_exec] at h
  | n + 1, d, scr, M, pc, lv, st, w, b, r, h => by
    rw [px_exec_succ] at h ⊢
    cases hs : px_step cl lt P d scr M pc lv st w with
    | none => rw [hs] at h; cases h
    | some z =>
      rw [hs] at h
      match z with
      | .inl z =>
        simp only at h ⊢
        split at h
        · rename_i hb
          rw [if_pos hb]
          exact px_more1 n _ _ _ _ _ _ _ _ _ h
        · cases h
      | .inr (.inl v) => exact h
      | .inr (.inr q) =>
        simp only at h ⊢
        split at h
        · rename_i d' M' hM'
          split at h
          · rename_i hf
            rw [if_pos hf]
            split at h
            · cases h
            · rename_i r2 hr2
              rw [px_more1 n _ _ _ _ _ _ _ _ _ hr2]
              exact px_more1 n _ _ _ _ _ _ _ _ _ h
          · cases h
        · cases h
theorem px_more {cl : List vw_C} {lt : List (List Int32)} {P : List px_M} {n k d : Nat} {scr : Option (List Int32)} {M : px_M} {pc : Nat} {lv : List (Nat × Value)} {st : List Value} {w : px_W} {b : Nat × Nat} {r : Option Value × px_W × (Nat × Nat)} (h : px_exec cl lt P n d scr M pc lv st w b = some r) (hk : n ≤ k) : px_exec cl lt P k d scr M pc lv st w b = some r := by
  induction k with
  | zero =>
    have : n = 0 := by omega
    subst this
    exact h
  | succ k ih =>
    rcases Nat.lt_or_ge k n with q | q
    · have : n = k + 1 := by omega
      subst this
      exact h
    · exact px_more1 _ _ _ _ _ _ _ _ _ _ (ih q)
abbrev pf_F : Type := px_M × Nat × List (Nat × Value) × List Value
/-- the method that runs, and then those that wait, come to their ends, with K -/
def pf_Fin (cl : List vw_C) (lt : List (List Int32)) (P : List px_M) (scr : Option (List Int32)) (b : Nat × Nat) (K : Option Value → px_W → Prop) : List pf_F → Nat → px_M → Nat → List (Nat × Value) → List Value → px_W → Prop
  | [], d, M, pc, lv, st, w => ∃ (n : Nat) (v : Option Value) (w' : px_W), px_exec cl lt P n d scr M pc lv st w b = some (v, w', b) ∧ K v w'
  | f :: fs, d, M, pc, lv, st, w => ∃ (n : Nat) (v : Option Value) (w' : px_W), px_exec cl lt P n d none M pc lv st w b = some (v, w', b) ∧ pf_Fin cl lt P scr b K fs (d + 1) f.1 f.2.1 f.2.2.1 (v.toList ++ f.2.2.2) w'
def pf_scr (scr : Option (List Int32)) (fs : List pf_F) : Option (List Int32) := match fs with
  | [] => scr
  | _ :: _ => none
section PF
variable {cl : List vw_C} {lt : List (List Int32)} {P : List px_M} {scr : Option (List Int32)} {b : Nat × Nat} {K : Option Value → px_W → Prop} {fs : List pf_F} {d : Nat} {M : px_M} {pc : Nat} {lv : List (Nat × Value)} {st : List Value} {w : px_W}
theorem pf_next {pc' : Nat} {lv' : List (Nat × Value)} {st' : List Value} {w' : px_W} (hs : px_step cl lt P d (pf_scr scr fs) M pc lv st w = some (.inl (pc', lv', st', w', 0, 0))) (h : pf_Fin cl lt P scr b K fs d M pc' lv' st' w') : pf_Fin cl lt P scr b K fs d M pc lv st w := by
  cases fs with
  | nil =>
    obtain ⟨n, v, w2, h1, h2⟩ := h
    refine ⟨n + 1, v, w2, ?_, h2⟩
    rw [px_exec_succ]
    have hs' : px_step cl lt P d scr M pc lv st w = some (.inl (pc', lv', st', w', 0, 0)) := hs
    rw [hs']
    simp only [Nat.zero_le, and_self, if_true, Nat.sub_zero]
    exact h1
  | cons f fs =>
    obtain ⟨n, v, w2, h1, h2⟩ := h
    refine ⟨n + 1, v, w2, ?_, h2⟩
    rw [px_exec_succ]
    have hs' : px_step cl lt P d none M pc lv st w = some (.inl (pc', lv', st', w', 0, 0)) := hs
    rw [hs']
    simp only [Nat.zero_le, and_self, if_true, Nat.sub_zero]
    exact h1
theorem pf_end {v : Option Value} (hs : px_step cl lt P d scr M pc lv st w = some (.inr (.inl v))) (h : K v w) : pf_Fin cl lt P scr b K [] d M pc lv st w := by
  refine ⟨1, v, w, ?_, h⟩
  rw [px_exec_succ, hs]
theorem pf_back {f : pf_F} {v : Option Value} (hs : px_step cl lt P d none M pc lv st w = some (.inr (.inl v))) (h : pf_Fin cl lt P scr b K fs (d + 1) f.1 f.2.1 f.2.2.1 (v.toList ++ f.2.2.2) w) : pf_Fin cl lt P scr b K (f :: fs) d M pc lv st w := by
  refine ⟨1, v, w, ?_, h⟩
  rw [px_exec_succ, hs]
theorem pf_met {q : Nat × List Value × List Value} {M' : px_M} {n : Nat} {v : Option Value} {w1 : px_W} (hs : px_step cl lt P (d + 1) (pf_scr scr fs) M pc lv st w = some (.inr (.inr q))) (hM : P[q.1]? = some M') (hf : (lg_sl q.2.1).length ≤ M'.1.2.2.1) (hx : px_exec cl lt P n d none M' 0 (lv_args 0 q.2.1) [] w b = some (v, w1, b)) (h : pf_Fin cl lt P scr b K fs (d + 1) M (pc + 3) lv (v.toList ++ q.2.2) w1) : pf_Fin cl lt P scr b K fs (d + 1) M pc lv st w := by
  cases fs with
  | nil =>
    obtain ⟨n2, v2, w2, h1, h2⟩ := h
    refine ⟨max n n2 + 1, v2, w2, ?_, h2⟩
    rw [px_exec_succ]
    have hs' : px_step cl lt P (d + 1) scr M pc lv st w = some (.inr (.inr q)) := hs
    rw [hs']
    simp only [hM]
    rw [if_pos hf, px_more hx (Nat.le_max_left n n2)]
    exact px_more h1 (Nat.le_max_right n n2)
  | cons f fs =>
    obtain ⟨n2, v2, w2, h1, h2⟩ := h
    refine ⟨max n n2 + 1, v2, w2, ?_, h2⟩
    rw [px_exec_succ]
    have hs' : px_step cl lt P (d + 1) none M pc lv st w = some (.inr (.inr q)) := hs
    rw [hs']
    simp only [hM]
    rw [if_pos hf, px_more hx (Nat.le_max_left n n2)]
    exact px_more h1 (Nat.le_max_right n n2)
theorem pf_call {q : Nat × List Value × List Value} {M' : px_M} (hs : px_step cl lt P (d + 1) (pf_scr scr fs) M pc lv st w = some (.inr (.inr q))) (hM : P[q.1]? = some M') (hf : (lg_sl q.2.1).length ≤ M'.1.2.2.1) (h : pf_Fin cl lt P scr b K ((M, pc + 3, lv, q.2.2) :: fs) d M' 0 (lv_args 0 q.2.1) [] w) : pf_Fin cl lt P scr b K fs (d + 1) M pc lv st w := by
  obtain ⟨n, v, w1, h1, h2⟩ := h
  exact pf_met hs hM hf h1 h2
end PF
end
section
/-! LINEAR FORMS OVER SYMBOLS -/
abbrev sy_L : Type := Int × List (Nat × Int)
def sy_s (ρ : Nat → Int) : List (Nat × Int) → Int
  | [] => 0
  | t :: r => t.2 * ρ t.1 + sy_s ρ r
def sy_e (ρ : Nat → Int) (e : sy_L) : Int := e.1 + sy_s ρ e.2
def sy_ins (i : Nat) (c : Int) : List (Nat × Int) → List (Nat × Int)
  | [] => if c = 0 then [] else [(i, c)]
  | t :: r => if i < t.1 then (if c = 0 then t :: r else (i, c) :: t :: r) else if i = t.1 then (if c + t.2 = 0 then r else (i, c + t.2) :: r) else t :: sy_ins i c r
theorem sy_ins_e (ρ : Nat → Int) (i : Nat) (c : Int) : ∀ l : List (Nat × Int), sy_s ρ (sy_ins i c l) = c * ρ i + sy_s ρ l
  | [] => by
    unfold sy_ins
    split
    · rename_i h; subst h; simp [sy_s]
    · simp [sy_s]
  | t :: r => by
    unfold sy_ins
    split
    · split
      · rename_i h; subst h; simp [sy_s]
      · simp [sy_s]
    · split
      · rename_i h
        split
        · rename_i h2
          show sy_s ρ r = c * ρ i + (t.2 * ρ t.1 + sy_s ρ r)
          rw [← h]
          have : (c + t.2) * ρ i = 0 := by rw [h2]; simp
          rw [Int.add_mul] at this
          omega
        · show (c + t.2) * ρ i + sy_s ρ r = c * ρ i + (t.2 * ρ t.1 + sy_s ρ r)
          rw [← h, Int.add_mul]
          omega
      · show t.2 * ρ t.1 + sy_s ρ (sy_ins i c r) = c * ρ i + (t.2 * ρ t.1 + sy_s ρ r)
        rw [sy_ins_e ρ i c r]
        omega
def sy_addl : List (Nat × Int) → List (Nat × Int) → List (Nat × Int)
  | [], b => b
  | t :: r, b => sy_ins t.1 t.2 (sy_addl r b)
theorem sy_addl_e (ρ : Nat → Int) : ∀ a b : List (Nat × Int), sy_s ρ (sy_addl a b) = sy_s ρ a + sy_s ρ b
  | [], b => by simp [sy_addl, sy_s]
  | t :: r, b => by
    show sy_s ρ (sy_ins t.1 t.2 (sy_addl r b)) = t.2 * ρ t.1 + sy_s ρ r + sy_s ρ b
    rw [sy_ins_e, sy_addl_e ρ r b]
    omega
def sy_add (a b : sy_L) : sy_L := (a.1 + b.1, sy_addl a.2 b.2)
theorem sy_add_e (ρ : Nat → Int) (a b : sy_L) : sy_e ρ (sy_add a b) = sy_e ρ a + sy_e ρ b := by
  unfold sy_e sy_add
  simp only [sy_addl_e]
  omega
def sy_scl (k : Int) (a : sy_L) : sy_L := if k = 0 then (0, []) else (k * a.1, a.2.map (fun t => (t.1, k * t.2)))
theorem sy_scl_s (ρ : Nat → Int) (k : Int) : ∀ l : List (Nat × Int), sy_s ρ (l.map (fun t => (t.1, k * t.2))) = k * sy_s ρ l
  | [] => by simp [sy_s]
  | t :: r => by
    show k * t.2 * ρ t.1 + sy_s ρ (r.map (fun t => (t.1, k * t.2))) = k * (t.2 * ρ t.1 + sy_s ρ r)
    rw [sy_scl_s ρ k r, Int.mul_add, Int.mul_assoc]
theorem sy_scl_e (ρ : Nat → Int) (k : Int) (a : sy_L) : sy_e ρ (sy_scl k a) = k * sy_e ρ a := by
  unfold sy_scl
  split
  · rename_i h; subst h; simp [sy_e, sy_s]
  · show k * a.1 + sy_s ρ (a.2.map (fun t => (t.1, k * t.2))) = k * (a.1 + sy_s ρ a.2)
    rw [sy_scl_s, Int.mul_add]
def sy_sub (a b : sy_L) : sy_L := sy_add a (sy_scl (-1) b)
theorem sy_sub_e (ρ : Nat → Int) (a b : sy_L) : sy_e ρ (sy_sub a b) = sy_e ρ a - sy_e ρ b := by
  unfold sy_sub
  rw [sy_add_e, sy_scl_e]
  omega
def sy_c (k : Int) : sy_L := (k, [])
theorem sy_c_e (ρ : Nat → Int) (k : Int) : sy_e ρ (sy_c k) = k := by simp [sy_e, sy_c, sy_s]
def sy_x (i : Nat) : sy_L := (0, [(i, 1)])
theorem sy_x_e (ρ : Nat → Int) (i : Nat) : sy_e ρ (sy_x i) = ρ i := by simp [sy_e, sy_x, sy_s]
/-! ranges -/
abbrev sy_T : Type := List (Int × Int)
def sy_ok (ρ : Nat → Int) (R : sy_T) : Prop := ∀ (i : Nat) (q : Int × Int), R[i]? = some q → q.1 ≤ ρ i ∧ ρ i ≤ q.2
def sy_los (R : sy_T) : List (Nat × Int) → Option Int
  | [] => some 0
  | t :: r => match R[t.1]?, sy_los R r with
    | some q, some z => some ((if 0 ≤ t.2 then t.2 * q.1 else t.2 * q.2) + z)
    | _, _ => none
theorem sy_los_e {ρ : Nat → Int} {R : sy_T} (h : sy_ok ρ R) : ∀ (l : List (Nat × Int)) (z : Int), sy_los R l = some z → z ≤ sy_s ρ l
  | [], z, hz => by
    simp only [sy_los, Option.some.injEq] at hz
    subst hz
    exact Int.le_refl _
  | t :: r, z, hz => by
    unfold sy_los at hz
    split at hz
    · rename_i q y hq hy
      cases hz
      have h1 := h _ _ hq
      have h2 := sy_los_e h r y hy
      show _ ≤ t.2 * ρ t.1 + sy_s ρ r
      split
      · rename_i h0
        have h3 : t.2 * q.1 ≤ t.2 * ρ t.1 := Int.mul_le_mul_of_nonneg_left h1.1 h0
        omega
      · rename_i h0
        have h3 : t.2 * q.2 ≤ t.2 * ρ t.1 := Int.mul_le_mul_of_nonpos_left (by omega) h1.2
        omega
    · cases hz
def sy_lo (R : sy_T) (e : sy_L) : Option Int := (sy_los R e.2).map (fun z => e.1 + z)
theorem sy_lo_e {ρ : Nat → Int} {R : sy_T} (h : sy_ok ρ R) {e : sy_L} {z : Int} (hz : sy_lo R e = some z) : z ≤ sy_e ρ e := by
  obtain ⟨y, hy, rfl⟩ := Option.map_eq_some_iff.mp hz
  have := sy_los_e h _ _ hy
  unfold sy_e
  omega
def sy_hi (R : sy_T) (e : sy_L) : Option Int := (sy_lo R (sy_scl (-1) e)).map (fun z => -z)
theorem sy_hi_e {ρ : Nat → Int} {R : sy_T} (h : sy_ok ρ R) {e : sy_L} {z : Int} (hz : sy_hi R e = some z) : sy_e ρ e ≤ z := by
  obtain ⟨y, hy, rfl⟩ := Option.map_eq_some_iff.mp hz
  have := sy_lo_e h hy
  rw [sy_scl_e] at this
  omega
/-- both bounds -/
def sy_b (R : sy_T) (e : sy_L) : Option (Int × Int) := match sy_lo R e, sy_hi R e with
  | some a, some b => some (a, b)
  | _, _ => none
theorem sy_b_e {ρ : Nat → Int} {R : sy_T} (h : sy_ok ρ R) {e : sy_L} {q : Int × Int} (hz : sy_b R e = some q) : q.1 ≤ sy_e ρ e ∧ sy_e ρ e ≤ q.2 := by
  unfold sy_b at hz
  split at hz
  · rename_i a b ha hb
    cases hz
    exact ⟨sy_lo_e h ha, sy_hi_e h hb⟩
  · cases hz
/-- is e at least 0, by ranges, or by some of the constraints -/
def sy_shr (a b : List (Nat × Int)) : Bool := a.any (fun s => b.any (fun t => s.1 == t.1 && decide (0 < s.2 * t.2)))
def sy_l0 (R : sy_T) (e : sy_L) : Bool := match sy_lo R e with
  | some z => decide (0 ≤ z)
  | none => false
def sy_ps (R : sy_T) (cs : List sy_L) : Nat → sy_L → Bool
  | 0, e => sy_l0 R e
  | n + 1, e => sy_l0 R e || cs.any (fun c => sy_shr e.2 c.2 && sy_ps R cs n (sy_sub e c))
def sy_pos (R : sy_T) (cs : List sy_L) (e : sy_L) : Bool := sy_ps R cs 5 e || (!cs.isEmpty && sy_ps R cs 5 (sy_add (sy_add e e) (sy_c 1)))
def sy_cok (ρ : Nat → Int) (cs : List sy_L) : Prop := ∀ c ∈ cs, 0 ≤ sy_e ρ c
theorem sy_l0_e {ρ : Nat → Int} {R : sy_T} (h : sy_ok ρ R) {e : sy_L} (hp : sy_l0 R e = true) : 0 ≤ sy_e ρ e := by
  unfold sy_l0 at hp
  split at hp
  · rename_i z hz
    exact Int.le_trans (of_decide_eq_true hp) (sy_lo_e h hz)
  · cases hp
theorem sy_ps_e {ρ : Nat → Int} {R : sy_T} {cs : List sy_L} (h : sy_ok ρ R) (hc : sy_cok ρ cs) : ∀ (n : Nat) {e : sy_L}, sy_ps R cs n e = true → 0 ≤ sy_e ρ e
  | 0, e, hp => sy_l0_e h hp
  | n + 1, e, hp => by
    unfold sy_ps at hp
    rw [Bool.or_eq_true] at hp
    rcases hp with hp | hp
    · exact sy_l0_e h hp
    · obtain ⟨c, h1, h2⟩ := List.any_eq_true.mp hp
      rw [Bool.and_eq_true] at h2
      have h3 := sy_ps_e h hc n h2.2
      rw [sy_sub_e] at h3
      have := hc c h1
      omega
theorem sy_pos_e {ρ : Nat → Int} {R : sy_T} {cs : List sy_L} (h : sy_ok ρ R) (hc : sy_cok ρ cs) {e : sy_L} (hp : sy_pos R cs e = true) : 0 ≤ sy_e ρ e := by
  unfold sy_pos at hp
  rw [Bool.or_eq_true, Bool.and_eq_true] at hp
  rcases hp with hp | hp
  · exact sy_ps_e h hc 5 hp
  · have := sy_ps_e h hc 5 hp.2
    rw [sy_add_e, sy_add_e, sy_c_e] at this
    omega
/-! values -/
abbrev sy_A : Type := sy_L ⊕ (Nat ⊕ Nat)
def sy_v (ρ : Nat → Int) (τ : Nat → Int64) (a : sy_A) : Value := match a with
  | .inl e => .int (Int32.ofInt (sy_e ρ e))
  | .inr (.inl k) => .ref k
  | .inr (.inr s) => .long (τ s)
theorem sy_v_i (ρ : Nat → Int) (τ : Nat → Int64) (e : sy_L) : sy_v ρ τ (.inl e) = .int (Int32.ofInt (sy_e ρ e)) := rfl
/-- a form's value as an int of the machine, where its range fits -/
def sy_fit (q : Int × Int) : Bool := decide (-2147483648 ≤ q.1) && decide (q.2 ≤ 2147483647)
theorem sy_fit_e {z : Int} {q : Int × Int} (hf : sy_fit q = true) (h1 : q.1 ≤ z) (h2 : z ≤ q.2) : (Int32.ofInt z).toInt = z := by
  unfold sy_fit at hf
  simp only [Bool.and_eq_true, decide_eq_true_eq] at hf
  exact Int32.toInt_ofInt_of_le (by omega) (by omega)
theorem sy_int_bounds (x : Int32) : -2147483648 ≤ x.toInt ∧ x.toInt ≤ 2147483647 := by
  have h1 := Int32.toInt_lt x
  have h2 := Int32.le_toInt x
  omega
end
section
/-! SYMBOLIC STATES -/
abbrev sy_Sg : Type := List (Nat × Nat × List (Int × Int))
/-- what a cell is: ints (length, ranges by stretches: from, to, by turns), longs (length), an object (kind, a range or a reference for each field) -/
abbrev sy_Ce : Type := (Nat × sy_Sg) ⊕ (Nat ⊕ (Nat × List ((Int × Int) ⊕ Nat)))
def sy_full : Int × Int := (-2147483648, 2147483647)
def sy_seg : sy_Sg → Nat → Int × Int
  | [], _ => sy_full
  | g :: r, i => if g.1 ≤ i ∧ i < g.2.1 then g.2.2.getD ((i - g.1) % g.2.2.length) sy_full else sy_seg r i
def sy_in (q : Int × Int) (x : Int32) : Prop := q.1 ≤ x.toInt ∧ x.toInt ≤ q.2
def sy_ce (a : sy_Ce) (c : px_E) : Prop := match a, c with
  | .inl (n, sg), .inl l => l.length = n ∧ ∀ (i : Nat) (x : Int32), l[i]? = some x → sy_in (sy_seg sg i) x
  | .inr (.inl n), .inr (.inl l) => l.length = n
  | .inr (.inr (k, sl)), .inr (.inr o) => o.1 = k ∧ o.2.length = sl.length ∧ (∀ (i : Nat) (r : Int × Int), sl[i]? = some (.inl r) → ∃ x, o.2[i]? = some (.int x) ∧ sy_in r x) ∧ ∀ (i a : Nat), sl[i]? = some (.inr a) → o.2[i]? = some (.ref a)
  | _, _ => False
def sy_W (A : List sy_Ce) (w : px_W) : Prop := w.length = A.length ∧ ∀ (k : Nat) (a : sy_Ce), A[k]? = some a → ∃ c, w[k]? = some c ∧ sy_ce a c
/-- tables that stand in no cell: what an instruction gives of a number and a constant -/
def sy_px (k i : Nat) : Option Value := match k / 8589934592 with
  | 1 => (px_bin .ishr (Int32.ofInt ((i : Int) - 2147483648)) (Int32.ofInt ((k % 8589934592 : Nat) - 2147483648))).map Value.int
  | 2 => (px_bin .iand (Int32.ofInt ((i : Int) - 2147483648)) (Int32.ofInt ((k % 8589934592 : Nat) - 2147483648))).map Value.int
  | 3 => (px_bin .iushr (Int32.ofInt ((i : Int) - 2147483648)) (Int32.ofInt ((k % 8589934592 : Nat) - 2147483648))).map Value.int
  | _ => none
def sy_get (w : px_W) (k i : Nat) : Option Value := match w[k]? with
  | some (.inl l) => (l[i]?).map Value.int
  | some (.inr (.inl l)) => (l[i]?).map Value.long
  | some (.inr (.inr o)) => o.2[i]?
  | none => sy_px k i
abbrev sy_Fa : Type := Nat × sy_L × sy_A
def sy_fok (ρ : Nat → Int) (τ : Nat → Int64) (w : px_W) (F : List sy_Fa) : Prop := ∀ f ∈ F, 0 ≤ sy_e ρ f.2.1 ∧ sy_get w f.1 (sy_e ρ f.2.1).toNat = some (sy_v ρ τ f.2.2)
/-- places that may be written: cell, from, to -/
abbrev sy_Wr : Type := List (Nat × Nat × Nat)
def sy_may (Wr : sy_Wr) (k i : Nat) : Bool := Wr.any (fun q => decide (q.1 = k) && (decide (q.2.1 ≤ i) && decide (i < q.2.2)))
def sy_fr (Wr : sy_Wr) (w0 w : px_W) : Prop := ∀ k i : Nat, sy_may Wr k i = false → sy_get w k i = sy_get w0 k i
abbrev sy_G : Type := sy_T × Nat × List sy_L × List sy_Fa
abbrev sy_Fr : Type := Nat × Nat × List (Nat × sy_A) × List sy_A
abbrev sy_S : Type := sy_G × sy_Fr × List sy_Fr
def sy_lvok (ρ : Nat → Int) (τ : Nat → Int64) (lv : List (Nat × sy_A)) (lc : List (Nat × Value)) : Prop := ∀ q ∈ lv, px_look lc q.1 = some (sy_v ρ τ q.2)
def sy_frok (ρ : Nat → Int) (τ : Nat → Int64) (PM : List px_M) (f : sy_Fr) (c : pf_F) : Prop := PM[f.1]? = some c.1 ∧ c.2.1 = f.2.1 ∧ sy_lvok ρ τ f.2.2.1 c.2.2.1 ∧ c.2.2.2 = f.2.2.2.map (sy_v ρ τ)
def sy_frs (ρ : Nat → Int) (τ : Nat → Int64) (PM : List px_M) : List sy_Fr → List pf_F → Prop
  | [], [] => True
  | f :: fs, c :: cs => sy_frok ρ τ PM f c ∧ sy_frs ρ τ PM fs cs
  | _, _ => False
/-- what does not change in the check of one contract: methods, shape, what may be written, the first cells, the first symbols -/
abbrev sy_Q : Type := List px_M × List sy_Ce × sy_Wr × px_W × (Nat → Int) × Nat
def sy_mem (q : sy_Q) (g : sy_G) (ρ : Nat → Int) (τ : Nat → Int64) (w : px_W) : Prop := (q.2.2.2.2.2 ≤ g.1.length ∧ ∀ i, i < q.2.2.2.2.2 → ρ i = q.2.2.2.2.1 i) ∧ sy_ok ρ g.1 ∧ sy_cok ρ g.2.2.1 ∧ sy_fok ρ τ w g.2.2.2 ∧ sy_W q.2.1 w ∧ sy_fr q.2.2.1 q.2.2.2.1 w
def sy_Rel (q : sy_Q) (S : sy_S) (ρ : Nat → Int) (τ : Nat → Int64) (w : px_W) (c : pf_F) (cf : List pf_F) : Prop := sy_mem q S.1 ρ τ w ∧ sy_frok ρ τ q.1 S.2.1 c ∧ sy_frs ρ τ q.1 S.2.2 cf
/-- what does not change in the runs -/
abbrev sy_X : Type := List vw_C × List (List Int32) × List px_M × Option (List Int32) × (Nat × Nat) × (Option Value → px_W → Prop) × Nat
def sy_Good (x : sy_X) (q : sy_Q) (S : sy_S) : Prop := ∀ (ρ : Nat → Int) (τ : Nat → Int64) (w : px_W) (c : pf_F) (cf : List pf_F) (d : Nat), sy_Rel q S ρ τ w c cf → d + cf.length = x.2.2.2.2.2.2 → pf_Fin x.1 x.2.1 x.2.2.1 x.2.2.2.1 x.2.2.2.2.1 x.2.2.2.2.2.1 cf d c.1 c.2.1 c.2.2.1 c.2.2.2 w
/-! symbols that a state holds -/
def sy_wl (N : Nat) (e : sy_L) : Bool := e.2.all (fun t => decide (t.1 < N))
def sy_wa (N n : Nat) (a : sy_A) : Bool := match a with
  | .inl e => sy_wl N e
  | .inr (.inl _) => true
  | .inr (.inr s) => decide (s < n)
def sy_wf (N n : Nat) (f : sy_Fr) : Bool := f.2.2.1.all (fun q => sy_wa N n q.2) && f.2.2.2.all (sy_wa N n)
def sy_wg (N n : Nat) (g : sy_G) : Bool := g.2.2.1.all (sy_wl N) && g.2.2.2.all (fun f => sy_wl N f.2.1 && sy_wa N n f.2.2)
def sy_wS (S : sy_S) : Bool := sy_wg S.1.1.length S.1.2.1 S.1 && (sy_wf S.1.1.length S.1.2.1 S.2.1 && S.2.2.all (sy_wf S.1.1.length S.1.2.1))
section SY1
variable {ρ ρ' : Nat → Int} {τ τ' : Nat → Int64} {N n : Nat}
theorem sy_ext_l (h : ∀ i, i < N → ρ' i = ρ i) {e : sy_L} (hw : sy_wl N e = true) : sy_e ρ' e = sy_e ρ e := by
  have key : ∀ l : List (Nat × Int), l.all (fun t => decide (t.1 < N)) = true → sy_s ρ' l = sy_s ρ l := by
    intro l
    induction l with
    | nil => intro _; rfl
    | cons t r ih =>
      intro hl
      simp only [List.all_cons, Bool.and_eq_true, decide_eq_true_eq] at hl
      show t.2 * ρ' t.1 + sy_s ρ' r = t.2 * ρ t.1 + sy_s ρ r
      rw [h _ hl.1, ih hl.2]
  unfold sy_e
  rw [key _ hw]
theorem sy_ext_a (h : ∀ i, i < N → ρ' i = ρ i) (ht : ∀ i, i < n → τ' i = τ i) {a : sy_A} (hw : sy_wa N n a = true) : sy_v ρ' τ' a = sy_v ρ τ a := by
  match a, hw with
  | .inl e, hw =>
    show Value.int _ = Value.int _
    rw [sy_ext_l h hw]
  | .inr (.inl k), _ => rfl
  | .inr (.inr s), hw =>
    show Value.long _ = Value.long _
    rw [ht s (of_decide_eq_true hw)]
theorem sy_ext_f (h : ∀ i, i < N → ρ' i = ρ i) (ht : ∀ i, i < n → τ' i = τ i) {PM : List px_M} {f : sy_Fr} {c : pf_F} (hw : sy_wf N n f = true) (hr : sy_frok ρ τ PM f c) : sy_frok ρ' τ' PM f c := by
  unfold sy_wf at hw
  simp only [Bool.and_eq_true, List.all_eq_true] at hw
  obtain ⟨h1, h2, h3, h4⟩ := hr
  refine ⟨h1, h2, fun q hq => ?_, ?_⟩
  · rw [sy_ext_a h ht (hw.1 q hq)]
    exact h3 q hq
  · rw [h4]
    exact List.map_congr_left (fun a ha => (sy_ext_a h ht (hw.2 a ha)).symm)
theorem sy_ext_fs (h : ∀ i, i < N → ρ' i = ρ i) (ht : ∀ i, i < n → τ' i = τ i) {PM : List px_M} : ∀ {fs : List sy_Fr} {cf : List pf_F}, fs.all (sy_wf N n) = true → sy_frs ρ τ PM fs cf → sy_frs ρ' τ' PM fs cf
  | [], [], _, _ => trivial
  | f :: fs, c :: cf, hw, hr => by
    simp only [List.all_cons, Bool.and_eq_true] at hw
    exact ⟨sy_ext_f h ht hw.1 hr.1, sy_ext_fs h ht hw.2 hr.2⟩
  | [], _ :: _, _, hr => hr.elim
  | _ :: _, [], _, hr => hr.elim
end SY1
/-- a new symbol -/
def sy_new (g : sy_G) (r : Int × Int) : sy_G := (g.1 ++ [r], g.2)
theorem sy_fresh {q : sy_Q} {S : sy_S} {ρ : Nat → Int} {τ : Nat → Int64} {w : px_W} {c : pf_F} {cf : List pf_F} (hw : sy_wS S = true) (h : sy_Rel q S ρ τ w c cf) {v : Int} {r : Int × Int} (h1 : r.1 ≤ v) (h2 : v ≤ r.2) :
    ∃ ρ' : Nat → Int, (∀ i, i < S.1.1.length → ρ' i = ρ i) ∧ ρ' S.1.1.length = v ∧ sy_Rel q (sy_new S.1 r, S.2) ρ' τ w c cf := by
  unfold sy_wS sy_wg at hw
  simp only [Bool.and_eq_true] at hw
  obtain ⟨⟨hw1, hw2⟩, hw3, hw4⟩ := hw
  obtain ⟨⟨⟨m1, m1'⟩, m2, m3, m4, m5, m6⟩, f1, f2⟩ := h
  have hag : ∀ i, i < S.1.1.length → (fun i => if i = S.1.1.length then v else ρ i) i = ρ i := fun i hi => if_neg (by omega)
  refine ⟨fun i => if i = S.1.1.length then v else ρ i, hag, if_pos rfl, ⟨⟨?_, fun i hi => ?_⟩, fun i p hp => ?_, fun e he => ?_, fun f hf => ?_, m5, m6⟩, sy_ext_f hag (fun _ _ => rfl) hw3 f1, sy_ext_fs hag (fun _ _ => rfl) hw4 f2⟩
  · show _ ≤ (S.1.1 ++ [r]).length
    rw [List.length_append]
    omega
  · rw [hag i (by omega)]
    exact m1' i hi
  · have hp' : (S.1.1 ++ [r])[i]? = some p := hp
    by_cases hi : i < S.1.1.length
    · rw [List.getElem?_append_left hi] at hp'
      rw [hag i hi]
      exact m2 i p hp'
    · rw [List.getElem?_append_right (by omega)] at hp'
      have hz : i - S.1.1.length < 1 := (List.getElem?_eq_some_iff.mp hp').1
      have hi0 : i = S.1.1.length := by omega
      subst hi0
      rw [Nat.sub_self] at hp'
      cases hp'
      have hv : (fun i => if i = S.1.1.length then v else ρ i) S.1.1.length = v := if_pos rfl
      rw [hv]
      exact ⟨h1, h2⟩
  · rw [sy_ext_l hag (List.all_eq_true.mp hw1 e he)]
    exact m3 e he
  · have hf2 := List.all_eq_true.mp hw2 f hf
    rw [Bool.and_eq_true] at hf2
    rw [sy_ext_l hag hf2.1, sy_ext_a hag (fun _ _ => rfl) hf2.2]
    exact m4 f hf
/-- a new long -/
theorem sy_freshL {q : sy_Q} {S : sy_S} {ρ : Nat → Int} {τ : Nat → Int64} {w : px_W} {c : pf_F} {cf : List pf_F} (hw : sy_wS S = true) (h : sy_Rel q S ρ τ w c cf) (v : Int64) :
    ∃ τ' : Nat → Int64, τ' S.1.2.1 = v ∧ (∀ a : sy_A, sy_wa S.1.1.length S.1.2.1 a = true → sy_v ρ τ' a = sy_v ρ τ a) ∧ sy_Rel q ((S.1.1, S.1.2.1 + 1, S.1.2.2), S.2) ρ τ' w c cf := by
  unfold sy_wS sy_wg at hw
  simp only [Bool.and_eq_true] at hw
  obtain ⟨⟨hw1, hw2⟩, hw3, hw4⟩ := hw
  obtain ⟨⟨m1, m2, m3, m4, m5, m6⟩, f1, f2⟩ := h
  have hag : ∀ i, i < S.1.2.1 → (fun i => if i = S.1.2.1 then v else τ i) i = τ i := fun i hi => if_neg (by omega)
  refine ⟨fun i => if i = S.1.2.1 then v else τ i, if_pos rfl, fun a ha => sy_ext_a (fun _ _ => rfl) hag ha, ⟨m1, m2, m3, fun f hf => ?_, m5, m6⟩, sy_ext_f (fun _ _ => rfl) hag hw3 f1, sy_ext_fs (fun _ _ => rfl) hag hw4 f2⟩
  have hf2 := List.all_eq_true.mp hw2 f hf
  rw [Bool.and_eq_true] at hf2
  rw [sy_ext_a (fun _ _ => rfl) hag hf2.2]
  exact m4 f hf
/-- a range is made smaller -/
def sy_rng (g : sy_G) (i : Nat) (r : Int × Int) : sy_G := (g.1.set i r, g.2)
end
section
/-! WHAT A BRANCH TELLS -/
/-- a constraint makes the ranges of its symbols smaller -/
def sy_nar (e : sy_L) : List (Nat × Int) → sy_T → sy_T
  | [], R => R
  | t :: r, R => sy_nar e r (match R[t.1]?, sy_hi R (sy_sub e (0, [t])) with
    | some p, some h => if 0 < t.2 then R.set t.1 (max p.1 (-(h / t.2)), p.2) else if t.2 < 0 then R.set t.1 (p.1, min p.2 (h / (-t.2))) else R
    | _, _ => R)
def sy_pro : List sy_L → sy_T → sy_T
  | [], R => R
  | c :: r, R => sy_pro r (sy_nar c c.2 R)
def sy_con (R : sy_T) (cs : List sy_L) (e : sy_L) : Bool := cs.any (fun c => match sy_hi R (sy_add e c) with
  | some z => decide (z < 0)
  | none => false)
/-- e is at least 0 -/
def sy_asm (g : sy_G) (e : sy_L) : Option sy_G := match sy_hi g.1 e with
  | none => some g
  | some h => if h < 0 then none else match e.2 with
    | [] => some g
    | [_] => if sy_con g.1 g.2.2.1 e = true then none else some (sy_pro g.2.2.1 (sy_nar e e.2 g.1), g.2)
    | _ => if sy_con g.1 g.2.2.1 e = true then none else some (sy_pro g.2.2.1 (sy_nar e e.2 g.1), g.2.1, e :: g.2.2.1, g.2.2.2)
theorem sy_rng_ok {q : sy_Q} {g : sy_G} {ρ : Nat → Int} {τ : Nat → Int64} {w : px_W} (h : sy_mem q g ρ τ w) {i : Nat} {r : Int × Int} (h1 : r.1 ≤ ρ i) (h2 : ρ i ≤ r.2) : sy_mem q (sy_rng g i r) ρ τ w := by
  obtain ⟨⟨m1, m1'⟩, m2, m3, m4, m5, m6⟩ := h
  refine ⟨⟨?_, m1'⟩, fun j p hp => ?_, m3, m4, m5, m6⟩
  · show _ ≤ (g.1.set i r).length
    rw [List.length_set]
    exact m1
  · have hp' : (g.1.set i r)[j]? = some p := hp
    by_cases hj : i = j
    · subst hj
      by_cases hl : i < g.1.length
      · rw [List.getElem?_set_self hl] at hp'
        cases hp'
        exact ⟨h1, h2⟩
      · rw [List.getElem?_eq_none (by rw [List.length_set]; omega)] at hp'
        cases hp'
    · rw [List.getElem?_set_ne hj] at hp'
      exact m2 j p hp'
theorem sy_set_ok {ρ : Nat → Int} {R : sy_T} (h : sy_ok ρ R) {i : Nat} {r : Int × Int} (h1 : r.1 ≤ ρ i) (h2 : ρ i ≤ r.2) : sy_ok ρ (R.set i r) := by
  intro j p hp
  by_cases hj : i = j
  · subst hj
    by_cases hl : i < R.length
    · rw [List.getElem?_set_self hl] at hp
      cases hp
      exact ⟨h1, h2⟩
    · rw [List.getElem?_eq_none (by rw [List.length_set]; omega)] at hp
      cases hp
  · rw [List.getElem?_set_ne hj] at hp
    exact h j p hp
theorem sy_nar_ok {ρ : Nat → Int} {e : sy_L} (he : 0 ≤ sy_e ρ e) : ∀ (l : List (Nat × Int)) (R : sy_T), sy_ok ρ R → sy_ok ρ (sy_nar e l R) ∧ (sy_nar e l R).length = R.length
  | [], R, h => ⟨h, rfl⟩
  | t :: r, R, h => by
    unfold sy_nar
    have key : sy_ok ρ (match R[t.1]?, sy_hi R (sy_sub e (0, [t])) with
        | some p, some h => if 0 < t.2 then R.set t.1 (max p.1 (-(h / t.2)), p.2) else if t.2 < 0 then R.set t.1 (p.1, min p.2 (h / (-t.2))) else R
        | _, _ => R) ∧ (match R[t.1]?, sy_hi R (sy_sub e (0, [t])) with
        | some p, some h => if 0 < t.2 then R.set t.1 (max p.1 (-(h / t.2)), p.2) else if t.2 < 0 then R.set t.1 (p.1, min p.2 (h / (-t.2))) else R
        | _, _ => R).length = R.length := by
      split
      · rename_i p z hp hz
        have h1 := h _ _ hp
        have h2 := sy_hi_e h hz
        have h3 : sy_e ρ (0, [t]) = t.2 * ρ t.1 := by simp [sy_e, sy_s]
        rw [sy_sub_e, h3] at h2
        split
        · rename_i h0
          refine ⟨sy_set_ok h ?_ h1.2, List.length_set⟩
          show max p.1 (-(z / t.2)) ≤ ρ t.1
          have h5 : -(ρ t.1) ≤ z / t.2 := by
            rw [Int.le_ediv_iff_mul_le h0, Int.neg_mul, Int.mul_comm]
            omega
          omega
        · split
          · rename_i h0
            refine ⟨sy_set_ok h h1.1 ?_, List.length_set⟩
            show ρ t.1 ≤ min p.2 (z / (-t.2))
            have h5 : ρ t.1 ≤ z / (-t.2) := by
              rw [Int.le_ediv_iff_mul_le (by omega), Int.mul_neg, Int.mul_comm]
              omega
            omega
          · exact ⟨h, rfl⟩
      · exact ⟨h, rfl⟩
    obtain ⟨k1, k2⟩ := sy_nar_ok he r _ key.1
    exact ⟨k1, k2.trans key.2⟩
theorem sy_pro_ok {ρ : Nat → Int} : ∀ (cs : List sy_L) (R : sy_T), sy_cok ρ cs → sy_ok ρ R → sy_ok ρ (sy_pro cs R) ∧ (sy_pro cs R).length = R.length
  | [], R, _, h => ⟨h, rfl⟩
  | c :: r, R, hc, h => by
    obtain ⟨k1, k2⟩ := sy_nar_ok (hc c List.mem_cons_self) c.2 R h
    obtain ⟨j1, j2⟩ := sy_pro_ok r (sy_nar c c.2 R) (fun x hx => hc x (List.mem_cons_of_mem _ hx)) k1
    exact ⟨j1, j2.trans k2⟩
theorem sy_con_ok {ρ : Nat → Int} {R : sy_T} {cs : List sy_L} (h : sy_ok ρ R) (hc : sy_cok ρ cs) {e : sy_L} (he : 0 ≤ sy_e ρ e) : ¬ sy_con R cs e = true := by
  intro hn
  obtain ⟨c, h1, h2⟩ := List.any_eq_true.mp hn
  split at h2
  · rename_i z hz
    have h3 := sy_hi_e h hz
    rw [sy_add_e] at h3
    have := hc c h1
    have := of_decide_eq_true h2
    omega
  · cases h2
theorem sy_asm_ok {q : sy_Q} {g : sy_G} {ρ : Nat → Int} {τ : Nat → Int64} {w : px_W} (h : sy_mem q g ρ τ w) {e : sy_L} (he : 0 ≤ sy_e ρ e) : ∃ g', sy_asm g e = some g' ∧ sy_mem q g' ρ τ w := by
  have hcon := sy_con_ok h.2.1 h.2.2.1 he
  obtain ⟨n1, n2⟩ := sy_nar_ok he e.2 g.1 h.2.1
  obtain ⟨p1, p2⟩ := sy_pro_ok g.2.2.1 _ h.2.2.1 n1
  have hl : q.2.2.2.2.2 ≤ (sy_pro g.2.2.1 (sy_nar e e.2 g.1)).length := by rw [p2, n2]; exact h.1.1
  unfold sy_asm
  split
  · exact ⟨_, rfl, h⟩
  · rename_i z hz
    have hz1 := sy_hi_e h.2.1 hz
    rw [if_neg (by omega)]
    split
    · exact ⟨_, rfl, h⟩
    · rw [if_neg hcon]
      exact ⟨_, rfl, ⟨hl, h.1.2⟩, p1, h.2.2⟩
    · rw [if_neg hcon]
      refine ⟨_, rfl, ⟨hl, h.1.2⟩, p1, fun x hx => ?_, h.2.2.2⟩
      rcases List.mem_cons.mp hx with rfl | hx
      · exact he
      · exact h.2.2.1 x hx
/-- e is not 0 -/
def sy_ane (g : sy_G) (e : sy_L) : Option sy_G := match e.2 with
  | [] => if e.1 = 0 then none else some g
  | [(i, c)] => (match g.1[i]? with
    | none => some g
    | some r => if c = 1 ∨ c = -1 then (if r.1 = -(e.1 * c) then (if r.1 = r.2 then none else some (sy_rng g i (r.1 + 1, r.2))) else if r.2 = -(e.1 * c) then some (sy_rng g i (r.1, r.2 - 1)) else some g) else some g)
  | _ => some g
theorem sy_ane_ok {q : sy_Q} {g : sy_G} {ρ : Nat → Int} {τ : Nat → Int64} {w : px_W} (h : sy_mem q g ρ τ w) {e : sy_L} (he : sy_e ρ e ≠ 0) : ∃ g', sy_ane g e = some g' ∧ sy_mem q g' ρ τ w := by
  unfold sy_ane
  split
  · rename_i hc
    have hev : sy_e ρ e = e.1 := by
      unfold sy_e
      rw [hc]
      simp [sy_s]
    rw [if_neg (by omega)]
    exact ⟨_, rfl, h⟩
  · rename_i i c hc
    have hev : sy_e ρ e = e.1 + c * ρ i := by
      unfold sy_e
      rw [hc]
      simp [sy_s]
    rw [hev] at he
    split
    · exact ⟨_, rfl, h⟩
    · rename_i r hr
      have hr1 := h.2.1 i r hr
      split
      · rename_i hc1
        have hne : ρ i ≠ -(e.1 * c) := by
          rcases hc1 with rfl | rfl <;> omega
        split
        · rename_i hl
          rw [if_neg (by omega)]
          exact ⟨_, rfl, sy_rng_ok h (by show r.1 + 1 ≤ ρ i; omega) hr1.2⟩
        · split
          · exact ⟨_, rfl, sy_rng_ok h hr1.1 (by show ρ i ≤ r.2 - 1; omega)⟩
          · exact ⟨_, rfl, h⟩
      · exact ⟨_, rfl, h⟩
  · exact ⟨_, rfl, h⟩
def sy_asms (g : sy_G) : List sy_L → Option sy_G
  | [] => some g
  | e :: r => (sy_asm g e).bind (fun g => sy_asms g r)
theorem sy_asms_ok {q : sy_Q} {ρ : Nat → Int} {τ : Nat → Int64} {w : px_W} : ∀ {l : List sy_L} {g : sy_G}, sy_mem q g ρ τ w → (∀ e ∈ l, 0 ≤ sy_e ρ e) → ∃ g', sy_asms g l = some g' ∧ sy_mem q g' ρ τ w
  | [], g, h, _ => ⟨g, rfl, h⟩
  | e :: r, g, h, he => by
    obtain ⟨g1, h1, h2⟩ := sy_asm_ok h (he e List.mem_cons_self)
    obtain ⟨g2, h3, h4⟩ := sy_asms_ok h2 (fun x hx => he x (List.mem_cons_of_mem _ hx))
    exact ⟨g2, by show (sy_asm g e).bind _ = _; rw [h1]; exact h3, h4⟩
/-- the two ways of a comparison of forms -/
def sy_cmp (g : sy_G) (k : Jvm.ClassFile.Cond) (x y : sy_L) : Option sy_G × Option sy_G := match k with
  | .eq => (sy_asms g [sy_sub x y, sy_sub y x], sy_ane g (sy_sub x y))
  | .ne => (sy_ane g (sy_sub x y), sy_asms g [sy_sub x y, sy_sub y x])
  | .lt => (sy_asms g [sy_add (sy_sub y x) (sy_c (-1))], sy_asms g [sy_sub x y])
  | .ge => (sy_asms g [sy_sub x y], sy_asms g [sy_add (sy_sub y x) (sy_c (-1))])
  | .gt => (sy_asms g [sy_add (sy_sub x y) (sy_c (-1))], sy_asms g [sy_sub y x])
  | .le => (sy_asms g [sy_sub y x], sy_asms g [sy_add (sy_sub x y) (sy_c (-1))])
def sy_two (g : sy_G) (k : Jvm.ClassFile.Cond) (x y : sy_L) : Option sy_G × Option sy_G := match sy_b g.1 x, sy_b g.1 y with
  | some a, some b => if sy_fit a = true ∧ sy_fit b = true then sy_cmp g k x y else (some g, some g)
  | _, _ => (some g, some g)
theorem sy_two_ok {q : sy_Q} {g : sy_G} {ρ : Nat → Int} {τ : Nat → Int64} {w : px_W} (h : sy_mem q g ρ τ w) (k : Jvm.ClassFile.Cond) (x y : sy_L) : (px_cnd k (Int32.ofInt (sy_e ρ x)) (Int32.ofInt (sy_e ρ y)) = true → ∃ g', (sy_two g k x y).1 = some g' ∧ sy_mem q g' ρ τ w) ∧ (¬ px_cnd k (Int32.ofInt (sy_e ρ x)) (Int32.ofInt (sy_e ρ y)) = true → ∃ g', (sy_two g k x y).2 = some g' ∧ sy_mem q g' ρ τ w) := by
  unfold sy_two
  split
  · rename_i a b ha hb
    split
    · rename_i hf
      obtain ⟨a1, a2⟩ := sy_b_e h.2.1 ha
      obtain ⟨b1, b2⟩ := sy_b_e h.2.1 hb
      have ex := sy_fit_e hf.1 a1 a2
      have ey := sy_fit_e hf.2 b1 b2
      have heq : Int32.ofInt (sy_e ρ x) = Int32.ofInt (sy_e ρ y) ↔ sy_e ρ x = sy_e ρ y := by
        rw [← Int32.toInt_inj, ex, ey]
      have hlt : Int32.ofInt (sy_e ρ x) < Int32.ofInt (sy_e ρ y) ↔ sy_e ρ x < sy_e ρ y := by
        rw [Int32.lt_iff_toInt_lt, ex, ey]
      have hgt : Int32.ofInt (sy_e ρ y) < Int32.ofInt (sy_e ρ x) ↔ sy_e ρ y < sy_e ρ x := by
        rw [Int32.lt_iff_toInt_lt, ex, ey]
      have hle : Int32.ofInt (sy_e ρ x) ≤ Int32.ofInt (sy_e ρ y) ↔ sy_e ρ x ≤ sy_e ρ y := by
        rw [Int32.le_iff_toInt_le, ex, ey]
      have hge : Int32.ofInt (sy_e ρ y) ≤ Int32.ofInt (sy_e ρ x) ↔ sy_e ρ y ≤ sy_e ρ x := by
        rw [Int32.le_iff_toInt_le, ex, ey]
      have s1 := sy_sub_e ρ x y
      have s2 := sy_sub_e ρ y x
      have one : ∀ e : sy_L, 0 ≤ sy_e ρ e → ∃ g', sy_asms g [e] = some g' ∧ sy_mem q g' ρ τ w := fun e he => sy_asms_ok h (fun z hz => by rw [List.mem_singleton.mp hz]; exact he)
      have both : sy_e ρ x = sy_e ρ y → ∃ g', sy_asms g [sy_sub x y, sy_sub y x] = some g' ∧ sy_mem q g' ρ τ w := fun he => sy_asms_ok h (fun z hz => by
        rcases List.mem_cons.mp hz with rfl | hz
        · omega
        · rw [List.mem_singleton.mp hz]; omega)
      have m1 : ∀ e : sy_L, sy_e ρ (sy_add e (sy_c (-1))) = sy_e ρ e - 1 := fun e => by rw [sy_add_e, sy_c_e]; omega
      cases k <;> simp only [px_cnd, decide_eq_true_eq, sy_cmp]
      · exact ⟨fun z => both (heq.mp z), fun z => sy_ane_ok h (by rw [s1]; intro q; exact z (heq.mpr (by omega)))⟩
      · exact ⟨fun z => sy_ane_ok h (by rw [s1]; intro q; exact z (heq.mpr (by omega))), fun z => both (heq.mp (Classical.not_not.mp z))⟩
      · exact ⟨fun z => one _ (by rw [m1, s2]; have := hlt.mp z; omega), fun z => one _ (by rw [s1]; have := mt hlt.mpr z; omega)⟩
      · exact ⟨fun z => one _ (by rw [s1]; have := hge.mp z; omega), fun z => one _ (by rw [m1, s2]; have := mt hge.mpr z; omega)⟩
      · exact ⟨fun z => one _ (by rw [m1, s1]; have := hgt.mp z; omega), fun z => one _ (by rw [s2]; have := mt hgt.mpr z; omega)⟩
      · exact ⟨fun z => one _ (by rw [s2]; have := hle.mp z; omega), fun z => one _ (by rw [m1, s1]; have := mt hle.mpr z; omega)⟩
    · exact ⟨fun _ => ⟨g, rfl, h⟩, fun _ => ⟨g, rfl, h⟩⟩
  · exact ⟨fun _ => ⟨g, rfl, h⟩, fun _ => ⟨g, rfl, h⟩⟩
end
section
/-! ONE STEP: the pure step, by parts -/
def px_a1 (i : Instr) (len pc : Nat) (lv : List (Nat × Value)) (st : List Value) : Option (Nat × List (Nat × Value) × List Value) := match st with
    | .int y :: .int x :: r => if len = 1 then (px_bin i x y).map (fun z => (pc + 1, lv, .int z :: r)) else none
    | _ => none
def px_a2 (i : Instr) (len pc : Nat) (lv : List (Nat × Value)) (st : List Value) : Option (Nat × List (Nat × Value) × List Value) := (px_ld i).bind (fun q => (px_look lv q.1).bind (fun v => if len = q.2.1 ∧ px_so v = q.2.2 then some (pc + len, lv, v :: st) else none))
def px_a3 (i : Instr) (len pc : Nat) (lv : List (Nat × Value)) (st : List Value) : Option (Nat × List (Nat × Value) × List Value) := (px_cst i).bind (fun q => if len = q.2 then some (pc + len, lv, q.1 :: st) else none)
def px_a4 (i : Instr) (len pc : Nat) (lv : List (Nat × Value)) (st : List Value) : Option (Nat × List (Nat × Value) × List Value) := (px_br i pc len st).map (fun q => (q.1, lv, q.2))
def px_a5 (i : Instr) (len pc mx : Nat) (lv : List (Nat × Value)) (st : List Value) : Option (Nat × List (Nat × Value) × List Value) := match st with
    | v :: r => (px_st i).bind (fun q => if len = q.2.1 ∧ px_so v = q.2.2 ∧ q.1 < mx then some (pc + len, px_sto lv q.1 v, r) else none)
    | _ => none
def px_a6 (i : Instr) (len pc mx : Nat) (lv : List (Nat × Value)) (st : List Value) : Option (Nat × List (Nat × Value) × List Value) := match i with
    | .iinc k n => (px_look lv k).bind (fun v => match v with
      | .int x => if len = 3 ∧ k < mx then some (pc + 3, px_sto lv k (.int (x + Int32.ofInt n)), st) else none
      | _ => none)
    | _ => none
def px_a7 (i : Instr) (len pc : Nat) (lv : List (Nat × Value)) (st : List Value) : Option (Nat × List (Nat × Value) × List Value) := if len = 1 then (px_stk i st).map (fun r => (pc + 1, lv, r)) else none
def px_a8 (i : Instr) (len pc : Nat) (lv : List (Nat × Value)) (st : List Value) : Option (Nat × List (Nat × Value) × List Value) := match st with
    | v :: r => if len = 1 then (px_un i v).map (fun z => (pc + 1, lv, z :: r)) else none
    | _ => none
def px_a9 (i : Instr) (len pc : Nat) (lv : List (Nat × Value)) (st : List Value) : Option (Nat × List (Nat × Value) × List Value) := match st with
    | v :: .long x :: r => if len = 1 then (px_lb i x v).map (fun z => (pc + 1, lv, .long z :: r)) else none
    | _ => none
theorem px_s1_eq (i : Instr) (len pc mx : Nat) (lv : List (Nat × Value)) (st : List Value) : px_s1 i len pc mx lv st = px_or (px_a1 i len pc lv st) (px_or (px_a2 i len pc lv st) (px_or (px_a3 i len pc lv st) (px_or (px_a4 i len pc lv st) (px_or (px_a5 i len pc mx lv st) (px_or (px_a6 i len pc mx lv st) (px_or (px_a7 i len pc lv st) (px_or (px_a8 i len pc lv st) (px_a9 i len pc lv st)))))))) := rfl
/-- sorts of instructions: 1 two ints, 2 loads, 3 constants, 4 branches, 5 stores, 6 iinc, 7 stack, 8 one value, 9 two longs, 0 all else -/
def px_so1 (i : Instr) : Nat := match i with
  | .iadd | .isub | .imul | .iand | .ior | .ixor | .ishl | .ishr | .iushr | .idiv | .irem => 1
  | .iload_n _ | .iload _ | .lload_n _ | .lload _ | .aload_n _ | .aload _ => 2
  | .iconst _ | .bipush _ | .sipush _ | .lconst _ => 3
  | .goto _ | .ifCond _ _ | .if_icmp _ _ | .tableswitch _ _ _ _ => 4
  | .istore_n _ | .istore _ | .astore_n _ | .astore _ => 5
  | .iinc _ _ => 6
  | .dup | .pop | .dup_x1 | .dup2 => 7
  | .ineg | .i2l | .i2b | .i2s | .i2c | .l2i => 8
  | .land | .lor | .lshl | .lshr => 9
  | _ => 0
section ONE
variable {i : Instr} {len pc mx : Nat} {lv : List (Nat × Value)} {st : List Value}
theorem px_a1_no (h : px_so1 i ≠ 1) : px_a1 i len pc lv st = none := by
  have h1 : ∀ x y, px_bin i x y = none := by
    intro x y
    unfold px_bin
    split <;> first | rfl | exact absurd rfl h
  unfold px_a1
  split
  · split
    · rw [h1]; rfl
    · rfl
  · rfl
theorem px_a2_no (h : px_so1 i ≠ 2) : px_a2 i len pc lv st = none := by
  have h1 : px_ld i = none := by
    unfold px_ld
    split <;> first | rfl | exact absurd rfl h
  unfold px_a2
  rw [h1]
  rfl
theorem px_a3_no (h : px_so1 i ≠ 3) : px_a3 i len pc lv st = none := by
  have h1 : px_cst i = none := by
    unfold px_cst
    split <;> first | rfl | exact absurd rfl h
  unfold px_a3
  rw [h1]
  rfl
theorem px_a4_no (h : px_so1 i ≠ 4) : px_a4 i len pc lv st = none := by
  have h1 : px_br i pc len st = none := by
    unfold px_br
    split <;> first | rfl | exact absurd rfl h
  unfold px_a4
  rw [h1]
  rfl
theorem px_a5_no (h : px_so1 i ≠ 5) : px_a5 i len pc mx lv st = none := by
  have h1 : px_st i = none := by
    unfold px_st
    split <;> first | rfl | exact absurd rfl h
  unfold px_a5
  split
  · rw [h1]; rfl
  · rfl
theorem px_a6_no (h : px_so1 i ≠ 6) : px_a6 i len pc mx lv st = none := by
  unfold px_a6
  split
  · exact absurd rfl h
  · rfl
theorem px_a7_no (h : px_so1 i ≠ 7) : px_a7 i len pc lv st = none := by
  have h1 : px_stk i st = none := by
    unfold px_stk
    split <;> first | rfl | exact absurd rfl h
  unfold px_a7
  rw [h1]
  split <;> rfl
theorem px_a8_no (h : px_so1 i ≠ 8) : px_a8 i len pc lv st = none := by
  have h1 : ∀ v, px_un i v = none := by
    intro v
    unfold px_un
    split <;> first | rfl | exact absurd rfl h
  unfold px_a8
  split
  · rw [h1]; split <;> rfl
  · rfl
theorem px_a9_no (h : px_so1 i ≠ 9) : px_a9 i len pc lv st = none := by
  have h1 : ∀ x v, px_lb i x v = none := by
    intro x v
    unfold px_lb
    split <;> first | rfl | exact absurd rfl h
  unfold px_a9
  split
  · rw [h1]; split <;> rfl
  · rfl
theorem px_or_n {α : Type} {a b : Option α} (h : a = none) : px_or a b = b := by rw [h]; rfl
theorem px_or_s {α : Type} {a b : Option α} {x : α} (h : a = some x) : px_or a b = some x := by rw [h]; rfl
theorem px_s1_0 (h : px_so1 i = 0) : px_s1 i len pc mx lv st = none := by
  rw [px_s1_eq, px_or_n (px_a1_no (by omega)), px_or_n (px_a2_no (by omega)), px_or_n (px_a3_no (by omega)), px_or_n (px_a4_no (by omega)), px_or_n (px_a5_no (by omega)), px_or_n (px_a6_no (by omega)), px_or_n (px_a7_no (by omega)), px_or_n (px_a8_no (by omega)), px_a9_no (by omega)]
theorem px_s1_1 (h : px_so1 i = 1) {z : Nat × List (Nat × Value) × List Value} (hz : px_a1 i len pc lv st = some z) : px_s1 i len pc mx lv st = some z := by
  rw [px_s1_eq, px_or_s hz]
theorem px_s1_2 (h : px_so1 i = 2) {z : Nat × List (Nat × Value) × List Value} (hz : px_a2 i len pc lv st = some z) : px_s1 i len pc mx lv st = some z := by
  rw [px_s1_eq, px_or_n (px_a1_no (by omega)), px_or_s hz]
theorem px_s1_3 (h : px_so1 i = 3) {z : Nat × List (Nat × Value) × List Value} (hz : px_a3 i len pc lv st = some z) : px_s1 i len pc mx lv st = some z := by
  rw [px_s1_eq, px_or_n (px_a1_no (by omega)), px_or_n (px_a2_no (by omega)), px_or_s hz]
theorem px_s1_4 (h : px_so1 i = 4) {z : Nat × List (Nat × Value) × List Value} (hz : px_a4 i len pc lv st = some z) : px_s1 i len pc mx lv st = some z := by
  rw [px_s1_eq, px_or_n (px_a1_no (by omega)), px_or_n (px_a2_no (by omega)), px_or_n (px_a3_no (by omega)), px_or_s hz]
theorem px_s1_5 (h : px_so1 i = 5) {z : Nat × List (Nat × Value) × List Value} (hz : px_a5 i len pc mx lv st = some z) : px_s1 i len pc mx lv st = some z := by
  rw [px_s1_eq, px_or_n (px_a1_no (by omega)), px_or_n (px_a2_no (by omega)), px_or_n (px_a3_no (by omega)), px_or_n (px_a4_no (by omega)), px_or_s hz]
theorem px_s1_6 (h : px_so1 i = 6) {z : Nat × List (Nat × Value) × List Value} (hz : px_a6 i len pc mx lv st = some z) : px_s1 i len pc mx lv st = some z := by
  rw [px_s1_eq, px_or_n (px_a1_no (by omega)), px_or_n (px_a2_no (by omega)), px_or_n (px_a3_no (by omega)), px_or_n (px_a4_no (by omega)), px_or_n (px_a5_no (by omega)), px_or_s hz]
theorem px_s1_7 (h : px_so1 i = 7) {z : Nat × List (Nat × Value) × List Value} (hz : px_a7 i len pc lv st = some z) : px_s1 i len pc mx lv st = some z := by
  rw [px_s1_eq, px_or_n (px_a1_no (by omega)), px_or_n (px_a2_no (by omega)), px_or_n (px_a3_no (by omega)), px_or_n (px_a4_no (by omega)), px_or_n (px_a5_no (by omega)), px_or_n (px_a6_no (by omega)), px_or_s hz]
theorem px_s1_8 (h : px_so1 i = 8) {z : Nat × List (Nat × Value) × List Value} (hz : px_a8 i len pc lv st = some z) : px_s1 i len pc mx lv st = some z := by
  rw [px_s1_eq, px_or_n (px_a1_no (by omega)), px_or_n (px_a2_no (by omega)), px_or_n (px_a3_no (by omega)), px_or_n (px_a4_no (by omega)), px_or_n (px_a5_no (by omega)), px_or_n (px_a6_no (by omega)), px_or_n (px_a7_no (by omega)), px_or_s hz]
theorem px_s1_9 (h : px_so1 i = 9) {z : Nat × List (Nat × Value) × List Value} (hz : px_a9 i len pc lv st = some z) : px_s1 i len pc mx lv st = some z := by
  rw [px_s1_eq, px_or_n (px_a1_no (by omega)), px_or_n (px_a2_no (by omega)), px_or_n (px_a3_no (by omega)), px_or_n (px_a4_no (by omega)), px_or_n (px_a5_no (by omega)), px_or_n (px_a6_no (by omega)), px_or_n (px_a7_no (by omega)), px_or_n (px_a8_no (by omega))]
  exact hz
end ONE
section ONE2
variable {cl : List vw_C} {lt : List (List Int32)} {P : List px_M} {d : Nat} {scr : Option (List Int32)} {M : px_M} {pc : Nat} {lv : List (Nat × Value)} {st : List Value} {w : px_W} {i : Instr} {len : Nat}
theorem px_step_1 (hq : px_look M.2.1 pc = some (i, len)) {z : Nat × List (Nat × Value) × List Value} (hz : px_s1 i len pc M.1.2.2.1 lv st = some z) : px_step cl lt P d scr M pc lv st w = some (.inl (z.1, z.2.1, z.2.2, w, 0, 0)) := by
  unfold px_step
  rw [hq]
  show px_or ((px_s1 i len pc M.1.2.2.1 lv st).map _) _ = _
  rw [hz]
  rfl
theorem px_step_2 (hq : px_look M.2.1 pc = some (i, len)) (h0 : px_so1 i = 0) {z : List Value × px_W × Nat × Nat} (hz : px_s2 cl lt i len scr M.1.1.name M.1.1.cls M.2.2 st w = some z) : px_step cl lt P d scr M pc lv st w = some (.inl (pc + len, lv, z.1, z.2.1, z.2.2)) := by
  unfold px_step
  rw [hq]
  show px_or ((px_s1 i len pc M.1.2.2.1 lv st).map _) (px_or ((px_s2 cl lt i len scr M.1.1.name M.1.1.cls M.2.2 st w).map _) _) = _
  rw [px_s1_0 h0, hz]
  rfl
/-- calls and returns: 1 returns, 2 static, 3 virtual, 4 special -/
def px_so2 (i : Instr) : Nat := match i with
  | .ireturn | .lreturn | .return_ => 1
  | .invokestatic _ => 2
  | .invokevirtual _ => 3
  | .invokespecial _ => 4
  | _ => 0
theorem px_so2_0 (h : px_so2 i ≠ 0) : px_so1 i = 0 := by
  unfold px_so2 at h
  split at h <;> first | rfl | exact absurd rfl h
theorem px_s2_no (h : px_so2 i ≠ 0) {nm own : String} {L : px_L} : px_s2 cl lt i len scr nm own L st w = none := by
  unfold px_s2
  split <;> first | rfl | exact absurd rfl h
theorem px_s5_no (h : px_so2 i ≠ 1) {ret : Option FieldType} : px_s5 i len ret st = none := by
  unfold px_s5
  split <;> first | rfl | exact absurd rfl h
theorem px_step_5 (hq : px_look M.2.1 pc = some (i, len)) (h0 : px_so2 i = 1) {z : Option Value} (hz : px_s5 i len M.1.2.2.2.1 st = some z) : px_step cl lt P d scr M pc lv st w = some (.inr (.inl z)) := by
  unfold px_step
  rw [hq]
  show px_or ((px_s1 i len pc M.1.2.2.1 lv st).map _) (px_or ((px_s2 cl lt i len scr M.1.1.name M.1.1.cls M.2.2 st w).map _) (px_or ((px_s5 i len M.1.2.2.2.1 st).map _) _)) = _
  rw [px_s1_0 (px_so2_0 (by omega)), px_s2_no (by omega), hz]
  rfl
theorem px_step_3 (hq : px_look M.2.1 pc = some (i, len)) (h0 : 2 ≤ px_so2 i) {z : List Value × px_W} (hz : px_s3 i len d M.2.2 st w = some z) : px_step cl lt P d scr M pc lv st w = some (.inl (pc + 3, lv, z.1, z.2, 0, 0)) := by
  unfold px_step
  rw [hq]
  show px_or ((px_s1 i len pc M.1.2.2.1 lv st).map _) (px_or ((px_s2 cl lt i len scr M.1.1.name M.1.1.cls M.2.2 st w).map _) (px_or ((px_s5 i len M.1.2.2.2.1 st).map _) (px_or ((px_s3 i len d M.2.2 st w).map _) _))) = _
  rw [px_s1_0 (px_so2_0 (by omega)), px_s2_no (by omega), px_s5_no (by omega), hz]
  rfl
theorem px_step_6 (hq : px_look M.2.1 pc = some (i, len)) (h0 : 2 ≤ px_so2 i) (h3 : px_s3 i len d M.2.2 st w = none) {z : List Value} (hz : px_s6 i len d M.2.2 st = some z) : px_step cl lt P d scr M pc lv st w = some (.inl (pc + 3, lv, z, w, 0, 0)) := by
  unfold px_step
  rw [hq]
  show px_or ((px_s1 i len pc M.1.2.2.1 lv st).map _) (px_or ((px_s2 cl lt i len scr M.1.1.name M.1.1.cls M.2.2 st w).map _) (px_or ((px_s5 i len M.1.2.2.2.1 st).map _) (px_or ((px_s3 i len d M.2.2 st w).map _) (px_or ((px_s6 i len d M.2.2 st).map _) _)))) = _
  rw [px_s1_0 (px_so2_0 (by omega)), px_s2_no (by omega), px_s5_no (by omega), h3, hz]
  rfl
theorem px_step_4 (hq : px_look M.2.1 pc = some (i, len)) (h0 : 2 ≤ px_so2 i) (h3 : px_s3 i len d M.2.2 st w = none) (h6 : px_s6 i len d M.2.2 st = none) {z : Nat × List Value × List Value} (hz : px_s4 cl P i len M.2.2 st w = some z) : px_step cl lt P d scr M pc lv st w = some (.inr (.inr z)) := by
  unfold px_step
  rw [hq]
  show px_or ((px_s1 i len pc M.1.2.2.1 lv st).map _) (px_or ((px_s2 cl lt i len scr M.1.1.name M.1.1.cls M.2.2 st w).map _) (px_or ((px_s5 i len M.1.2.2.2.1 st).map _) (px_or ((px_s3 i len d M.2.2 st w).map _) (px_or ((px_s6 i len d M.2.2 st).map _) ((px_s4 cl P i len M.2.2 st w).map _))))) = _
  rw [px_s1_0 (px_so2_0 (by omega)), px_s2_no (by omega), px_s5_no (by omega), h3, h6, hz]
  rfl
end ONE2
end
section
/-! SIMPLE INSTRUCTIONS ON FORMS -/
def sy_cat (a : sy_A) : Nat := match a with
  | .inr (.inr _) => 2
  | _ => 1
def sy_so (a : sy_A) : Nat := match a with
  | .inl _ => 0
  | .inr (.inr _) => 1
  | .inr (.inl _) => 2
section SIM
variable {ρ : Nat → Int} {τ : Nat → Int64}
theorem sy_cat_v (a : sy_A) : (sy_v ρ τ a).category = sy_cat a := by
  match a with
  | .inl _ => rfl
  | .inr (.inl _) => rfl
  | .inr (.inr _) => rfl
theorem sy_so_v (a : sy_A) : px_so (sy_v ρ τ a) = sy_so a := by
  match a with
  | .inl _ => rfl
  | .inr (.inl _) => rfl
  | .inr (.inr _) => rfl
theorem px_look_filter {α : Type} {p : Nat × α → Bool} {k : Nat} {v : α} : ∀ {l : List (Nat × α)}, px_look l k = some v → p (k, v) = true → px_look (l.filter p) k = some v
  | [], h, _ => by cases h
  | q :: r, h, hp => by
    unfold px_look at h
    by_cases hk : q.1 = k
    · rw [if_pos hk] at h
      cases h
      have hq : q = (k, q.2) := by rw [← hk]
      have hpq : p q = true := by rw [hq]; exact hp
      rw [List.filter_cons_of_pos hpq]
      unfold px_look
      rw [if_pos hk]
    · rw [if_neg hk] at h
      have ih := px_look_filter h hp
      by_cases hpq : p q = true
      · rw [List.filter_cons_of_pos hpq]
        unfold px_look
        rw [if_neg hk]
        exact ih
      · rw [List.filter_cons_of_neg hpq]
        exact ih
def sy_sto (lv : List (Nat × sy_A)) (i : Nat) (a : sy_A) : List (Nat × sy_A) := (i, a) :: lv.filter (fun q => !(q.1 == i) && !(q.1 + 1 == i && sy_cat q.2 == 2))
theorem sy_sto_ok {lv : List (Nat × sy_A)} {lc : List (Nat × Value)} (h : sy_lvok ρ τ lv lc) (i : Nat) (a : sy_A) : sy_lvok ρ τ (sy_sto lv i a) (px_sto lc i (sy_v ρ τ a)) := by
  intro q hq
  rcases List.mem_cons.mp hq with rfl | hq
  · show px_look ((i, sy_v ρ τ a) :: _) i = _
    unfold px_look
    rw [if_pos rfl]
  · obtain ⟨h1, h2⟩ := List.mem_filter.mp hq
    have h3 := h q h1
    have h4 : q.1 ≠ i := by
      intro e
      simp [e] at h2
    show px_look ((i, sy_v ρ τ a) :: _) q.1 = _
    unfold px_look
    rw [if_neg (fun e => h4 e.symm)]
    refine px_look_filter h3 ?_
    show (!(q.1 == i) && !(q.1 + 1 == i && (sy_v ρ τ q.2).category == 2)) = true
    rw [sy_cat_v]
    exact h2
def sy_stk (i : Instr) (st : List sy_A) : Option (List sy_A) := match i, st with
  | .dup, a :: r => if sy_cat a = 1 then some (a :: a :: r) else none
  | .pop, a :: r => if sy_cat a = 1 then some r else none
  | .dup_x1, a :: b :: r => if sy_cat a = 1 ∧ sy_cat b = 1 then some (a :: b :: a :: r) else none
  | .dup2, a :: b :: r => if sy_cat a = 1 ∧ sy_cat b = 1 then some (a :: b :: a :: b :: r) else none
  | _, _ => none
theorem sy_stk_ok {i : Instr} {st z : List sy_A} (hz : sy_stk i st = some z) : px_so1 i = 7 ∧ px_stk i (st.map (sy_v ρ τ)) = some (z.map (sy_v ρ τ)) := by
  unfold sy_stk at hz
  split at hz
  · split at hz
    · rename_i h
      cases hz
      refine ⟨rfl, ?_⟩
      show (if (sy_v ρ τ _).category = 1 then _ else none) = _
      rw [sy_cat_v, if_pos h]
      rfl
    · cases hz
  · split at hz
    · rename_i h
      cases hz
      refine ⟨rfl, ?_⟩
      show (if (sy_v ρ τ _).category = 1 then _ else none) = _
      rw [sy_cat_v, if_pos h]
    · cases hz
  · split at hz
    · rename_i h
      cases hz
      refine ⟨rfl, ?_⟩
      show (if (sy_v ρ τ _).category = 1 ∧ (sy_v ρ τ _).category = 1 then _ else none) = _
      rw [sy_cat_v, sy_cat_v, if_pos h]
      rfl
    · cases hz
  · split at hz
    · rename_i h
      cases hz
      refine ⟨rfl, ?_⟩
      show (if (sy_v ρ τ _).category = 1 ∧ (sy_v ρ τ _).category = 1 then _ else none) = _
      rw [sy_cat_v, sy_cat_v, if_pos h]
      rfl
    · cases hz
  · cases hz
/-- arithmetic that stays linear, constants, goto -/
def sy_ari (i : Instr) (len pc : Nat) (st : List sy_A) : Option (Nat × List sy_A) := match i, st with
  | .iadd, .inl y :: .inl x :: r => if len = 1 then some (pc + 1, .inl (sy_add x y) :: r) else none
  | .isub, .inl y :: .inl x :: r => if len = 1 then some (pc + 1, .inl (sy_sub x y) :: r) else none
  | .imul, .inl y :: .inl x :: r => if len = 1 then (if x.2 = [] then some (pc + 1, .inl (sy_scl x.1 y) :: r) else if y.2 = [] then some (pc + 1, .inl (sy_scl y.1 x) :: r) else none) else none
  | .ineg, .inl x :: r => if len = 1 then some (pc + 1, .inl (sy_scl (-1) x) :: r) else none
  | .iconst n, r => if len = 1 then some (pc + 1, .inl (sy_c n) :: r) else none
  | .bipush n, r => if len = 2 then some (pc + 2, .inl (sy_c (Int8.ofInt n).toInt32.toInt) :: r) else none
  | .sipush n, r => if len = 3 then some (pc + 3, .inl (sy_c (Int16.ofInt n).toInt32.toInt) :: r) else none
  | .goto off, r => if len = 3 then (px_tgt pc off).map (fun t => (t, r)) else none
  | _, _ => none
theorem sy_e_nil {e : sy_L} (h : e.2 = []) : sy_e ρ e = e.1 := by
  unfold sy_e
  rw [h]
  simp [sy_s]
theorem sy_ari_ok {i : Instr} {len pc mx : Nat} {st : List sy_A} {z : Nat × List sy_A} {lc : List (Nat × Value)} (hz : sy_ari i len pc st = some z) : px_s1 i len pc mx lc (st.map (sy_v ρ τ)) = some (z.1, lc, z.2.map (sy_v ρ τ)) := by
  unfold sy_ari at hz
  split at hz
  · split at hz
    · rename_i h
      cases hz
      subst h
      refine px_s1_1 rfl ?_
      show some (pc + 1, lc, Value.int (Int32.ofInt _ + Int32.ofInt _) :: _) = some (pc + 1, lc, Value.int (Int32.ofInt (sy_e ρ (sy_add _ _))) :: _)
      rw [sy_add_e, Int32.ofInt_add]
    · cases hz
  · split at hz
    · rename_i h
      cases hz
      subst h
      refine px_s1_1 rfl ?_
      show some (pc + 1, lc, Value.int (Int32.ofInt _ - Int32.ofInt _) :: _) = some (pc + 1, lc, Value.int (Int32.ofInt (sy_e ρ (sy_sub _ _))) :: _)
      rw [sy_sub_e, Int32.ofInt_sub]
    · cases hz
  · split at hz
    · rename_i h
      subst h
      split at hz
      · rename_i hx
        cases hz
        refine px_s1_1 rfl ?_
        show some (pc + 1, lc, Value.int (Int32.ofInt _ * Int32.ofInt _) :: _) = some (pc + 1, lc, Value.int (Int32.ofInt (sy_e ρ (sy_scl _ _))) :: _)
        rw [sy_scl_e, Int32.ofInt_mul, sy_e_nil hx]
      · split at hz
        · rename_i hy
          cases hz
          refine px_s1_1 rfl ?_
          show some (pc + 1, lc, Value.int (Int32.ofInt _ * Int32.ofInt _) :: _) = some (pc + 1, lc, Value.int (Int32.ofInt (sy_e ρ (sy_scl _ _))) :: _)
          rw [sy_scl_e, Int32.ofInt_mul, sy_e_nil hy, Int32.mul_comm]
        · cases hz
    · cases hz
  · split at hz
    · rename_i h
      cases hz
      subst h
      refine px_s1_8 rfl ?_
      show some (pc + 1, lc, Value.int (-Int32.ofInt _) :: _) = some (pc + 1, lc, Value.int (Int32.ofInt (sy_e ρ (sy_scl (-1) _))) :: _)
      rw [sy_scl_e, Int.neg_mul, Int.one_mul, Int32.ofInt_neg]
    · cases hz
  · split at hz
    · rename_i h
      cases hz
      subst h
      refine px_s1_3 rfl ?_
      show some (pc + 1, lc, Value.int (Int32.ofInt _) :: _) = some (pc + 1, lc, Value.int (Int32.ofInt (sy_e ρ (sy_c _))) :: _)
      rw [sy_c_e]
    · cases hz
  · split at hz
    · rename_i h
      cases hz
      subst h
      refine px_s1_3 rfl ?_
      show some (pc + 2, lc, Value.int _ :: _) = some (pc + 2, lc, Value.int (Int32.ofInt (sy_e ρ (sy_c _))) :: _)
      rw [sy_c_e, Int32.ofInt_toInt]
    · cases hz
  · split at hz
    · rename_i h
      cases hz
      subst h
      refine px_s1_3 rfl ?_
      show some (pc + 3, lc, Value.int _ :: _) = some (pc + 3, lc, Value.int (Int32.ofInt (sy_e ρ (sy_c _))) :: _)
      rw [sy_c_e, Int32.ofInt_toInt]
    · cases hz
  · split at hz
    · rename_i h
      subst h
      obtain ⟨t, ht, h2⟩ := Option.map_eq_some_iff.mp hz
      clear hz
      subst h2
      refine px_s1_4 rfl ?_
      show ((if 3 = 3 then (px_tgt pc _).map (fun t => (t, _)) else none).map _) = _
      rw [if_pos rfl, ht]
      rfl
    · cases hz
  · cases hz
def sy_1 (i : Instr) (len pc mx : Nat) (lv : List (Nat × sy_A)) (st : List sy_A) : Option (Nat × List (Nat × sy_A) × List sy_A) :=
  if px_so1 i = 2 then (px_ld i).bind (fun q => (px_look lv q.1).bind (fun a => if len = q.2.1 ∧ sy_so a = q.2.2 then some (pc + len, lv, a :: st) else none))
  else if px_so1 i = 5 then (match st with
    | a :: r => (px_st i).bind (fun q => if len = q.2.1 ∧ sy_so a = q.2.2 ∧ q.1 < mx then some (pc + len, sy_sto lv q.1 a, r) else none)
    | [] => none)
  else if px_so1 i = 7 then (if len = 1 then (sy_stk i st).map (fun r => (pc + 1, lv, r)) else none)
  else match i with
    | .iinc k n => (px_look lv k).bind (fun a => match a with
      | .inl e => if len = 3 ∧ k < mx then some (pc + 3, sy_sto lv k (.inl (sy_add e (sy_c n))), st) else none
      | _ => none)
    | _ => (sy_ari i len pc st).map (fun z => (z.1, lv, z.2))
theorem sy_1_ok {i : Instr} {len pc mx : Nat} {lv : List (Nat × sy_A)} {st : List sy_A} {z : Nat × List (Nat × sy_A) × List sy_A} {lc : List (Nat × Value)} (hl : sy_lvok ρ τ lv lc) (hz : sy_1 i len pc mx lv st = some z) : ∃ lc', px_s1 i len pc mx lc (st.map (sy_v ρ τ)) = some (z.1, lc', z.2.2.map (sy_v ρ τ)) ∧ sy_lvok ρ τ z.2.1 lc' := by
  unfold sy_1 at hz
  split at hz
  · rename_i h2
    obtain ⟨q, hq, hz1⟩ := Option.bind_eq_some_iff.mp hz
    obtain ⟨a, ha, hz2⟩ := Option.bind_eq_some_iff.mp hz1
    clear hz hz1
    split at hz2
    · rename_i hc
      cases hz2
      refine ⟨lc, px_s1_2 h2 ?_, hl⟩
      unfold px_a2
      have h3 := hl _ (px_look_mem ha)
      rw [hq]
      show (px_look lc q.1).bind _ = _
      rw [h3]
      show (if len = q.2.1 ∧ px_so (sy_v ρ τ a) = q.2.2 then _ else none) = _
      rw [sy_so_v, if_pos hc]
      rfl
    · cases hz2
  · split at hz
    · rename_i h5
      split at hz
      · rename_i a r
        obtain ⟨q, hq, hz1⟩ := Option.bind_eq_some_iff.mp hz
        clear hz
        split at hz1
        · rename_i hc
          cases hz1
          refine ⟨px_sto lc q.1 (sy_v ρ τ a), px_s1_5 h5 ?_, sy_sto_ok hl _ _⟩
          show (px_st i).bind _ = _
          rw [hq]
          show (if len = q.2.1 ∧ px_so (sy_v ρ τ a) = q.2.2 ∧ q.1 < mx then _ else none) = _
          rw [sy_so_v, if_pos hc]
        · cases hz1
      · cases hz
    · split at hz
      · split at hz
        · rename_i h7 hc
          obtain ⟨r, hr, h2⟩ := Option.map_eq_some_iff.mp hz
          clear hz
          subst h2
          refine ⟨lc, px_s1_7 h7 ?_, hl⟩
          unfold px_a7
          rw [if_pos hc, (sy_stk_ok hr).2]
          rfl
        · cases hz
      · split at hz
        · obtain ⟨a, ha, hz1⟩ := Option.bind_eq_some_iff.mp hz
          clear hz
          split at hz1
          · rename_i e
            split at hz1
            · rename_i hc
              cases hz1
              have h3 := hl _ (px_look_mem ha)
              refine ⟨_, px_s1_6 rfl ?_, sy_sto_ok hl _ _⟩
              show (px_look lc _).bind _ = _
              rw [h3]
              show (if len = 3 ∧ _ < mx then some (pc + 3, px_sto lc _ (Value.int (Int32.ofInt (sy_e ρ e) + Int32.ofInt _)), _) else none) = some (pc + 3, px_sto lc _ (Value.int (Int32.ofInt (sy_e ρ (sy_add e (sy_c _))))), _)
              rw [if_pos hc, sy_add_e, sy_c_e, Int32.ofInt_add]
            · cases hz1
          · cases hz1
        · obtain ⟨r, hr, h2⟩ := Option.map_eq_some_iff.mp hz
          clear hz
          subst h2
          exact ⟨lc, sy_ari_ok hr, hl⟩
end SIM
end
section
/-! STEPS OF SYMBOLIC STATES -/
def sy_at (S : sy_S) (g : sy_G) (pc : Nat) (lv : List (Nat × sy_A)) (st : List sy_A) : sy_S := (g, (S.2.1.1, pc, lv, st), S.2.2)
section STEP
variable {x : sy_X} {q : sy_Q} {S : sy_S} {M : px_M} {i : Instr} {len : Nat}
theorem sy_open (h : ∀ (ρ : Nat → Int) (τ : Nat → Int64) (w : px_W) (lc : List (Nat × Value)) (cf : List pf_F) (d : Nat), sy_mem q S.1 ρ τ w → sy_lvok ρ τ S.2.1.2.2.1 lc → sy_frs ρ τ q.1 S.2.2 cf → d + cf.length = x.2.2.2.2.2.2 → pf_Fin x.1 x.2.1 x.2.2.1 x.2.2.2.1 x.2.2.2.2.1 x.2.2.2.2.2.1 cf d M S.2.1.2.1 lc (S.2.1.2.2.2.map (sy_v ρ τ)) w) (hM : q.1[S.2.1.1]? = some M) : sy_Good x q S := by
  intro ρ τ w c cf d hR hd
  obtain ⟨hm, ⟨h1, h2, h3, h4⟩, hf⟩ := hR
  have hc : c.1 = M := Option.some.inj (h1.symm.trans hM)
  rw [hc, h2, h4]
  exact h ρ τ w c.2.2.1 cf d hm h3 hf hd
theorem sy_use {g : sy_G} {pc : Nat} {lv : List (Nat × sy_A)} {st : List sy_A} (hG : sy_Good x q (sy_at S g pc lv st)) (hM : q.1[S.2.1.1]? = some M) {ρ : Nat → Int} {τ : Nat → Int64} {w : px_W} {lc : List (Nat × Value)} {cf : List pf_F} {d : Nat} (hm : sy_mem q g ρ τ w) (hl : sy_lvok ρ τ lv lc) (hf : sy_frs ρ τ q.1 S.2.2 cf) (hd : d + cf.length = x.2.2.2.2.2.2) : pf_Fin x.1 x.2.1 x.2.2.1 x.2.2.2.1 x.2.2.2.2.1 x.2.2.2.2.2.1 cf d M pc lc (st.map (sy_v ρ τ)) w := hG ρ τ w (M, pc, lc, st.map (sy_v ρ τ)) cf d ⟨hm, ⟨hM, rfl, hl, rfl⟩, hf⟩ hd
theorem sy_go1 (hM : q.1[S.2.1.1]? = some M) (hq : px_look M.2.1 S.2.1.2.1 = some (i, len)) {z : Nat × List (Nat × sy_A) × List sy_A} (hz : sy_1 i len S.2.1.2.1 M.1.2.2.1 S.2.1.2.2.1 S.2.1.2.2.2 = some z) (hG : sy_Good x q (sy_at S S.1 z.1 z.2.1 z.2.2)) : sy_Good x q S := by
  refine sy_open (fun ρ τ w lc cf d hm hl hf hd => ?_) hM
  obtain ⟨lc', hs, hl'⟩ := sy_1_ok hl hz
  exact pf_next (px_step_1 hq hs) (sy_use hG hM hm hl' hf hd)
theorem sy_zero {ρ : Nat → Int} : Int32.ofInt (sy_e ρ (sy_c 0)) = 0 := by
  rw [sy_c_e]
  rfl
theorem sy_goIf {k : Jvm.ClassFile.Cond} {off : Int} {t : Nat} {e : sy_L} {r : List sy_A} (hM : q.1[S.2.1.1]? = some M) (hq : px_look M.2.1 S.2.1.2.1 = some (.ifCond k off, 3)) (hst : S.2.1.2.2.2 = .inl e :: r) (ht : px_tgt S.2.1.2.1 off = some t)
    (hT : ∀ g', (sy_two S.1 k e (sy_c 0)).1 = some g' → sy_Good x q (sy_at S g' t S.2.1.2.2.1 r)) (hF : ∀ g', (sy_two S.1 k e (sy_c 0)).2 = some g' → sy_Good x q (sy_at S g' (S.2.1.2.1 + 3) S.2.1.2.2.1 r)) : sy_Good x q S := by
  refine sy_open (fun ρ τ w lc cf d hm hl hf hd => ?_) hM
  rw [hst]
  have h2 := sy_two_ok hm k e (sy_c 0)
  rw [sy_zero] at h2
  have hs : ∀ mx, px_s1 (.ifCond k off) 3 S.2.1.2.1 mx lc ((.inl e :: r : List sy_A).map (sy_v ρ τ)) = some (if px_cnd k (Int32.ofInt (sy_e ρ e)) 0 = true then t else S.2.1.2.1 + 3, lc, r.map (sy_v ρ τ)) := by
    intro mx
    refine px_s1_4 rfl ?_
    show ((if 3 = 3 then (px_tgt S.2.1.2.1 off).map (fun t => (if px_cnd k (Int32.ofInt (sy_e ρ e)) 0 = true then t else S.2.1.2.1 + 3, r.map (sy_v ρ τ))) else none).map _) = _
    rw [if_pos rfl, ht]
    rfl
  refine pf_next (px_step_1 hq (hs _)) ?_
  by_cases hc : px_cnd k (Int32.ofInt (sy_e ρ e)) 0 = true
  · obtain ⟨g', h3, h4⟩ := h2.1 hc
    rw [if_pos hc]
    exact sy_use (hT g' h3) hM h4 hl hf hd
  · obtain ⟨g', h3, h4⟩ := h2.2 hc
    rw [if_neg hc]
    exact sy_use (hF g' h3) hM h4 hl hf hd
theorem sy_goCmp {k : Jvm.ClassFile.Cond} {off : Int} {t : Nat} {a b : sy_L} {r : List sy_A} (hM : q.1[S.2.1.1]? = some M) (hq : px_look M.2.1 S.2.1.2.1 = some (.if_icmp k off, 3)) (hst : S.2.1.2.2.2 = .inl b :: .inl a :: r) (ht : px_tgt S.2.1.2.1 off = some t)
    (hT : ∀ g', (sy_two S.1 k a b).1 = some g' → sy_Good x q (sy_at S g' t S.2.1.2.2.1 r)) (hF : ∀ g', (sy_two S.1 k a b).2 = some g' → sy_Good x q (sy_at S g' (S.2.1.2.1 + 3) S.2.1.2.2.1 r)) : sy_Good x q S := by
  refine sy_open (fun ρ τ w lc cf d hm hl hf hd => ?_) hM
  rw [hst]
  have h2 := sy_two_ok hm k a b
  have hs : ∀ mx, px_s1 (.if_icmp k off) 3 S.2.1.2.1 mx lc ((.inl b :: .inl a :: r : List sy_A).map (sy_v ρ τ)) = some (if px_cnd k (Int32.ofInt (sy_e ρ a)) (Int32.ofInt (sy_e ρ b)) = true then t else S.2.1.2.1 + 3, lc, r.map (sy_v ρ τ)) := by
    intro mx
    refine px_s1_4 rfl ?_
    show ((if 3 = 3 then (px_tgt S.2.1.2.1 off).map (fun t => (if px_cnd k (Int32.ofInt (sy_e ρ a)) (Int32.ofInt (sy_e ρ b)) = true then t else S.2.1.2.1 + 3, r.map (sy_v ρ τ))) else none).map _) = _
    rw [if_pos rfl, ht]
    rfl
  refine pf_next (px_step_1 hq (hs _)) ?_
  by_cases hc : px_cnd k (Int32.ofInt (sy_e ρ a)) (Int32.ofInt (sy_e ρ b)) = true
  · obtain ⟨g', h3, h4⟩ := h2.1 hc
    rw [if_pos hc]
    exact sy_use (hT g' h3) hM h4 hl hf hd
  · obtain ⟨g', h3, h4⟩ := h2.2 hc
    rw [if_neg hc]
    exact sy_use (hF g' h3) hM h4 hl hf hd
/-- the ways of a switch: from place n on -/
def sy_tab (g : sy_G) (e : sy_L) (lo : Int) (pc : Nat) : List Int → Int → Option (List (sy_G × Nat))
  | [], _ => some []
  | o :: r, n => match px_tgt pc o, sy_tab g e lo pc r (n + 1) with
    | some t, some l => some (match sy_asms g [sy_sub e (sy_c (lo + n)), sy_sub (sy_c (lo + n)) e] with
      | some g' => (g', t) :: l
      | none => l)
    | _, _ => none
theorem sy_tab_ok {g : sy_G} {e : sy_L} {lo : Int} {pc : Nat} {ρ : Nat → Int} {τ : Nat → Int64} {w : px_W} (hm : sy_mem q g ρ τ w) : ∀ (os : List Int) (n : Int) (l : List (sy_G × Nat)), sy_tab g e lo pc os n = some l → ∀ (k : Nat) (o : Int), os[k]? = some o → sy_e ρ e = lo + n + k → ∃ z ∈ l, px_tgt pc o = some z.2 ∧ sy_mem q z.1 ρ τ w
  | [], _, _, _, k, o, h, _ => by simp at h
  | o1 :: r, n, l, hl, k, o, h, he => by
    unfold sy_tab at hl
    split at hl
    · rename_i t l2 ht hl2
      cases hl
      cases k with
      | zero =>
        rw [List.getElem?_cons_zero] at h
        cases h
        obtain ⟨g', h1, h2⟩ := sy_asms_ok (l := [sy_sub e (sy_c (lo + n)), sy_sub (sy_c (lo + n)) e]) hm (fun z hz => by
          rcases List.mem_cons.mp hz with rfl | hz
          · rw [sy_sub_e, sy_c_e]; omega
          · rw [List.mem_singleton.mp hz, sy_sub_e, sy_c_e]; omega)
        rw [h1]
        exact ⟨(g', t), List.mem_cons_self, ht, h2⟩
      | succ k =>
        rw [List.getElem?_cons_succ] at h
        obtain ⟨z, h1, h2⟩ := sy_tab_ok hm r (n + 1) l2 hl2 k o h (by omega)
        refine ⟨z, ?_, h2⟩
        split
        · exact List.mem_cons_of_mem _ h1
        · exact h1
    · cases hl
theorem sy_goTab {dflt lo hi : Int} {offs : Array Int} {t : Nat} {e : sy_L} {r : List sy_A} {b : Int × Int} {l : List (sy_G × Nat)} (hM : q.1[S.2.1.1]? = some M) (hq : px_look M.2.1 S.2.1.2.1 = some (.tableswitch dflt lo hi offs, len)) (hst : S.2.1.2.2.2 = .inl e :: r) (ht : px_tgt S.2.1.2.1 dflt = some t) (hb : sy_b S.1.1 e = some b) (hfit : sy_fit b = true) (hlen : offs.size = (hi - lo + 1).toNat) (hl : sy_tab S.1 e lo S.2.1.2.1 offs.toList 0 = some l)
    (hT : ∀ z ∈ l, sy_Good x q (sy_at S z.1 z.2 S.2.1.2.2.1 r)) (hF1 : ∀ g', sy_asm S.1 (sy_add (sy_sub (sy_c lo) e) (sy_c (-1))) = some g' → sy_Good x q (sy_at S g' t S.2.1.2.2.1 r)) (hF2 : ∀ g', sy_asm S.1 (sy_add (sy_sub e (sy_c hi)) (sy_c (-1))) = some g' → sy_Good x q (sy_at S g' t S.2.1.2.2.1 r)) : sy_Good x q S := by
  refine sy_open (fun ρ τ w lc cf d hm hlv hf hd => ?_) hM
  rw [hst]
  obtain ⟨b1, b2⟩ := sy_b_e hm.2.1 hb
  have ex := sy_fit_e hfit b1 b2
  have hbr : px_br (.tableswitch dflt lo hi offs) S.2.1.2.1 len ((.inl e :: r : List sy_A).map (sy_v ρ τ)) = (if (Int32.ofInt (sy_e ρ e)).toInt < lo ∨ hi < (Int32.ofInt (sy_e ρ e)).toInt then (px_tgt S.2.1.2.1 dflt).map (fun t => (t, r.map (sy_v ρ τ))) else (offs[((Int32.ofInt (sy_e ρ e)).toInt - lo).toNat]?.bind (fun o => px_tgt S.2.1.2.1 o)).map (fun t => (t, r.map (sy_v ρ τ)))) := rfl
  rw [ex] at hbr
  have fin : ∀ t2 : Nat, px_br (.tableswitch dflt lo hi offs) S.2.1.2.1 len ((.inl e :: r : List sy_A).map (sy_v ρ τ)) = some (t2, r.map (sy_v ρ τ)) → ∀ mx, px_s1 (.tableswitch dflt lo hi offs) len S.2.1.2.1 mx lc ((.inl e :: r : List sy_A).map (sy_v ρ τ)) = some (t2, lc, r.map (sy_v ρ τ)) := by
    intro t2 h mx
    refine px_s1_4 rfl ?_
    unfold px_a4
    rw [h]
    rfl
  by_cases hc : sy_e ρ e < lo ∨ hi < sy_e ρ e
  · rw [if_pos hc, ht] at hbr
    refine pf_next (px_step_1 hq (fin t hbr _)) ?_
    rcases hc with hc | hc
    · obtain ⟨g', h1, h2⟩ := sy_asm_ok hm (e := sy_add (sy_sub (sy_c lo) e) (sy_c (-1))) (by rw [sy_add_e, sy_sub_e, sy_c_e, sy_c_e]; omega)
      exact sy_use (hF1 g' h1) hM h2 hlv hf hd
    · obtain ⟨g', h1, h2⟩ := sy_asm_ok hm (e := sy_add (sy_sub e (sy_c hi)) (sy_c (-1))) (by rw [sy_add_e, sy_sub_e, sy_c_e, sy_c_e]; omega)
      exact sy_use (hF2 g' h1) hM h2 hlv hf hd
  · rw [if_neg hc] at hbr
    have hk : (sy_e ρ e - lo).toNat < offs.size := by rw [hlen]; omega
    have ho : offs[(sy_e ρ e - lo).toNat]? = some offs[(sy_e ρ e - lo).toNat] := Array.getElem?_eq_getElem hk
    obtain ⟨z, z1, z2, z3⟩ := sy_tab_ok hm offs.toList 0 l hl (sy_e ρ e - lo).toNat offs[(sy_e ρ e - lo).toNat] (by rw [Array.getElem?_toList]; exact ho) (by omega)
    rw [ho] at hbr
    simp only [Option.bind_some, z2, Option.map_some] at hbr
    refine pf_next (px_step_1 hq (fin z.2 hbr _)) ?_
    exact sy_use (hT z z1) hM z3 hlv hf hd
end STEP
end
section
/-! STEPS THAT GIVE A NEW NUMBER -/
section FR
variable {x : sy_X} {q : sy_Q} {S : sy_S} {M : px_M} {i : Instr} {len : Nat}
theorem sy_goF {rg : Int × Int} {pc' : Nat} {pre r : List sy_A} (hw : sy_wS S = true) (hM : q.1[S.2.1.1]? = some M) (hst : S.2.1.2.2.2 = pre ++ r)
    (hs : ∀ (ρ : Nat → Int) (τ : Nat → Int64) (w : px_W) (lc : List (Nat × Value)) (cf : List pf_F) (d : Nat), sy_mem q S.1 ρ τ w → d + cf.length = x.2.2.2.2.2.2 → ∃ Z : Int32, rg.1 ≤ Z.toInt ∧ Z.toInt ≤ rg.2 ∧ px_step x.1 x.2.1 x.2.2.1 d (pf_scr x.2.2.2.1 cf) M S.2.1.2.1 lc (S.2.1.2.2.2.map (sy_v ρ τ)) w = some (.inl (pc', lc, .int Z :: r.map (sy_v ρ τ), w, 0, 0)))
    (hG : sy_Good x q (sy_at S (sy_new S.1 rg) pc' S.2.1.2.2.1 (.inl (sy_x S.1.1.length) :: r))) : sy_Good x q S := by
  refine sy_open (fun ρ τ w lc cf d hm hl hf hd => ?_) hM
  obtain ⟨Z, h1, h2, h3⟩ := hs ρ τ w lc cf d hm hd
  obtain ⟨ρ', e1, e2, hm', ⟨f1, f2, f3, f4⟩, hf'⟩ := sy_fresh (c := (M, S.2.1.2.1, lc, S.2.1.2.2.2.map (sy_v ρ τ))) hw ⟨hm, ⟨hM, rfl, hl, rfl⟩, hf⟩ h1 h2
  refine pf_next h3 ?_
  have f4' : S.2.1.2.2.2.map (sy_v ρ τ) = S.2.1.2.2.2.map (sy_v ρ' τ) := f4
  rw [hst, List.map_append, List.map_append] at f4'
  have hr := (List.append_inj' f4' (by rw [List.length_map, List.length_map])).2
  have hu := sy_use hG hM hm' f3 hf' hd
  have e3 : (.inl (sy_x S.1.1.length) :: r : List sy_A).map (sy_v ρ' τ) = .int Z :: r.map (sy_v ρ τ) := by
    show Value.int (Int32.ofInt (sy_e ρ' (sy_x S.1.1.length))) :: r.map (sy_v ρ' τ) = _
    rw [sy_x_e, e2, Int32.ofInt_toInt, hr]
  rw [e3] at hu
  exact hu
theorem sy_goFL {pc' : Nat} {pre r : List sy_A} (hw : sy_wS S = true) (hM : q.1[S.2.1.1]? = some M) (hst : S.2.1.2.2.2 = pre ++ r)
    (hs : ∀ (ρ : Nat → Int) (τ : Nat → Int64) (w : px_W) (lc : List (Nat × Value)) (cf : List pf_F) (d : Nat), sy_mem q S.1 ρ τ w → d + cf.length = x.2.2.2.2.2.2 → ∃ Z : Int64, px_step x.1 x.2.1 x.2.2.1 d (pf_scr x.2.2.2.1 cf) M S.2.1.2.1 lc (S.2.1.2.2.2.map (sy_v ρ τ)) w = some (.inl (pc', lc, .long Z :: r.map (sy_v ρ τ), w, 0, 0)))
    (hG : sy_Good x q (sy_at S (S.1.1, S.1.2.1 + 1, S.1.2.2) pc' S.2.1.2.2.1 (.inr (.inr S.1.2.1) :: r))) : sy_Good x q S := by
  refine sy_open (fun ρ τ w lc cf d hm hl hf hd => ?_) hM
  obtain ⟨Z, h3⟩ := hs ρ τ w lc cf d hm hd
  obtain ⟨τ', e2, -, hm', ⟨f1, f2, f3, f4⟩, hf'⟩ := sy_freshL (c := (M, S.2.1.2.1, lc, S.2.1.2.2.2.map (sy_v ρ τ))) hw ⟨hm, ⟨hM, rfl, hl, rfl⟩, hf⟩ Z
  refine pf_next h3 ?_
  have f4' : S.2.1.2.2.2.map (sy_v ρ τ) = S.2.1.2.2.2.map (sy_v ρ τ') := f4
  rw [hst, List.map_append, List.map_append] at f4'
  have hr := (List.append_inj' f4' (by rw [List.length_map, List.length_map])).2
  have hu := sy_use hG hM hm' f3 hf' hd
  have e3 : (.inr (.inr S.1.2.1) :: r : List sy_A).map (sy_v ρ τ') = .long Z :: r.map (sy_v ρ τ) := by
    show Value.long (τ' S.1.2.1) :: r.map (sy_v ρ τ') = _
    rw [e2, hr]
  rw [e3] at hu
  exact hu
end FR
/-! forms with known symbols put in -/
def sy_nml (R : sy_T) : List (Nat × Int) → sy_L
  | [] => (0, [])
  | t :: r => match R[t.1]? with
    | some p => if p.1 = p.2 then ((sy_nml R r).1 + t.2 * p.1, (sy_nml R r).2) else ((sy_nml R r).1, t :: (sy_nml R r).2)
    | none => ((sy_nml R r).1, t :: (sy_nml R r).2)
def sy_nm (R : sy_T) (e : sy_L) : sy_L := (e.1 + (sy_nml R e.2).1, (sy_nml R e.2).2)
theorem sy_nml_e {ρ : Nat → Int} {R : sy_T} (h : sy_ok ρ R) : ∀ l : List (Nat × Int), sy_e ρ (sy_nml R l) = sy_s ρ l
  | [] => by simp [sy_nml, sy_e, sy_s]
  | t :: r => by
    have ih := sy_nml_e h r
    unfold sy_e at ih
    unfold sy_nml
    split
    · rename_i p hp
      have h1 := h _ _ hp
      split
      · rename_i he
        show (sy_nml R r).1 + t.2 * p.1 + sy_s ρ (sy_nml R r).2 = t.2 * ρ t.1 + sy_s ρ r
        have : ρ t.1 = p.1 := by omega
        rw [this, ← ih]
        omega
      · show (sy_nml R r).1 + (t.2 * ρ t.1 + sy_s ρ (sy_nml R r).2) = t.2 * ρ t.1 + sy_s ρ r
        rw [← ih]
        omega
    · show (sy_nml R r).1 + (t.2 * ρ t.1 + sy_s ρ (sy_nml R r).2) = t.2 * ρ t.1 + sy_s ρ r
      rw [← ih]
      omega
theorem sy_nm_e {ρ : Nat → Int} {R : sy_T} (h : sy_ok ρ R) (e : sy_L) : sy_e ρ (sy_nm R e) = sy_e ρ e := by
  have := sy_nml_e h e.2
  unfold sy_e at this ⊢
  show e.1 + (sy_nml R e.2).1 + sy_s ρ (sy_nml R e.2).2 = _
  omega
/-! what two ints give: a range -/
def sy_lim (p : Int) : Int := if p ≤ 1 then 1 else if p ≤ 3 then 3 else if p ≤ 7 then 7 else if p ≤ 15 then 15 else if p ≤ 31 then 31 else if p ≤ 63 then 63 else if p ≤ 127 then 127 else if p ≤ 255 then 255 else if p ≤ 511 then 511 else if p ≤ 1023 then 1023 else if p ≤ 2047 then 2047 else if p ≤ 4095 then 4095 else 2147483647
def sy_rl (i : Instr) (a b : Int × Int) : Option (Int × Int) := match i with
  | .iand => if 0 ≤ b.1 then some (0, b.2) else if 0 ≤ a.1 then some (0, a.2) else some sy_full
  | .ior => if 0 ≤ a.1 ∧ 0 ≤ b.1 then some (0, sy_lim (max a.2 b.2)) else some sy_full
  | .idiv => if 0 < b.1 ∨ b.2 < 0 then (if 0 < b.1 then some (if 0 ≤ a.1 then 0 else -((-a.1) / b.1), if 0 ≤ a.2 then a.2 / b.1 else 0) else some sy_full) else none
  | .irem => if 0 < b.1 ∨ b.2 < 0 then (if 0 ≤ a.1 ∧ 0 < b.1 then some (0, b.2 - 1) else some sy_full) else none
  | .imul | .ixor | .ishl | .ishr | .iushr => some sy_full
  | _ => none
theorem sy_full_in (z : Int32) : sy_full.1 ≤ z.toInt ∧ z.toInt ≤ sy_full.2 := sy_int_bounds z
theorem sy_nn {v : BitVec 32} (h : 0 ≤ v.toInt) : v.msb = false := by
  rw [BitVec.msb_eq_toInt]
  simp
  omega
theorem sy_and_r (a b : Int32) (h : 0 ≤ b.toInt) : 0 ≤ (a &&& b).toInt ∧ (a &&& b).toInt ≤ b.toInt := by
  have hb : b.toBitVec.msb = false := sy_nn h
  have hm : (a.toBitVec &&& b.toBitVec).msb = false := by rw [BitVec.msb_and, hb, Bool.and_false]
  have e1 : (a &&& b).toInt = ((a.toBitVec &&& b.toBitVec).toNat : Int) := BitVec.toInt_eq_toNat_of_msb hm
  have e2 : b.toInt = (b.toBitVec.toNat : Int) := BitVec.toInt_eq_toNat_of_msb hb
  rw [e1, e2, BitVec.toNat_and]
  have := Nat.and_le_right (n := a.toBitVec.toNat) (m := b.toBitVec.toNat)
  omega
theorem sy_and_l (a b : Int32) (h : 0 ≤ a.toInt) : 0 ≤ (a &&& b).toInt ∧ (a &&& b).toInt ≤ a.toInt := by
  rw [Int32.and_comm]
  exact sy_and_r b a h
theorem sy_or_b (a b : Int32) (ha : 0 ≤ a.toInt) (hb : 0 ≤ b.toInt) (n : Nat) (h1 : a.toInt < (2 ^ n : Nat)) (h2 : b.toInt < (2 ^ n : Nat)) : 0 ≤ (a ||| b).toInt ∧ (a ||| b).toInt < (2 ^ n : Nat) := by
  have ma : a.toBitVec.msb = false := sy_nn ha
  have mb : b.toBitVec.msb = false := sy_nn hb
  have hm : (a.toBitVec ||| b.toBitVec).msb = false := by rw [BitVec.msb_or, ma, mb]; rfl
  have e1 : (a ||| b).toInt = ((a.toBitVec ||| b.toBitVec).toNat : Int) := BitVec.toInt_eq_toNat_of_msb hm
  have e2 : b.toInt = (b.toBitVec.toNat : Int) := BitVec.toInt_eq_toNat_of_msb mb
  have e3 : a.toInt = (a.toBitVec.toNat : Int) := BitVec.toInt_eq_toNat_of_msb ma
  rw [e1, BitVec.toNat_or]
  have := Nat.or_lt_two_pow (x := a.toBitVec.toNat) (y := b.toBitVec.toNat) (n := n) (by omega) (by omega)
  omega
theorem sy_or_lim (a b : Int32) (ha : 0 ≤ a.toInt) (hb : 0 ≤ b.toInt) (p : Int) (h1 : a.toInt ≤ p) (h2 : b.toInt ≤ p) : 0 ≤ (a ||| b).toInt ∧ (a ||| b).toInt ≤ sy_lim p := by
  have key : ∀ n : Nat, p < (2 ^ n : Nat) → 0 ≤ (a ||| b).toInt ∧ (a ||| b).toInt < (2 ^ n : Nat) := fun n h => sy_or_b a b ha hb n (by omega) (by omega)
  have hb2 := sy_int_bounds (a ||| b)
  unfold sy_lim
  split
  · have := key 1 (by omega); omega
  split
  · have := key 2 (by omega); omega
  split
  · have := key 3 (by omega); omega
  split
  · have := key 4 (by omega); omega
  split
  · have := key 5 (by omega); omega
  split
  · have := key 6 (by omega); omega
  split
  · have := key 7 (by omega); omega
  split
  · have := key 8 (by omega); omega
  split
  · have := key 9 (by omega); omega
  split
  · have := key 10 (by omega); omega
  split
  · have := key 11 (by omega); omega
  split
  · have := key 12 (by omega); omega
  · refine ⟨?_, by omega⟩
    have ma : a.toBitVec.msb = false := sy_nn ha
    have mb : b.toBitVec.msb = false := sy_nn hb
    have hm : (a.toBitVec ||| b.toBitVec).msb = false := by rw [BitVec.msb_or, ma, mb]; rfl
    have e1 : (a ||| b).toInt = ((a.toBitVec ||| b.toBitVec).toNat : Int) := BitVec.toInt_eq_toNat_of_msb hm
    omega
end
section
/-! TWO INTS, BY RANGES -/
theorem sy_dv0 {x y a b : Int} (h0 : 0 ≤ x) (h : x ≤ a) (hb : 0 < b) (hy : b ≤ y) : 0 ≤ x.tdiv y ∧ x.tdiv y ≤ a / b := by
  rw [Int.tdiv_eq_ediv_of_nonneg h0]
  have h1 : 0 ≤ x / y := Int.ediv_nonneg h0 (by omega)
  refine ⟨h1, (Int.le_ediv_iff_mul_le hb).mpr ?_⟩
  have h2 := Int.mul_le_mul_of_nonneg_left hy h1
  have h3 := Int.ediv_mul_le x (show y ≠ 0 by omega)
  omega
theorem sy_dv {x y a1 a2 b1 : Int} (h1 : a1 ≤ x) (h2 : x ≤ a2) (hb : 0 < b1) (hy : b1 ≤ y) : (if 0 ≤ a1 then 0 else -((-a1) / b1)) ≤ x.tdiv y ∧ x.tdiv y ≤ (if 0 ≤ a2 then a2 / b1 else 0) := by
  by_cases hx : 0 ≤ x
  · obtain ⟨h3, h4⟩ := sy_dv0 hx h2 hb hy
    rw [if_pos (show 0 ≤ a2 by omega)]
    refine ⟨?_, h4⟩
    split
    · exact h3
    · have := Int.ediv_nonneg (show 0 ≤ -a1 by omega) (Int.le_of_lt hb)
      omega
  · obtain ⟨h3, h4⟩ := sy_dv0 (x := -x) (by omega) (show -x ≤ -a1 by omega) hb hy
    rw [Int.neg_tdiv] at h3 h4
    rw [if_neg (show ¬ 0 ≤ a1 by omega)]
    refine ⟨by omega, ?_⟩
    split
    · have := Int.ediv_nonneg (show 0 ≤ a2 by assumption) (Int.le_of_lt hb)
      omega
    · omega
theorem sy_ne0 {b : Int × Int} {Y : Int32} (h : 0 < b.1 ∨ b.2 < 0) (hb : b.1 ≤ Y.toInt ∧ Y.toInt ≤ b.2) : ¬ Y = 0 := by
  intro e
  rw [e] at hb
  have : (0 : Int32).toInt = 0 := rfl
  omega
theorem sy_rl_ok {i : Instr} {a b r : Int × Int} {X Y : Int32} (h : sy_rl i a b = some r) (ha : a.1 ≤ X.toInt ∧ X.toInt ≤ a.2) (hb : b.1 ≤ Y.toInt ∧ Y.toInt ≤ b.2) : ∃ Z, px_bin i X Y = some Z ∧ r.1 ≤ Z.toInt ∧ Z.toInt ≤ r.2 := by
  unfold sy_rl at h
  split at h
  · split at h
    · cases h
      have := sy_and_r X Y (by omega)
      exact ⟨_, rfl, by show 0 ≤ _; omega, by show _ ≤ b.2; omega⟩
    · split at h
      · cases h
        have := sy_and_l X Y (by omega)
        exact ⟨_, rfl, by show 0 ≤ _; omega, by show _ ≤ a.2; omega⟩
      · cases h
        exact ⟨_, rfl, sy_full_in _⟩
  · split at h
    · cases h
      have := sy_or_lim X Y (by omega) (by omega) (max a.2 b.2) (by omega) (by omega)
      exact ⟨_, rfl, this.1, this.2⟩
    · cases h
      exact ⟨_, rfl, sy_full_in _⟩
  · split at h
    · rename_i hn
      have hne := sy_ne0 hn hb
      have hp : px_bin .idiv X Y = some (X / Y) := if_neg hne
      split at h
      · rename_i hc
        cases h
        have hm1 : Y ≠ -1 := by
          intro e
          rw [e] at hb
          have : (-1 : Int32).toInt = -1 := rfl
          omega
        have e1 := Int32.toInt_div_of_ne_right X Y hm1
        refine ⟨_, hp, ?_⟩
        rw [e1]
        exact sy_dv ha.1 ha.2 hc hb.1
      · cases h
        exact ⟨_, hp, sy_full_in _⟩
    · cases h
  · split at h
    · rename_i hn
      have hne := sy_ne0 hn hb
      have hp : px_bin .irem X Y = some (X - X / Y * Y) := if_neg hne
      split at h
      · rename_i hc
        cases h
        have hm1 : Y ≠ -1 := by
          intro e
          rw [e] at hb
          have : (-1 : Int32).toInt = -1 := rfl
          omega
        have e1 := Int32.toInt_div_of_ne_right X Y hm1
        have e2 : X - X / Y * Y = Int32.ofInt (X.toInt.tmod Y.toInt) := by
          rw [Int.tmod_def, Int32.ofInt_sub, Int32.ofInt_toInt, Int32.ofInt_mul, ← e1, Int32.ofInt_toInt, Int32.ofInt_toInt, Int32.mul_comm]
        have h1 := Int.tmod_nonneg (a := X.toInt) Y.toInt (by omega)
        have h2 := Int.tmod_lt_of_pos X.toInt (b := Y.toInt) (by omega)
        have hY := sy_int_bounds Y
        have e3 : (X - X / Y * Y).toInt = X.toInt.tmod Y.toInt := by
          rw [e2]
          exact Int32.toInt_ofInt_of_le (by omega) (by omega)
        exact ⟨_, hp, by show 0 ≤ (X - X / Y * Y).toInt; omega, by show (X - X / Y * Y).toInt ≤ b.2 - 1; omega⟩
      · cases h
        exact ⟨_, hp, sy_full_in _⟩
    · cases h
  all_goals first
    | (cases h; exact ⟨_, rfl, sy_full_in _⟩)
    | cases h
def sy_enY (i : Instr) (X : Int32) (lo : Int) : Nat → Option (Int × Int)
  | 0 => (px_bin i X (Int32.ofInt lo)).map (fun z => (z.toInt, z.toInt))
  | n + 1 => match px_bin i X (Int32.ofInt (lo + ((n + 1 : Nat) : Int))), sy_enY i X lo n with
    | some z, some r => some (min r.1 z.toInt, max r.2 z.toInt)
    | _, _ => none
theorem sy_enY_ok {i : Instr} {X : Int32} {lo : Int} : ∀ (n : Nat) (r : Int × Int), sy_enY i X lo n = some r → ∀ k : Nat, k ≤ n → ∃ Z, px_bin i X (Int32.ofInt (lo + (k : Int))) = some Z ∧ r.1 ≤ Z.toInt ∧ Z.toInt ≤ r.2
  | 0, r, h, k, hk => by
    obtain ⟨z, hz, rfl⟩ := Option.map_eq_some_iff.mp h
    have hk0 : k = 0 := by omega
    subst hk0
    refine ⟨z, ?_, Int.le_refl _, Int.le_refl _⟩
    rw [show lo + ((0 : Nat) : Int) = lo by omega]
    exact hz
  | n + 1, r, h, k, hk => by
    unfold sy_enY at h
    split at h
    · rename_i z r' hz hr
      cases h
      rcases Nat.lt_or_ge n k with hk1 | hk1
      · have hk2 : k = n + 1 := by omega
        subst hk2
        exact ⟨z, hz, by show min _ _ ≤ _; omega, by show _ ≤ max _ _; omega⟩
      · obtain ⟨Z, h1, h2, h3⟩ := sy_enY_ok n r' hr k hk1
        exact ⟨Z, h1, by show min _ _ ≤ _; omega, by show _ ≤ max _ _; omega⟩
    · cases h
def sy_enX (i : Instr) (Y : Int32) (lo : Int) : Nat → Option (Int × Int)
  | 0 => (px_bin i (Int32.ofInt lo) Y).map (fun z => (z.toInt, z.toInt))
  | n + 1 => match px_bin i (Int32.ofInt (lo + ((n + 1 : Nat) : Int))) Y, sy_enX i Y lo n with
    | some z, some r => some (min r.1 z.toInt, max r.2 z.toInt)
    | _, _ => none
theorem sy_enX_ok {i : Instr} {Y : Int32} {lo : Int} : ∀ (n : Nat) (r : Int × Int), sy_enX i Y lo n = some r → ∀ k : Nat, k ≤ n → ∃ Z, px_bin i (Int32.ofInt (lo + (k : Int))) Y = some Z ∧ r.1 ≤ Z.toInt ∧ Z.toInt ≤ r.2
  | 0, r, h, k, hk => by
    obtain ⟨z, hz, rfl⟩ := Option.map_eq_some_iff.mp h
    have hk0 : k = 0 := by omega
    subst hk0
    refine ⟨z, ?_, Int.le_refl _, Int.le_refl _⟩
    rw [show lo + ((0 : Nat) : Int) = lo by omega]
    exact hz
  | n + 1, r, h, k, hk => by
    unfold sy_enX at h
    split at h
    · rename_i z r' hz hr
      cases h
      rcases Nat.lt_or_ge n k with hk1 | hk1
      · have hk2 : k = n + 1 := by omega
        subst hk2
        exact ⟨z, hz, by show min _ _ ≤ _; omega, by show _ ≤ max _ _; omega⟩
      · obtain ⟨Z, h1, h2, h3⟩ := sy_enX_ok n r' hr k hk1
        exact ⟨Z, h1, by show min _ _ ≤ _; omega, by show _ ≤ max _ _; omega⟩
    · cases h
def sy_tot (i : Instr) : Bool := match i with
  | .iadd | .isub | .imul | .iand | .ior | .ixor | .ishl | .ishr | .iushr => true
  | _ => false
theorem sy_tot_ok {i : Instr} (h : sy_tot i = true) (X Y : Int32) : ∃ Z, px_bin i X Y = some Z := by
  unfold sy_tot at h
  split at h <;> first | exact ⟨_, rfl⟩ | cases h
/-- a range for what two ints give -/
def sy_bn (R : sy_T) (i : Instr) (x y : sy_L) : Option (Int × Int) := match sy_b R x, sy_b R y with
  | some a, some b => if sy_fit a = true ∧ sy_fit b = true then
      (if a.1 = a.2 ∧ b.2 - b.1 ≤ 200 then sy_enY i (Int32.ofInt a.1) b.1 (b.2 - b.1).toNat
      else if b.1 = b.2 ∧ a.2 - a.1 ≤ 200 then sy_enX i (Int32.ofInt b.1) a.1 (a.2 - a.1).toNat
      else sy_rl i a b)
    else if sy_tot i = true then some sy_full else none
  | _, _ => if sy_tot i = true then some sy_full else none
theorem sy_bn_ok {ρ : Nat → Int} {R : sy_T} (h : sy_ok ρ R) {i : Instr} {x y : sy_L} {r : Int × Int} (hr : sy_bn R i x y = some r) : ∃ Z, px_bin i (Int32.ofInt (sy_e ρ x)) (Int32.ofInt (sy_e ρ y)) = some Z ∧ r.1 ≤ Z.toInt ∧ Z.toInt ≤ r.2 := by
  have tot : sy_tot i = true → r = sy_full → ∃ Z, px_bin i (Int32.ofInt (sy_e ρ x)) (Int32.ofInt (sy_e ρ y)) = some Z ∧ r.1 ≤ Z.toInt ∧ Z.toInt ≤ r.2 := fun ht e => by
    obtain ⟨Z, hZ⟩ := sy_tot_ok ht (Int32.ofInt (sy_e ρ x)) (Int32.ofInt (sy_e ρ y))
    subst e
    exact ⟨Z, hZ, sy_full_in Z⟩
  unfold sy_bn at hr
  split at hr
  · rename_i a b ha hb
    obtain ⟨a1, a2⟩ := sy_b_e h ha
    obtain ⟨b1, b2⟩ := sy_b_e h hb
    split at hr
    · rename_i hf
      have ex := sy_fit_e hf.1 a1 a2
      have ey := sy_fit_e hf.2 b1 b2
      split at hr
      · rename_i hc
        obtain ⟨Z, h1, h2⟩ := sy_enY_ok _ _ hr (sy_e ρ y - b.1).toNat (by omega)
        rw [show b.1 + (((sy_e ρ y - b.1).toNat : Nat) : Int) = sy_e ρ y by omega, show a.1 = sy_e ρ x by omega] at h1
        exact ⟨Z, h1, h2⟩
      · split at hr
        · rename_i hc
          obtain ⟨Z, h1, h2⟩ := sy_enX_ok _ _ hr (sy_e ρ x - a.1).toNat (by omega)
          rw [show a.1 + (((sy_e ρ x - a.1).toNat : Nat) : Int) = sy_e ρ x by omega, show b.1 = sy_e ρ y by omega] at h1
          exact ⟨Z, h1, h2⟩
        · exact sy_rl_ok hr (by omega) (by omega)
    · split at hr
      · rename_i ht
        exact tot ht (Option.some.inj hr).symm
      · cases hr
  · split at hr
    · rename_i ht
      exact tot ht (Option.some.inj hr).symm
    · cases hr
section BN
variable {x : sy_X} {q : sy_Q} {S : sy_S} {M : px_M} {i : Instr}
theorem sy_goBin {a b : sy_L} {r : List sy_A} {rg : Int × Int} (hw : sy_wS S = true) (hM : q.1[S.2.1.1]? = some M) (hq : px_look M.2.1 S.2.1.2.1 = some (i, 1)) (h1 : px_so1 i = 1) (hst : S.2.1.2.2.2 = .inl b :: .inl a :: r) (hr : sy_bn S.1.1 i a b = some rg)
    (hG : sy_Good x q (sy_at S (sy_new S.1 rg) (S.2.1.2.1 + 1) S.2.1.2.2.1 (.inl (sy_x S.1.1.length) :: r))) : sy_Good x q S := by
  refine sy_goF (pre := [.inl b, .inl a]) hw hM hst (fun ρ τ w lc cf d hm _ => ?_) hG
  obtain ⟨Z, h2, h3, h4⟩ := sy_bn_ok hm.2.1 hr
  refine (fun hs : px_s1 i 1 S.2.1.2.1 M.1.2.2.1 lc (S.2.1.2.2.2.map (sy_v ρ τ)) = some (S.2.1.2.1 + 1, lc, .int Z :: r.map (sy_v ρ τ)) => ⟨Z, h3, h4, px_step_1 hq hs⟩) ?_
  refine px_s1_1 h1 ?_
  rw [hst]
  show (if 1 = 1 then (px_bin i (Int32.ofInt (sy_e ρ a)) (Int32.ofInt (sy_e ρ b))).map _ else none) = _
  rw [if_pos rfl, h2]
  rfl
/-- narrowing and widening: 1 to a byte, 2 to a short, 3 to a char, 4 to a long; of a long 5 to an int -/
theorem sy_ch0 {z : UInt32} (h : z.toNat < 65536) : 0 ≤ z.toInt32.toInt ∧ z.toInt32.toInt ≤ 65535 := by
  have h1 : z.toInt32.toInt = z.toBitVec.toInt := rfl
  rw [BitVec.toInt_eq_toNat_cond] at h1
  have hn : z.toBitVec.toNat = z.toNat := rfl
  rw [hn] at h1
  split at h1 <;> omega
theorem sy_ch1 {x : Int32} (h0 : 0 ≤ x.toInt) (h1 : x.toInt ≤ 65535) : x.toUInt32.toUInt16.toUInt32.toInt32 = x := by
  have h2 : x.toInt = x.toUInt32.toBitVec.toInt := rfl
  rw [BitVec.toInt_eq_toNat_cond] at h2
  have hn : x.toUInt32.toBitVec.toNat = x.toUInt32.toNat := rfl
  rw [hn] at h2
  have h3 := x.toUInt32.toNat_lt
  have h4 : x.toUInt32.toNat < 65536 := by split at h2 <;> omega
  have h5 : x.toUInt32.toUInt16.toUInt32 = x.toUInt32 := by
    apply UInt32.toNat_inj.mp
    rw [UInt16.toNat_toUInt32, UInt32.toNat_toUInt16]
    exact Nat.mod_eq_of_lt h4
  rw [h5]
  rfl
def sy_u (i : Instr) (a : sy_A) : Option (Int × Int) := match i, a with
  | .i2b, .inl _ => some (-128, 127)
  | .i2s, .inl _ => some (-32768, 32767)
  | .i2c, .inl _ => some (0, 65535)
  | .l2i, .inr (.inr _) => some sy_full
  | _, _ => none
theorem sy_u_ok {ρ : Nat → Int} {τ : Nat → Int64} {i : Instr} {a : sy_A} {r : Int × Int} (h : sy_u i a = some r) : px_so1 i = 8 ∧ ∃ Z : Int32, px_un i (sy_v ρ τ a) = some (.int Z) ∧ r.1 ≤ Z.toInt ∧ Z.toInt ≤ r.2 := by
  unfold sy_u at h
  split at h
  · rename_i e
    cases h
    refine ⟨rfl, _, rfl, ?_, ?_⟩
    · rw [Int8.toInt_toInt32]
      have := Int8.le_toInt (Int32.ofInt (sy_e ρ e)).toInt8
      show (-128 : Int) ≤ _
      omega
    · rw [Int8.toInt_toInt32]
      have := Int8.toInt_lt (Int32.ofInt (sy_e ρ e)).toInt8
      show _ ≤ (127 : Int)
      omega
  · rename_i e
    cases h
    refine ⟨rfl, _, rfl, ?_, ?_⟩
    · rw [Int16.toInt_toInt32]
      have := Int16.le_toInt (Int32.ofInt (sy_e ρ e)).toInt16
      show (-32768 : Int) ≤ _
      omega
    · rw [Int16.toInt_toInt32]
      have := Int16.toInt_lt (Int32.ofInt (sy_e ρ e)).toInt16
      show _ ≤ (32767 : Int)
      omega
  · rename_i e
    cases h
    refine ⟨rfl, _, rfl, sy_ch0 ?_⟩
    rw [UInt32.toNat_mod]
    exact Nat.mod_lt _ (by decide)
  · cases h
    exact ⟨rfl, _, rfl, sy_full_in _⟩
  · cases h
theorem sy_goU {a : sy_A} {r : List sy_A} {rg : Int × Int} (hw : sy_wS S = true) (hM : q.1[S.2.1.1]? = some M) (hq : px_look M.2.1 S.2.1.2.1 = some (i, 1)) (hst : S.2.1.2.2.2 = a :: r) (hr : sy_u i a = some rg)
    (hG : sy_Good x q (sy_at S (sy_new S.1 rg) (S.2.1.2.1 + 1) S.2.1.2.2.1 (.inl (sy_x S.1.1.length) :: r))) : sy_Good x q S := by
  refine sy_goF (pre := [a]) hw hM hst (fun ρ τ w lc cf d hm _ => ?_) hG
  obtain ⟨h8, Z, h2, h3, h4⟩ := sy_u_ok (ρ := ρ) (τ := τ) hr
  refine (fun hs : px_s1 i 1 S.2.1.2.1 M.1.2.2.1 lc (S.2.1.2.2.2.map (sy_v ρ τ)) = some (S.2.1.2.1 + 1, lc, .int Z :: r.map (sy_v ρ τ)) => ⟨Z, h3, h4, px_step_1 hq hs⟩) ?_
  refine px_s1_8 h8 ?_
  rw [hst]
  show (if 1 = 1 then (px_un i (sy_v ρ τ a)).map _ else none) = _
  rw [if_pos rfl, h2]
  rfl
/-- what gives a long: 1 taken from the stack, or 2 -/
def sy_ul (i : Instr) (st : List sy_A) : Option (List sy_A × List sy_A) := match i, st with
  | .lconst _, r => some ([], r)
  | .i2l, .inl a :: r => some ([.inl a], r)
  | .land, .inr (.inr b) :: .inr (.inr a) :: r => some ([.inr (.inr b), .inr (.inr a)], r)
  | .lor, .inr (.inr b) :: .inr (.inr a) :: r => some ([.inr (.inr b), .inr (.inr a)], r)
  | .lshl, .inl b :: .inr (.inr a) :: r => some ([.inl b, .inr (.inr a)], r)
  | .lshr, .inl b :: .inr (.inr a) :: r => some ([.inl b, .inr (.inr a)], r)
  | _, _ => none
theorem sy_ul_ok {ρ : Nat → Int} {τ : Nat → Int64} {i : Instr} {st : List sy_A} {z : List sy_A × List sy_A} {pc mx : Nat} {lc : List (Nat × Value)} (h : sy_ul i st = some z) : st = z.1 ++ z.2 ∧ ∃ Z : Int64, px_s1 i 1 pc mx lc (st.map (sy_v ρ τ)) = some (pc + 1, lc, .long Z :: z.2.map (sy_v ρ τ)) := by
  unfold sy_ul at h
  split at h
  · cases h
    exact ⟨rfl, _, px_s1_3 rfl rfl⟩
  · cases h
    exact ⟨rfl, _, px_s1_8 rfl rfl⟩
  · cases h
    exact ⟨rfl, _, px_s1_9 rfl rfl⟩
  · cases h
    exact ⟨rfl, _, px_s1_9 rfl rfl⟩
  · cases h
    exact ⟨rfl, _, px_s1_9 rfl rfl⟩
  · cases h
    exact ⟨rfl, _, px_s1_9 rfl rfl⟩
  · cases h
theorem sy_goUL {z : List sy_A × List sy_A} (hw : sy_wS S = true) (hM : q.1[S.2.1.1]? = some M) (hq : px_look M.2.1 S.2.1.2.1 = some (i, 1)) (hz : sy_ul i S.2.1.2.2.2 = some z)
    (hG : sy_Good x q (sy_at S (S.1.1, S.1.2.1 + 1, S.1.2.2) (S.2.1.2.1 + 1) S.2.1.2.2.1 (.inr (.inr S.1.2.1) :: z.2))) : sy_Good x q S := by
  refine sy_goFL (pre := z.1) hw hM (sy_ul_ok (ρ := fun _ => 0) (τ := fun _ => 0) (pc := 0) (mx := 0) (lc := []) hz).1 (fun ρ τ w lc cf d hm _ => ?_) hG
  obtain ⟨-, Z, h⟩ := sy_ul_ok (ρ := ρ) (τ := τ) (pc := S.2.1.2.1) (mx := M.1.2.2.1) (lc := lc) hz
  exact ⟨Z, px_step_1 hq h⟩
end BN
end
section
/-! READING CELLS -/
theorem px_ix_of {z : Int} {n : Nat} (h0 : 0 ≤ z) (h1 : z < (n : Int)) (hn : n ≤ 2147483647) : px_ix (Int32.ofInt z) n = true ∧ (Int32.ofInt z).toNatClampNeg = z.toNat := by
  have e1 : (Int32.ofInt z).toInt = z := Int32.toInt_ofInt_of_le (by omega) (by omega)
  have e2 : (Int32.ofInt z).toNatClampNeg = z.toNat := Int32.toNatClampNeg_ofInt_of_le (by omega) (by omega)
  refine ⟨?_, e2⟩
  unfold px_ix
  rw [Bool.and_eq_true]
  refine ⟨?_, ?_⟩
  · have h2 : ¬ Int32.ofInt z < 0 := by
      intro q
      have := Int32.lt_iff_toInt_lt.mp q
      rw [e1] at this
      have h3 : (0 : Int32).toInt = 0 := rfl
      omega
    simp [h2]
  · rw [e2]
    exact decide_eq_true (by omega)
/-- where a form may lie: start, step, how many steps -/
def sy_pr (R : sy_T) (e : sy_L) : Option (Int × Int × Nat) := match e.2 with
  | [] => some (e.1, 1, 0)
  | [(i, c)] => (R[i]?).map (fun p => (e.1 + c * p.1, c, (p.2 - p.1).toNat))
  | _ => (sy_b R e).map (fun p => (p.1, 1, (p.2 - p.1).toNat))
theorem sy_pr_ok {ρ : Nat → Int} {R : sy_T} (h : sy_ok ρ R) {e : sy_L} {z : Int × Int × Nat} (hz : sy_pr R e = some z) : ∃ k : Nat, k ≤ z.2.2 ∧ sy_e ρ e = z.1 + z.2.1 * (k : Int) := by
  unfold sy_pr at hz
  split at hz
  · rename_i hc
    cases hz
    refine ⟨0, Nat.le_refl _, ?_⟩
    rw [sy_e_nil hc]
    simp
  · rename_i i c hc
    obtain ⟨p, hp, rfl⟩ := Option.map_eq_some_iff.mp hz
    have h1 := h i p hp
    refine ⟨(ρ i - p.1).toNat, by show _ ≤ (p.2 - p.1).toNat; omega, ?_⟩
    have hev : sy_e ρ e = e.1 + c * ρ i := by
      unfold sy_e
      rw [hc]
      simp [sy_s]
    show sy_e ρ e = e.1 + c * p.1 + c * (((ρ i - p.1).toNat : Nat) : Int)
    rw [show (((ρ i - p.1).toNat : Nat) : Int) = ρ i - p.1 by omega, Int.mul_sub, hev]
    omega
  · obtain ⟨p, hp, rfl⟩ := Option.map_eq_some_iff.mp hz
    obtain ⟨h1, h2⟩ := sy_b_e h hp
    refine ⟨(sy_e ρ e - p.1).toNat, by show _ ≤ (p.2 - p.1).toNat; omega, ?_⟩
    show sy_e ρ e = p.1 + 1 * (((sy_e ρ e - p.1).toNat : Nat) : Int)
    omega
def sy_jn (sg : sy_Sg) (s c : Int) : Nat → Int × Int
  | 0 => sy_seg sg s.toNat
  | n + 1 => (min (sy_seg sg (s + c * ((n + 1 : Nat) : Int)).toNat).1 (sy_jn sg s c n).1, max (sy_seg sg (s + c * ((n + 1 : Nat) : Int)).toNat).2 (sy_jn sg s c n).2)
theorem sy_jn_ok {sg : sy_Sg} {s c : Int} : ∀ (n k : Nat), k ≤ n → (sy_jn sg s c n).1 ≤ (sy_seg sg (s + c * (k : Int)).toNat).1 ∧ (sy_seg sg (s + c * (k : Int)).toNat).2 ≤ (sy_jn sg s c n).2
  | 0, k, hk => by
    have hk0 : k = 0 := by omega
    subst hk0
    rw [show s + c * ((0 : Nat) : Int) = s by simp]
    exact ⟨Int.le_refl _, Int.le_refl _⟩
  | n + 1, k, hk => by
    unfold sy_jn
    rcases Nat.lt_or_ge n k with h | h
    · have hk1 : k = n + 1 := by omega
      subst hk1
      exact ⟨by show min _ _ ≤ _; omega, by show _ ≤ max _ _; omega⟩
    · have := sy_jn_ok (sg := sg) (s := s) (c := c) n k h
      exact ⟨by show min _ _ ≤ _; omega, by show _ ≤ max _ _; omega⟩
/-- the range of what stands at a place -/
def sy_rd (R : sy_T) (sg : sy_Sg) (e : sy_L) : Option (Int × Int) := match sg with
  | [] => some sy_full
  | _ => (sy_pr R e).bind (fun z => if z.2.2 ≤ 3000 then some (sy_jn sg z.1 z.2.1 z.2.2) else none)
theorem sy_rd_ok {ρ : Nat → Int} {R : sy_T} (h : sy_ok ρ R) {sg : sy_Sg} {e : sy_L} {r : Int × Int} (hr : sy_rd R sg e = some r) {x : Int32} (hx : sy_in (sy_seg sg (sy_e ρ e).toNat) x) : r.1 ≤ x.toInt ∧ x.toInt ≤ r.2 := by
  unfold sy_rd at hr
  split at hr
  · cases hr
    exact sy_full_in x
  · obtain ⟨z, hz, hr2⟩ := Option.bind_eq_some_iff.mp hr
    split at hr2
    · cases hr2
      obtain ⟨k, hk, he⟩ := sy_pr_ok h hz
      have := sy_jn_ok (sg := sg) (s := z.1) (c := z.2.1) z.2.2 k hk
      rw [← he] at this
      unfold sy_in at hx
      omega
    · cases hr2
section RD
variable {x : sy_X} {q : sy_Q} {S : sy_S} {M : px_M} {i : Instr} {len : Nat}
/-- a new number that stands at a place -/
theorem sy_goFa {rg : Int × Int} {pc' k : Nat} {ix : sy_L} {pre r : List sy_A} (hw : sy_wS S = true) (hwi : sy_wl S.1.1.length ix = true) (hM : q.1[S.2.1.1]? = some M) (hst : S.2.1.2.2.2 = pre ++ r)
    (hs : ∀ (ρ : Nat → Int) (τ : Nat → Int64) (w : px_W) (lc : List (Nat × Value)) (cf : List pf_F) (d : Nat), sy_mem q S.1 ρ τ w → d + cf.length = x.2.2.2.2.2.2 → ∃ Z : Int32, rg.1 ≤ Z.toInt ∧ Z.toInt ≤ rg.2 ∧ 0 ≤ sy_e ρ ix ∧ sy_get w k (sy_e ρ ix).toNat = some (.int Z) ∧ px_step x.1 x.2.1 x.2.2.1 d (pf_scr x.2.2.2.1 cf) M S.2.1.2.1 lc (S.2.1.2.2.2.map (sy_v ρ τ)) w = some (.inl (pc', lc, .int Z :: r.map (sy_v ρ τ), w, 0, 0)))
    (hG : sy_Good x q (sy_at S (S.1.1 ++ [rg], S.1.2.1, S.1.2.2.1, (k, ix, .inl (sy_x S.1.1.length)) :: S.1.2.2.2) pc' S.2.1.2.2.1 (.inl (sy_x S.1.1.length) :: r))) : sy_Good x q S := by
  refine sy_open (fun ρ τ w lc cf d hm hl hf hd => ?_) hM
  obtain ⟨Z, h1, h2, h2a, h2b, h3⟩ := hs ρ τ w lc cf d hm hd
  obtain ⟨ρ', e1, e2, ⟨m1, m2, m3, m4, m5, m6⟩, ⟨f1, f2, f3, f4⟩, hf'⟩ := sy_fresh (c := (M, S.2.1.2.1, lc, S.2.1.2.2.2.map (sy_v ρ τ))) hw ⟨hm, ⟨hM, rfl, hl, rfl⟩, hf⟩ h1 h2
  refine pf_next h3 ?_
  have f4' : S.2.1.2.2.2.map (sy_v ρ τ) = S.2.1.2.2.2.map (sy_v ρ' τ) := f4
  rw [hst, List.map_append, List.map_append] at f4'
  have hr := (List.append_inj' f4' (by rw [List.length_map, List.length_map])).2
  have ei := sy_ext_l e1 hwi
  have hm' : sy_mem q (S.1.1 ++ [rg], S.1.2.1, S.1.2.2.1, (k, ix, .inl (sy_x S.1.1.length)) :: S.1.2.2.2) ρ' τ w := by
    refine ⟨m1, m2, m3, fun f hf => ?_, m5, m6⟩
    rcases List.mem_cons.mp hf with rfl | hf
    · show 0 ≤ sy_e ρ' ix ∧ sy_get w k (sy_e ρ' ix).toNat = some (.int (Int32.ofInt (sy_e ρ' (sy_x S.1.1.length))))
      rw [ei, sy_x_e, e2, Int32.ofInt_toInt]
      exact ⟨h2a, h2b⟩
    · exact m4 f hf
  have hu := sy_use hG hM hm' f3 hf' hd
  have e3 : (.inl (sy_x S.1.1.length) :: r : List sy_A).map (sy_v ρ' τ) = .int Z :: r.map (sy_v ρ τ) := by
    show Value.int (Int32.ofInt (sy_e ρ' (sy_x S.1.1.length))) :: r.map (sy_v ρ' τ) = _
    rw [sy_x_e, e2, Int32.ofInt_toInt, hr]
  rw [e3] at hu
  exact hu
theorem sy_cell_i {w : px_W} {k n : Nat} {sg : sy_Sg} (hW : sy_W q.2.1 w) (hA : q.2.1[k]? = some (.inl (n, sg))) : ∃ l : List Int32, w[k]? = some (.inl l) ∧ l.length = n ∧ ∀ (i : Nat) (x : Int32), l[i]? = some x → sy_in (sy_seg sg i) x := by
  obtain ⟨c, h1, h2⟩ := hW.2 k _ hA
  match c, h2 with
  | .inl l, h2 => exact ⟨l, h1, h2.1, h2.2⟩
theorem sy_cell_l {w : px_W} {k n : Nat} (hW : sy_W q.2.1 w) (hA : q.2.1[k]? = some (.inr (.inl n))) : ∃ l : List Int64, w[k]? = some (.inr (.inl l)) ∧ l.length = n := by
  obtain ⟨c, h1, h2⟩ := hW.2 k _ hA
  match c, h2 with
  | .inr (.inl l), h2 => exact ⟨l, h1, h2⟩
theorem sy_cell_o {w : px_W} {k ci : Nat} {sl : List ((Int × Int) ⊕ Nat)} (hW : sy_W q.2.1 w) (hA : q.2.1[k]? = some (.inr (.inr (ci, sl)))) : ∃ o : Nat × List Value, w[k]? = some (.inr (.inr o)) ∧ o.1 = ci ∧ o.2.length = sl.length ∧ (∀ (i : Nat) (r : Int × Int), sl[i]? = some (.inl r) → ∃ x, o.2[i]? = some (.int x) ∧ sy_in r x) ∧ ∀ (i a : Nat), sl[i]? = some (.inr a) → o.2[i]? = some (.ref a) := by
  obtain ⟨c, h1, h2⟩ := hW.2 k _ hA
  match c, h2 with
  | .inr (.inr o), h2 => exact ⟨o, h1, h2⟩
theorem sy_getI {w : px_W} {k : Nat} {l : List Int32} (h : w[k]? = some (.inl l)) (j : Nat) : sy_get w k j = (l[j]?).map Value.int := by
  unfold sy_get
  rw [h]
theorem sy_getO {w : px_W} {k : Nat} {o : Nat × List Value} (h : w[k]? = some (.inr (.inr o))) (j : Nat) : sy_get w k j = o.2[j]? := by
  unfold sy_get
  rw [h]
/-- an int out of an int array, at a place not read before -/
theorem sy_goIald {a n : Nat} {sg : sy_Sg} {ix : sy_L} {b rg : Int × Int} {r : List sy_A} (hw : sy_wS S = true) (hM : q.1[S.2.1.1]? = some M) (hq : px_look M.2.1 S.2.1.2.1 = some (.iaload, 1)) (hst : S.2.1.2.2.2 = .inl ix :: .inr (.inl a) :: r) (ha : 64 ≤ a) (hA : q.2.1[a - 64]? = some (.inl (n, sg))) (hn : n ≤ 2147483647) (hb : sy_b S.1.1 ix = some b) (hb1 : 0 ≤ b.1) (hb2 : b.2 < (n : Int)) (hr : sy_rd S.1.1 sg ix = some rg)
    (hG : sy_Good x q (sy_at S (S.1.1 ++ [rg], S.1.2.1, S.1.2.2.1, (a - 64, sy_nm S.1.1 ix, .inl (sy_x S.1.1.length)) :: S.1.2.2.2) (S.2.1.2.1 + 1) S.2.1.2.2.1 (.inl (sy_x S.1.1.length) :: r))) (hwi : sy_wl S.1.1.length (sy_nm S.1.1 ix) = true) : sy_Good x q S := by
  refine sy_goFa (pre := [.inl ix, .inr (.inl a)]) hw hwi hM hst (fun ρ τ w lc cf d hm _ => ?_) hG
  obtain ⟨l, l1, l2, l3⟩ := sy_cell_i hm.2.2.2.2.1 hA
  obtain ⟨c1, c2⟩ := sy_b_e hm.2.1 hb
  have hz : (sy_e ρ ix).toNat < l.length := by rw [l2]; omega
  obtain ⟨x1, x2⟩ := px_ix_of (z := sy_e ρ ix) (n := l.length) (by omega) (by omega) (by omega)
  have hg : l[(sy_e ρ ix).toNat]? = some l[(sy_e ρ ix).toNat] := List.getElem?_eq_getElem hz
  have hd : l.getD (sy_e ρ ix).toNat 0 = l[(sy_e ρ ix).toNat] := by
    rw [List.getD_eq_getElem?_getD, hg]
    rfl
  obtain ⟨r1, r2⟩ := sy_rd_ok hm.2.1 hr (l3 _ _ hg)
  refine ⟨l[(sy_e ρ ix).toNat], r1, r2, ?_, ?_, ?_⟩
  · rw [sy_nm_e hm.2.1]; omega
  · rw [sy_nm_e hm.2.1, sy_getI l1, hg]
    rfl
  · refine (fun hs : px_s2 x.1 x.2.1 .iaload 1 (pf_scr x.2.2.2.1 cf) M.1.1.name M.1.1.cls M.2.2 (S.2.1.2.2.2.map (sy_v ρ τ)) w = some (.int l[(sy_e ρ ix).toNat] :: r.map (sy_v ρ τ), w, 0, 0) => px_step_2 hq rfl hs) ?_
    rw [hst]
    show (if 1 = 1 then (if a = 0 then _ else if 64 ≤ a then (match w[a - 64]? with
      | some (.inl l) => if px_ix (Int32.ofInt (sy_e ρ ix)) l.length = true then some (.int (l.getD (Int32.ofInt (sy_e ρ ix)).toNatClampNeg 0) :: r.map (sy_v ρ τ), w, 0, 0) else none
      | _ => none) else none) else none) = _
    rw [if_pos rfl, if_neg (by omega), if_pos ha, l1]
    show (if px_ix (Int32.ofInt (sy_e ρ ix)) l.length = true then _ else none) = _
    rw [if_pos x1, x2, hd]
/-- a field of an object that holds an int, not read before -/
theorem sy_goGetI {a idx ci sl0 : Nat} {sl : List ((Int × Int) ⊕ Nat)} {rg : Int × Int} {r : List sy_A} (hw : sy_wS S = true) (hM : q.1[S.2.1.1]? = some M) (hq : px_look M.2.1 S.2.1.2.1 = some (.getfield idx, 3)) (hst : S.2.1.2.2.2 = .inr (.inl a) :: r) (ha : 64 ≤ a) (hA : q.2.1[a - 64]? = some (.inr (.inr (ci, sl)))) (hL : px_look M.2.2.1 idx = some (ci, sl0)) (hr : sl[sl0]? = some (.inl rg))
    (hG : sy_Good x q (sy_at S (S.1.1 ++ [rg], S.1.2.1, S.1.2.2.1, (a - 64, sy_c sl0, .inl (sy_x S.1.1.length)) :: S.1.2.2.2) (S.2.1.2.1 + 3) S.2.1.2.2.1 (.inl (sy_x S.1.1.length) :: r))) : sy_Good x q S := by
  refine sy_goFa (pre := [.inr (.inl a)]) hw rfl hM hst (fun ρ τ w lc cf d hm _ => ?_) hG
  obtain ⟨o, l1, l2, l3, l4, l5⟩ := sy_cell_o hm.2.2.2.2.1 hA
  obtain ⟨Z, z1, z2⟩ := l4 _ _ hr
  refine ⟨Z, z2.1, z2.2, ?_, ?_, ?_⟩
  · rw [sy_c_e]; omega
  · rw [sy_c_e, sy_getO l1]
    exact z1
  · refine (fun hs : px_s2 x.1 x.2.1 (.getfield idx) 3 (pf_scr x.2.2.2.1 cf) M.1.1.name M.1.1.cls M.2.2 (S.2.1.2.2.2.map (sy_v ρ τ)) w = some (.int Z :: r.map (sy_v ρ τ), w, 0, 0) => px_step_2 hq rfl hs) ?_
    rw [hst]
    show (if 3 = 3 ∧ 64 ≤ a then (match px_look M.2.2.1 idx, w[a - 64]? with
      | some q, some (.inr (.inr o)) => if q.1 = o.1 then (o.2[q.2]?).map (fun v => (v :: r.map (sy_v ρ τ), w, 0, 0)) else none
      | _, _ => none) else _) = _
    rw [if_pos ⟨rfl, ha⟩, hL, l1]
    show (if ci = o.1 then (o.2[sl0]?).map _ else none) = _
    rw [if_pos l2.symm, z1]
    rfl
end RD
end
section
/-! STEPS THAT GIVE A KNOWN VALUE -/
section DT
variable {x : sy_X} {q : sy_Q} {S : sy_S} {M : px_M} {i : Instr} {len : Nat}
theorem sy_goD {pc' : Nat} {st' : List sy_A} (hM : q.1[S.2.1.1]? = some M)
    (hs : ∀ (ρ : Nat → Int) (τ : Nat → Int64) (w : px_W) (lc : List (Nat × Value)) (cf : List pf_F) (d : Nat), sy_mem q S.1 ρ τ w → d + cf.length = x.2.2.2.2.2.2 → px_step x.1 x.2.1 x.2.2.1 d (pf_scr x.2.2.2.1 cf) M S.2.1.2.1 lc (S.2.1.2.2.2.map (sy_v ρ τ)) w = some (.inl (pc', lc, st'.map (sy_v ρ τ), w, 0, 0)))
    (hG : sy_Good x q (sy_at S S.1 pc' S.2.1.2.2.1 st')) : sy_Good x q S := by
  refine sy_open (fun ρ τ w lc cf d hm hl hf hd => ?_) hM
  exact pf_next (hs ρ τ w lc cf d hm hd) (sy_use hG hM hm hl hf hd)
/-- an int out of an int array, at a place known -/
theorem sy_goIaldK {a n : Nat} {sg : sy_Sg} {ix e : sy_L} {r : List sy_A} (hM : q.1[S.2.1.1]? = some M) (hq : px_look M.2.1 S.2.1.2.1 = some (.iaload, 1)) (hst : S.2.1.2.2.2 = .inl ix :: .inr (.inl a) :: r) (ha : 64 ≤ a) (hA : q.2.1[a - 64]? = some (.inl (n, sg))) (hn : n ≤ 2147483647) (hf : (a - 64, sy_nm S.1.1 ix, .inl e) ∈ S.1.2.2.2)
    (hG : sy_Good x q (sy_at S S.1 (S.2.1.2.1 + 1) S.2.1.2.2.1 (.inl e :: r))) : sy_Good x q S := by
  refine sy_goD hM (fun ρ τ w lc cf d hm _ => ?_) hG
  obtain ⟨l, l1, l2, l3⟩ := sy_cell_i hm.2.2.2.2.1 hA
  have hf2 := hm.2.2.2.1 _ hf
  dsimp only at hf2
  rw [sy_nm_e hm.2.1, sy_getI l1] at hf2
  obtain ⟨v, hv, hve⟩ := Option.map_eq_some_iff.mp hf2.2
  have hz : (sy_e ρ ix).toNat < l.length := (List.getElem?_eq_some_iff.mp hv).1
  obtain ⟨x1, x2⟩ := px_ix_of (z := sy_e ρ ix) (n := l.length) hf2.1 (by omega) (by omega)
  have hd : l.getD (sy_e ρ ix).toNat 0 = v := by
    rw [List.getD_eq_getElem?_getD, hv]
    rfl
  refine (fun hs : px_s2 x.1 x.2.1 .iaload 1 (pf_scr x.2.2.2.1 cf) M.1.1.name M.1.1.cls M.2.2 (S.2.1.2.2.2.map (sy_v ρ τ)) w = some ((.inl e :: r : List sy_A).map (sy_v ρ τ), w, 0, 0) => px_step_2 hq rfl hs) ?_
  rw [hst]
  show (if 1 = 1 then (if a = 0 then _ else if 64 ≤ a then (match w[a - 64]? with
      | some (.inl l) => if px_ix (Int32.ofInt (sy_e ρ ix)) l.length = true then some (.int (l.getD (Int32.ofInt (sy_e ρ ix)).toNatClampNeg 0) :: r.map (sy_v ρ τ), w, 0, 0) else none
      | _ => none) else none) else none) = _
  rw [if_pos rfl, if_neg (by omega), if_pos ha, l1]
  show (if px_ix (Int32.ofInt (sy_e ρ ix)) l.length = true then _ else none) = some (sy_v ρ τ (.inl e) :: r.map (sy_v ρ τ), w, 0, 0)
  rw [if_pos x1, x2, hd, ← hve]
/-- a field known, or a reference -/
theorem sy_goGetK {a idx ci sl0 : Nat} {sl : List ((Int × Int) ⊕ Nat)} {v : sy_A} {r : List sy_A} (hM : q.1[S.2.1.1]? = some M) (hq : px_look M.2.1 S.2.1.2.1 = some (.getfield idx, 3)) (hst : S.2.1.2.2.2 = .inr (.inl a) :: r) (ha : 64 ≤ a) (hA : q.2.1[a - 64]? = some (.inr (.inr (ci, sl)))) (hL : px_look M.2.2.1 idx = some (ci, sl0)) (hv : (a - 64, sy_c sl0, v) ∈ S.1.2.2.2 ∨ ∃ b, v = .inr (.inl b) ∧ sl[sl0]? = some (.inr b))
    (hG : sy_Good x q (sy_at S S.1 (S.2.1.2.1 + 3) S.2.1.2.2.1 (v :: r))) : sy_Good x q S := by
  refine sy_goD hM (fun ρ τ w lc cf d hm _ => ?_) hG
  obtain ⟨o, l1, l2, l3, l4, l5⟩ := sy_cell_o hm.2.2.2.2.1 hA
  have hz : o.2[sl0]? = some (sy_v ρ τ v) := by
    rcases hv with hv | ⟨b, rfl, hb⟩
    · have hf2 := (hm.2.2.2.1 _ hv).2
      dsimp only at hf2
      rw [sy_c_e, sy_getO l1] at hf2
      exact hf2
    · exact l5 _ _ hb
  refine (fun hs : px_s2 x.1 x.2.1 (.getfield idx) 3 (pf_scr x.2.2.2.1 cf) M.1.1.name M.1.1.cls M.2.2 (S.2.1.2.2.2.map (sy_v ρ τ)) w = some ((v :: r).map (sy_v ρ τ), w, 0, 0) => px_step_2 hq rfl hs) ?_
  rw [hst]
  show (if 3 = 3 ∧ 64 ≤ a then (match px_look M.2.2.1 idx, w[a - 64]? with
      | some q, some (.inr (.inr o)) => if q.1 = o.1 then (o.2[q.2]?).map (fun v => (v :: r.map (sy_v ρ τ), w, 0, 0)) else none
      | _, _ => none) else _) = _
  rw [if_pos ⟨rfl, ha⟩, hL, l1]
  show (if ci = o.1 then (o.2[sl0]?).map _ else none) = _
  rw [if_pos l2.symm, hz]
  rfl
/-- constants of the pool, statics, texts, lengths -/
def sy_k (lt : List (List Int32)) (A : List sy_Ce) (i : Instr) (len : Nat) (L : px_L) (st : List sy_A) : Option (List sy_A) := match i, st with
  | .ldc k, r => if len = 2 then px_or ((px_look L.2.2.2.1 k).map (fun v => .inl (sy_c v.toInt) :: r)) ((px_look L.2.2.2.2.2.1 k).map (fun j => .inr (.inl (1 + j)) :: r)) else none
  | .ldc_w k, r => if len = 3 then (px_look L.2.2.2.1 k).map (fun v => .inl (sy_c v.toInt) :: r) else none
  | .getstatic k, r => if len = 3 then (px_look L.2.2.2.2.2.2.1 k).bind (fun j => if j = 0 then some (.inl (sy_c 1) :: r) else if j = 1 then some (.inr (.inl 33) :: r) else none) else none
  | .getfield k, .inr (.inl a) :: r => if len = 3 ∧ ¬ 64 ≤ a ∧ 1 ≤ a ∧ a ≤ 16 then (px_look L.2.2.2.2.2.2.2 k).bind (fun j => if j = 0 then some (.inr (.inl (a + 16)) :: r) else if j = 1 then some (.inl (sy_c 0) :: r) else none) else none
  | .arraylength, .inr (.inl a) :: r => if len = 1 ∧ ¬ a = 0 then (if 64 ≤ a then (match A[a - 64]? with
      | some (.inl z) => if z.1 ≤ 2147483647 then some (.inl (sy_c z.1) :: r) else none
      | _ => none) else if 17 ≤ a ∧ a ≤ 32 ∧ (lt.map List.length).getD (a - 17) 0 ≤ 2147483647 then some (.inl (sy_c ((lt.map List.length).getD (a - 17) 0 : Nat)) :: r) else none) else none
  | _, _ => none
theorem sy_ofN {n : Nat} {ρ : Nat → Int} : Value.int (Int32.ofNat n) = Value.int (Int32.ofInt (sy_e ρ (sy_c (n : Int)))) := by
  rw [sy_c_e]
  rfl
theorem sy_k_ok {ρ : Nat → Int} {τ : Nat → Int64} {w : px_W} {cl : List vw_C} {lt : List (List Int32)} {scr : Option (List Int32)} {nm own : String} {L : px_L} {st z : List sy_A} (hW : sy_W q.2.1 w) (hz : sy_k lt q.2.1 i len L st = some z) : px_so1 i = 0 ∧ px_s2 cl lt i len scr nm own L (st.map (sy_v ρ τ)) w = some (z.map (sy_v ρ τ), w, 0, 0) := by
  unfold sy_k at hz
  split at hz
  · rename_i k
    split at hz
    · rename_i hc
      subst hc
      refine ⟨rfl, ?_⟩
      show (if 2 = 2 then px_or ((px_look L.2.2.2.1 k).map (fun v => (Value.int v :: st.map (sy_v ρ τ), w, 0, 0))) ((px_look L.2.2.2.2.2.1 k).map (fun j => (Value.ref (1 + j) :: st.map (sy_v ρ τ), w, 0, 0))) else none) = _
      rw [if_pos rfl]
      cases h1 : px_look L.2.2.2.1 k with
      | some v =>
        rw [h1] at hz
        cases hz
        show some (Value.int v :: st.map (sy_v ρ τ), w, 0, 0) = some (Value.int (Int32.ofInt (sy_e ρ (sy_c v.toInt))) :: st.map (sy_v ρ τ), w, 0, 0)
        rw [sy_c_e, Int32.ofInt_toInt]
      | none =>
        rw [h1] at hz
        cases h2 : px_look L.2.2.2.2.2.1 k with
        | none => rw [h2] at hz; cases hz
        | some j =>
          rw [h2] at hz
          cases hz
          rfl
    · cases hz
  · rename_i k
    split at hz
    · rename_i hc
      subst hc
      refine ⟨rfl, ?_⟩
      obtain ⟨v, h1, rfl⟩ := Option.map_eq_some_iff.mp hz
      show (if 3 = 3 then (px_look L.2.2.2.1 k).map (fun v => (Value.int v :: st.map (sy_v ρ τ), w, 0, 0)) else none) = _
      rw [if_pos rfl, h1]
      show some (Value.int v :: st.map (sy_v ρ τ), w, 0, 0) = some (Value.int (Int32.ofInt (sy_e ρ (sy_c v.toInt))) :: st.map (sy_v ρ τ), w, 0, 0)
      rw [sy_c_e, Int32.ofInt_toInt]
    · cases hz
  · rename_i k
    split at hz
    · rename_i hc
      subst hc
      refine ⟨rfl, ?_⟩
      obtain ⟨j, h1, h2⟩ := Option.bind_eq_some_iff.mp hz
      show (if 3 = 3 then (px_look L.2.2.2.2.2.2.1 k).bind (fun k => if k = 0 then some (Value.int 1 :: st.map (sy_v ρ τ), w, 0, 0) else if k = 1 then some (Value.ref 33 :: st.map (sy_v ρ τ), w, 0, 0) else none) else none) = _
      rw [if_pos rfl, h1]
      show (if j = 0 then some (Value.int 1 :: st.map (sy_v ρ τ), w, 0, 0) else if j = 1 then some (Value.ref 33 :: st.map (sy_v ρ τ), w, 0, 0) else none) = _
      split at h2
      · rename_i hj
        cases h2
        rw [if_pos hj]
        show some (Value.int 1 :: st.map (sy_v ρ τ), w, 0, 0) = some (Value.int (Int32.ofInt (sy_e ρ (sy_c 1))) :: st.map (sy_v ρ τ), w, 0, 0)
        rw [sy_c_e]
        rfl
      · split at h2
        · rename_i hj0 hj
          cases h2
          rw [if_neg hj0, if_pos hj]
          rfl
        · cases h2
    · cases hz
  · rename_i k a r
    split at hz
    · rename_i hc
      refine ⟨rfl, ?_⟩
      obtain ⟨j, h1, h2⟩ := Option.bind_eq_some_iff.mp hz
      show (if len = 3 ∧ 64 ≤ a then _ else if len = 3 ∧ 1 ≤ a ∧ a ≤ 16 then (px_look L.2.2.2.2.2.2.2 k).bind (fun k => if k = 0 then some (Value.ref (a + 16) :: r.map (sy_v ρ τ), w, 0, 0) else if k = 1 then some (Value.int 0 :: r.map (sy_v ρ τ), w, 0, 0) else none) else none) = _
      rw [if_neg (fun z => hc.2.1 z.2), if_pos ⟨hc.1, hc.2.2⟩, h1]
      show (if j = 0 then some (Value.ref (a + 16) :: r.map (sy_v ρ τ), w, 0, 0) else if j = 1 then some (Value.int 0 :: r.map (sy_v ρ τ), w, 0, 0) else none) = _
      split at h2
      · rename_i hj
        cases h2
        rw [if_pos hj]
        rfl
      · split at h2
        · rename_i hj0 hj
          cases h2
          rw [if_neg hj0, if_pos hj]
          show some (Value.int 0 :: r.map (sy_v ρ τ), w, 0, 0) = some (Value.int (Int32.ofInt (sy_e ρ (sy_c 0))) :: r.map (sy_v ρ τ), w, 0, 0)
          rw [sy_c_e]
          rfl
        · cases h2
    · cases hz
  · rename_i a r
    split at hz
    · rename_i hc
      refine ⟨rfl, ?_⟩
      show (if len = 1 then (if a = 0 then _ else if 64 ≤ a then (match w[a - 64]? with
        | some (.inl l) => some (Value.int (Int32.ofNat l.length) :: r.map (sy_v ρ τ), w, 0, 0)
        | _ => none) else if 17 ≤ a ∧ a ≤ 32 then some (Value.int (Int32.ofNat ((lt.map List.length).getD (a - 17) 0)) :: r.map (sy_v ρ τ), w, 0, 0) else none) else none) = _
      rw [if_pos hc.1, if_neg hc.2]
      split at hz
      · rename_i h64
        rw [if_pos h64]
        split at hz
        · rename_i zz hA
          split at hz
          · cases hz
            obtain ⟨n, sg⟩ := zz
            obtain ⟨l, l1, l2, l3⟩ := sy_cell_i hW hA
            rw [l1]
            show some (Value.int (Int32.ofNat l.length) :: r.map (sy_v ρ τ), w, 0, 0) = some (Value.int (Int32.ofInt (sy_e ρ (sy_c (n : Int)))) :: r.map (sy_v ρ τ), w, 0, 0)
            rw [l2, ← sy_ofN]
          · cases hz
        · cases hz
      · rename_i h64
        rw [if_neg h64]
        split at hz
        · rename_i h17
          cases hz
          rw [if_pos ⟨h17.1, h17.2.1⟩]
          show _ = some (Value.int (Int32.ofInt (sy_e ρ (sy_c _))) :: r.map (sy_v ρ τ), w, 0, 0)
          rw [← sy_ofN]
        · cases hz
    · cases hz
  · cases hz
theorem sy_goK {z : List sy_A} (hM : q.1[S.2.1.1]? = some M) (hq : px_look M.2.1 S.2.1.2.1 = some (i, len)) (hz : sy_k x.2.1 q.2.1 i len M.2.2 S.2.1.2.2.2 = some z) (hG : sy_Good x q (sy_at S S.1 (S.2.1.2.1 + len) S.2.1.2.2.1 z)) : sy_Good x q S := by
  refine sy_goD hM (fun ρ τ w lc cf d hm _ => ?_) hG
  obtain ⟨h0, h1⟩ := sy_k_ok (ρ := ρ) (τ := τ) (cl := x.1) (scr := pf_scr x.2.2.2.1 cf) (nm := M.1.1.name) (own := M.1.1.cls) hm.2.2.2.2.1 hz
  exact px_step_2 hq h0 h1
end DT
end
section
/-! WRITING CELLS -/
theorem sy_get_set {w : px_W} {k : Nat} {c c' : px_E} (hk : w[k]? = some c) (k' : Nat) (i' : Nat) : sy_get (w.set k c') k' i' = if k' = k then sy_get [c'] 0 i' else sy_get w k' i' := by
  have hl := (List.getElem?_eq_some_iff.mp hk).1
  unfold sy_get
  by_cases h : k' = k
  · subst h
    rw [List.getElem?_set_self hl, if_pos rfl]
    match c' with
    | .inl _ => rfl
    | .inr (.inl _) => rfl
    | .inr (.inr _) => rfl
  · rw [List.getElem?_set_ne (Ne.symm h), if_neg h]
theorem sy_get_same {w : px_W} {k : Nat} {c : px_E} (hk : w[k]? = some c) (i : Nat) : sy_get [c] 0 i = sy_get w k i := by
  unfold sy_get
  rw [hk]
  match c with
  | .inl _ => rfl
  | .inr (.inl _) => rfl
  | .inr (.inr _) => rfl
theorem sy_W_set {A : List sy_Ce} {w : px_W} {k : Nat} {a : sy_Ce} {c' : px_E} (hW : sy_W A w) (hA : A[k]? = some a) (hc : sy_ce a c') : sy_W A (w.set k c') := by
  obtain ⟨c, hk, -⟩ := hW.2 k a hA
  have hl := (List.getElem?_eq_some_iff.mp hk).1
  refine ⟨by rw [List.length_set]; exact hW.1, fun j b hb => ?_⟩
  by_cases h : k = j
  · subst h
    rw [hA] at hb
    cases hb
    exact ⟨c', List.getElem?_set_self hl, hc⟩
  · rw [List.getElem?_set_ne h]
    exact hW.2 j b hb
/-- what stays known behind a write -/
def sy_drop (R : sy_T) (k : Nat) (ix : sy_L) (F : List sy_Fa) : List sy_Fa := F.filter (fun f => !(f.1 == k) || (match sy_b R (sy_sub f.2.1 ix) with
  | some p => decide (0 < p.1) || decide (p.2 < 0)
  | none => false))
theorem sy_drop_ok {ρ : Nat → Int} {τ : Nat → Int64} {R : sy_T} (h : sy_ok ρ R) {k : Nat} {ix : sy_L} {F : List sy_Fa} {w w' : px_W} (hF : sy_fok ρ τ w F) (h0 : 0 ≤ sy_e ρ ix) (hg : ∀ k' i' : Nat, ¬ (k' = k ∧ i' = (sy_e ρ ix).toNat) → sy_get w' k' i' = sy_get w k' i') : sy_fok ρ τ w' (sy_drop R k ix F) := by
  intro f hf
  obtain ⟨h1, h2⟩ := List.mem_filter.mp hf
  obtain ⟨h3, h4⟩ := hF f h1
  refine ⟨h3, ?_⟩
  rw [hg, h4]
  rintro ⟨e1, e2⟩
  rw [e1] at h2
  simp only [beq_self_eq_true, Bool.not_true, Bool.false_or] at h2
  split at h2
  · rename_i p hp
    have := sy_b_e h hp
    rw [sy_sub_e] at this
    rw [Bool.or_eq_true, decide_eq_true_eq, decide_eq_true_eq] at h2
    omega
  · cases h2
def sy_vb (R : sy_T) (e : sy_L) : Int × Int := match sy_b R e with
  | some p => if sy_fit p = true then p else sy_full
  | none => sy_full
theorem sy_vb_ok {ρ : Nat → Int} {R : sy_T} (h : sy_ok ρ R) (e : sy_L) : (sy_vb R e).1 ≤ (Int32.ofInt (sy_e ρ e)).toInt ∧ (Int32.ofInt (sy_e ρ e)).toInt ≤ (sy_vb R e).2 := by
  unfold sy_vb
  split
  · rename_i p hp
    obtain ⟨h1, h2⟩ := sy_b_e h hp
    split
    · rename_i hf
      rw [sy_fit_e hf h1 h2]
      exact ⟨h1, h2⟩
    · exact sy_full_in _
  · exact sy_full_in _
def sy_al (sg : sy_Sg) (v : Int × Int) (s c : Int) : Nat → Bool
  | 0 => decide ((sy_seg sg s.toNat).1 ≤ v.1) && decide (v.2 ≤ (sy_seg sg s.toNat).2)
  | n + 1 => (decide ((sy_seg sg (s + c * ((n + 1 : Nat) : Int)).toNat).1 ≤ v.1) && decide (v.2 ≤ (sy_seg sg (s + c * ((n + 1 : Nat) : Int)).toNat).2)) && sy_al sg v s c n
theorem sy_al_ok {sg : sy_Sg} {v : Int × Int} {s c : Int} : ∀ n : Nat, sy_al sg v s c n = true → ∀ k : Nat, k ≤ n → (sy_seg sg (s + c * (k : Int)).toNat).1 ≤ v.1 ∧ v.2 ≤ (sy_seg sg (s + c * (k : Int)).toNat).2
  | 0, h, k, hk => by
    have hk0 : k = 0 := by omega
    subst hk0
    simp only [sy_al, Bool.and_eq_true, decide_eq_true_eq] at h
    rw [show s + c * ((0 : Nat) : Int) = s by simp]
    exact h
  | n + 1, h, k, hk => by
    unfold sy_al at h
    simp only [Bool.and_eq_true, decide_eq_true_eq] at h
    rcases Nat.lt_or_ge n k with h2 | h2
    · have hk1 : k = n + 1 := by omega
      subst hk1
      exact h.1
    · exact sy_al_ok n h.2 k h2
def sy_wr (R : sy_T) (sg : sy_Sg) (e : sy_L) (v : Int × Int) : Bool := match sg with
  | [] => true
  | _ => match sy_pr R e with
    | some z => decide (z.2.2 ≤ 3000) && sy_al sg v z.1 z.2.1 z.2.2
    | none => false
theorem sy_wr_ok {ρ : Nat → Int} {R : sy_T} (h : sy_ok ρ R) {sg : sy_Sg} {e : sy_L} {v : Int × Int} (hr : sy_wr R sg e v = true) {z : Int32} (hz : v.1 ≤ z.toInt ∧ z.toInt ≤ v.2) : sy_in (sy_seg sg (sy_e ρ e).toNat) z := by
  unfold sy_wr at hr
  split at hr
  · exact sy_full_in z
  · split at hr
    · rename_i p hp
      rw [Bool.and_eq_true] at hr
      obtain ⟨k, hk, he⟩ := sy_pr_ok h hp
      have := sy_al_ok _ hr.2 k hk
      rw [← he] at this
      exact ⟨Int.le_trans this.1 hz.1, Int.le_trans hz.2 this.2⟩
    · cases hr
def sy_mayI (Wr : sy_Wr) (k : Nat) (b : Int × Int) : Bool := Wr.any (fun q => decide (q.1 = k) && (decide ((q.2.1 : Int) ≤ b.1) && decide (b.2 < (q.2.2 : Int))))
theorem sy_mayI_ok {Wr : sy_Wr} {k : Nat} {b : Int × Int} (h : sy_mayI Wr k b = true) {z : Int} (h0 : 0 ≤ z) (h1 : b.1 ≤ z) (h2 : z ≤ b.2) : sy_may Wr k z.toNat = true := by
  obtain ⟨q, hq, h3⟩ := List.any_eq_true.mp h
  simp only [Bool.and_eq_true, decide_eq_true_eq] at h3
  refine List.any_eq_true.mpr ⟨q, hq, ?_⟩
  simp only [Bool.and_eq_true, decide_eq_true_eq]
  omega
theorem sy_fr_set {Wr : sy_Wr} {w0 w w' : px_W} {k j : Nat} (h : sy_fr Wr w0 w) (hm : sy_may Wr k j = true) (hg : ∀ k' i' : Nat, ¬ (k' = k ∧ i' = j) → sy_get w' k' i' = sy_get w k' i') : sy_fr Wr w0 w' := by
  intro k' i' hf
  rw [hg k' i' (fun e => by rw [e.1, e.2] at hf; rw [hf] at hm; cases hm)]
  exact h k' i' hf
section WR
variable {x : sy_X} {q : sy_Q} {S : sy_S} {M : px_M}
theorem sy_goIast {a n : Nat} {sg : sy_Sg} {ix e : sy_L} {b : Int × Int} {r : List sy_A} (hM : q.1[S.2.1.1]? = some M) (hq : px_look M.2.1 S.2.1.2.1 = some (.iastore, 1)) (hst : S.2.1.2.2.2 = .inl e :: .inl ix :: .inr (.inl a) :: r) (ha : 64 ≤ a) (hA : q.2.1[a - 64]? = some (.inl (n, sg))) (hn : n ≤ 2147483647) (hb : sy_b S.1.1 ix = some b) (hb1 : 0 ≤ b.1) (hb2 : b.2 < (n : Int)) (hv : ∀ (ρ : Nat → Int) (τ : Nat → Int64) (w : px_W), sy_mem q S.1 ρ τ w → sy_in (sy_seg sg (sy_e ρ ix).toNat) (Int32.ofInt (sy_e ρ e))) (hmay : sy_mayI q.2.2.1 (a - 64) b = true)
    (hG : sy_Good x q (sy_at S (S.1.1, S.1.2.1, S.1.2.2.1, (a - 64, sy_nm S.1.1 ix, .inl e) :: sy_drop S.1.1 (a - 64) ix S.1.2.2.2) (S.2.1.2.1 + 1) S.2.1.2.2.1 r)) : sy_Good x q S := by
  refine sy_open (fun ρ τ w lc cf d hm hl hf hd => ?_) hM
  obtain ⟨m1, m2, m3, m4, m5, m6⟩ := id hm
  obtain ⟨l, l1, l2, l3⟩ := sy_cell_i m5 hA
  obtain ⟨c1, c2⟩ := sy_b_e m2 hb
  have hz : (sy_e ρ ix).toNat < l.length := by rw [l2]; omega
  obtain ⟨x1, x2⟩ := px_ix_of (z := sy_e ρ ix) (n := l.length) (by omega) (by omega) (by omega)
  have hg : ∀ k' i' : Nat, ¬ (k' = a - 64 ∧ i' = (sy_e ρ ix).toNat) → sy_get (w.set (a - 64) (.inl (l.set (sy_e ρ ix).toNat (Int32.ofInt (sy_e ρ e))))) k' i' = sy_get w k' i' := by
    intro k' i' hne
    rw [sy_get_set l1]
    split
    · rename_i hk
      subst hk
      have hi : (sy_e ρ ix).toNat ≠ i' := fun z => hne ⟨rfl, z.symm⟩
      rw [sy_getI l1]
      show ((l.set _ _)[i']?).map Value.int = _
      rw [List.getElem?_set_ne hi]
    · rfl
  have hm' : sy_mem q (S.1.1, S.1.2.1, S.1.2.2.1, (a - 64, sy_nm S.1.1 ix, .inl e) :: sy_drop S.1.1 (a - 64) ix S.1.2.2.2) ρ τ (w.set (a - 64) (.inl (l.set (sy_e ρ ix).toNat (Int32.ofInt (sy_e ρ e))))) := by
    refine ⟨m1, m2, m3, fun f hf => ?_, sy_W_set m5 hA ?_, sy_fr_set m6 (sy_mayI_ok hmay (by omega) c1 c2) hg⟩
    · rcases List.mem_cons.mp hf with rfl | hf
      · show 0 ≤ sy_e ρ (sy_nm S.1.1 ix) ∧ sy_get _ (a - 64) (sy_e ρ (sy_nm S.1.1 ix)).toNat = some (.int (Int32.ofInt (sy_e ρ e)))
        rw [sy_nm_e m2, sy_get_set l1, if_pos rfl]
        refine ⟨by omega, ?_⟩
        show ((l.set _ _)[(sy_e ρ ix).toNat]?).map Value.int = _
        rw [List.getElem?_set_self hz]
        rfl
      · exact sy_drop_ok m2 m4 (by omega) hg f hf
    · refine ⟨by rw [List.length_set]; exact l2, fun i v hv2 => ?_⟩
      by_cases hi : (sy_e ρ ix).toNat = i
      · subst hi
        rw [List.getElem?_set_self hz] at hv2
        cases hv2
        exact hv ρ τ w hm
      · rw [List.getElem?_set_ne hi] at hv2
        exact l3 i v hv2
  refine (fun hs : px_s2 x.1 x.2.1 .iastore 1 (pf_scr x.2.2.2.1 cf) M.1.1.name M.1.1.cls M.2.2 (S.2.1.2.2.2.map (sy_v ρ τ)) w = some (r.map (sy_v ρ τ), w.set (a - 64) (.inl (l.set (sy_e ρ ix).toNat (Int32.ofInt (sy_e ρ e)))), 0, 0) => pf_next (px_step_2 hq rfl hs) (sy_use hG hM hm' hl hf hd)) ?_
  rw [hst]
  show (if 1 = 1 ∧ 64 ≤ a then (match w[a - 64]? with
      | some (.inl l) => if px_ix (Int32.ofInt (sy_e ρ ix)) l.length = true then some (r.map (sy_v ρ τ), w.set (a - 64) (.inl (l.set (Int32.ofInt (sy_e ρ ix)).toNatClampNeg (Int32.ofInt (sy_e ρ e)))), 0, 0) else none
      | _ => none) else none) = _
  rw [if_pos ⟨rfl, ha⟩, l1]
  show (if px_ix (Int32.ofInt (sy_e ρ ix)) l.length = true then _ else none) = _
  rw [if_pos x1, x2]
/-- may an int of this range stand in a field of this type -/
def sy_ft (t : FieldType) (v : Int × Int) : Bool := match t with
  | .int => true
  | .boolean => decide (0 ≤ v.1) && decide (v.2 ≤ 1)
  | _ => false
theorem sy_ft_ok {t : FieldType} {v : Int × Int} (h : sy_ft t v = true) {z : Int32} (hz : v.1 ≤ z.toInt ∧ z.toInt ≤ v.2) : px_fit t (.int z) = true := by
  unfold sy_ft at h
  split at h
  · show (decide (narrow .int (.int z) = .int z) && fits .int (.int z)) = true
    rw [Bool.and_eq_true]
    exact ⟨decide_eq_true rfl, rfl⟩
  · simp only [Bool.and_eq_true, decide_eq_true_eq] at h
    have h2 : z = 0 ∨ z = 1 := by
      rcases (show z.toInt = 0 ∨ z.toInt = 1 by omega) with h3 | h3
      · exact Or.inl (Int32.toInt_inj.mp h3)
      · exact Or.inr (Int32.toInt_inj.mp h3)
    rcases h2 with rfl | rfl <;> decide
  · cases h
theorem sy_goPut {a idx ci sl0 : Nat} {sl : List ((Int × Int) ⊕ Nat)} {rg : Int × Int} {e : sy_L} {k : vw_C} {r : List sy_A} (hM : q.1[S.2.1.1]? = some M) (hq : px_look M.2.1 S.2.1.2.1 = some (.putfield idx, 3)) (hst : S.2.1.2.2.2 = .inl e :: .inr (.inl a) :: r) (ha : 64 ≤ a) (hA : q.2.1[a - 64]? = some (.inr (.inr (ci, sl)))) (hL : px_look M.2.2.1 idx = some (ci, sl0)) (hk : x.1[ci]? = some k) (hft : sy_ft (px_ty k.2.1 sl0) (sy_vb S.1.1 e) = true) (hfin : (k.2.1 sl0).2.2.2 = false) (hr : sl[sl0]? = some (.inl rg)) (hv1 : rg.1 ≤ (sy_vb S.1.1 e).1) (hv2 : (sy_vb S.1.1 e).2 ≤ rg.2) (hmay : sy_may q.2.2.1 (a - 64) sl0 = true)
    (hG : sy_Good x q (sy_at S (S.1.1, S.1.2.1, S.1.2.2.1, (a - 64, sy_c sl0, .inl e) :: sy_drop S.1.1 (a - 64) (sy_c sl0) S.1.2.2.2) (S.2.1.2.1 + 3) S.2.1.2.2.1 r)) : sy_Good x q S := by
  refine sy_open (fun ρ τ w lc cf d hm hl hf hd => ?_) hM
  obtain ⟨m1, m2, m3, m4, m5, m6⟩ := id hm
  obtain ⟨o, l1, l2, l3, l4, l5⟩ := sy_cell_o m5 hA
  have hvb := sy_vb_ok m2 e
  have hz : sl0 < o.2.length := by
    rw [l3]
    exact (List.getElem?_eq_some_iff.mp hr).1
  have ec : (sy_e ρ (sy_c (sl0 : Int))).toNat = sl0 := by rw [sy_c_e]; omega
  have hg : ∀ k' i' : Nat, ¬ (k' = a - 64 ∧ i' = sl0) → sy_get (w.set (a - 64) (.inr (.inr (o.1, o.2.set sl0 (.int (Int32.ofInt (sy_e ρ e))))))) k' i' = sy_get w k' i' := by
    intro k' i' hne
    rw [sy_get_set l1]
    split
    · rename_i hk
      subst hk
      have hi : sl0 ≠ i' := fun z => hne ⟨rfl, z.symm⟩
      rw [sy_getO l1]
      show (o.2.set _ _)[i']? = _
      rw [List.getElem?_set_ne hi]
    · rfl
  have hm' : sy_mem q (S.1.1, S.1.2.1, S.1.2.2.1, (a - 64, sy_c sl0, .inl e) :: sy_drop S.1.1 (a - 64) (sy_c sl0) S.1.2.2.2) ρ τ (w.set (a - 64) (.inr (.inr (o.1, o.2.set sl0 (.int (Int32.ofInt (sy_e ρ e))))))) := by
    refine ⟨m1, m2, m3, fun f hf => ?_, sy_W_set m5 hA ?_, sy_fr_set m6 hmay hg⟩
    · rcases List.mem_cons.mp hf with rfl | hf
      · show 0 ≤ sy_e ρ (sy_c (sl0 : Int)) ∧ sy_get _ (a - 64) (sy_e ρ (sy_c (sl0 : Int))).toNat = some (.int (Int32.ofInt (sy_e ρ e)))
        rw [ec, sy_get_set l1, if_pos rfl]
        refine ⟨by rw [sy_c_e]; omega, ?_⟩
        show (o.2.set _ _)[sl0]? = _
        rw [List.getElem?_set_self hz]
      · exact sy_drop_ok m2 m4 (by rw [sy_c_e]; omega) (fun k' i' h => hg k' i' (fun z => h (by rw [ec]; exact z))) f hf
    · refine ⟨l2, by rw [List.length_set]; exact l3, fun i v hv => ?_, fun i v hv => ?_⟩
      · by_cases hi : sl0 = i
        · subst hi
          rw [hr] at hv
          cases hv
          exact ⟨_, List.getElem?_set_self hz, Int.le_trans hv1 hvb.1, Int.le_trans hvb.2 hv2⟩
        · rw [List.getElem?_set_ne hi]
          exact l4 i v hv
      · by_cases hi : sl0 = i
        · subst hi
          rw [hr] at hv
          cases hv
        · rw [List.getElem?_set_ne hi]
          exact l5 i v hv
  refine (fun hs : px_s2 x.1 x.2.1 (.putfield idx) 3 (pf_scr x.2.2.2.1 cf) M.1.1.name M.1.1.cls M.2.2 (S.2.1.2.2.2.map (sy_v ρ τ)) w = some (r.map (sy_v ρ τ), w.set (a - 64) (.inr (.inr (o.1, o.2.set sl0 (.int (Int32.ofInt (sy_e ρ e)))))), 0, 0) => pf_next (px_step_2 hq rfl hs) (sy_use hG hM hm' hl hf hd)) ?_
  rw [hst]
  show (if 3 = 3 ∧ 64 ≤ a then (match px_look M.2.2.1 idx, w[a - 64]? with
    | some q, some (.inr (.inr o)) => (match x.1[q.1]? with
      | some k => if q.1 = o.1 ∧ q.2 < o.2.length ∧ px_fit (px_ty k.2.1 q.2) (.int (Int32.ofInt (sy_e ρ e))) = true ∧ ((k.2.1 q.2).2.2.2 = true → M.1.1.name = "<init>" ∧ (k.2.1 q.2).1 = M.1.1.cls) then some (r.map (sy_v ρ τ), w.set (a - 64) (.inr (.inr (o.1, o.2.set q.2 (.int (Int32.ofInt (sy_e ρ e)))))), 0, 0) else none
      | none => none)
    | _, _ => none) else none) = _
  rw [if_pos ⟨rfl, ha⟩, hL, l1]
  show (match x.1[ci]? with
      | some k => if ci = o.1 ∧ sl0 < o.2.length ∧ px_fit (px_ty k.2.1 sl0) (.int (Int32.ofInt (sy_e ρ e))) = true ∧ ((k.2.1 sl0).2.2.2 = true → M.1.1.name = "<init>" ∧ (k.2.1 sl0).1 = M.1.1.cls) then some (r.map (sy_v ρ τ), w.set (a - 64) (.inr (.inr (o.1, o.2.set sl0 (.int (Int32.ofInt (sy_e ρ e)))))), 0, 0) else none
      | none => none) = _
  rw [hk]
  show (if ci = o.1 ∧ sl0 < o.2.length ∧ px_fit (px_ty k.2.1 sl0) (.int (Int32.ofInt (sy_e ρ e))) = true ∧ ((k.2.1 sl0).2.2.2 = true → M.1.1.name = "<init>" ∧ (k.2.1 sl0).1 = M.1.1.cls) then _ else none) = _
  rw [if_pos ⟨l2.symm, hz, sy_ft_ok hft hvb, fun z => by rw [hfin] at z; cases z⟩]
end WR
end
section
/-! CALLS THAT ARE WALKED IN PLACE, AND RETURNS -/
section CA
variable {cl : List vw_C} {P : List px_M} {len d idx : Nat} {L : px_L} {st : List Value} {w : px_W} {k : Nat × Nat}
theorem px_s3_no2 (h : px_look L.2.1 idx = some k) (hk : k.1 ≠ 6) : px_s3 (.invokestatic idx) len d L st w = none := by
  unfold px_s3
  split
  · rename_i heq
    cases heq
    split
    · rw [h]
      split
      · rename_i hq _ _
        cases hq
        rw [if_neg (fun z => hk z.1)]
      · rfl
    · rfl
  · rename_i heq
    cases heq
  · rfl
theorem px_s3_no3 : px_s3 (.invokevirtual idx) len d L st w = none := by
  unfold px_s3
  split
  · rename_i heq
    cases heq
  · rename_i heq
    cases heq
  · rfl
theorem px_s6_no2 (h : px_look L.2.1 idx = some k) (hk : k.1 ≠ 8 ∧ k.1 ≠ 9 ∧ k.1 ≠ 10) : px_s6 (.invokestatic idx) len d L st = none := by
  unfold px_s6
  dsimp only
  split
  · rw [h]
    show (match st with
    | .int y :: r => if k.1 = 10 then (if (r.map (fun v => v.category)).sum ≤ 8 then some (Value.int (if 0 ≤ y then y else 0 - y) :: r) else none) else (match r with
      | .int x :: r2 => if (r2.map (fun v => v.category)).sum ≤ 8 then (if k.1 = 8 then some (Value.int (if x < y then y else x) :: r2) else if k.1 = 9 then some (Value.int (if y < x then y else x) :: r2) else none) else none
      | _ => none)
    | _ => none) = none
    split
    · rw [if_neg hk.2.2]
      split
      · split
        · rw [if_neg hk.1, if_neg hk.2.1]
        · rfl
      · rfl
    · rfl
  · rfl
theorem px_s6_no3 : px_s6 (.invokevirtual idx) len d L st = none := rfl
end CA
def sy_args : Nat → List sy_A → List (Nat × sy_A)
  | _, [] => []
  | i, a :: r => (i, a) :: sy_args (if sy_cat a = 2 then i + 2 else i + 1) r
theorem sy_args_eq {ρ : Nat → Int} {τ : Nat → Int64} : ∀ (as : List sy_A) (i : Nat), lv_args i (as.map (sy_v ρ τ)) = (sy_args i as).map (fun q => (q.1, sy_v ρ τ q.2))
  | [], _ => rfl
  | a :: r, i => by
    show (i, sy_v ρ τ a) :: lv_args (if (sy_v ρ τ a).category = 2 then i + 2 else i + 1) (r.map (sy_v ρ τ)) = _
    rw [sy_cat_v, sy_args_eq r]
    rfl
theorem sy_args_ge : ∀ (as : List sy_A) (i : Nat), ∀ q ∈ sy_args i as, i ≤ q.1
  | [], _, q, h => absurd h List.not_mem_nil
  | a :: r, i, q, h => by
    rcases List.mem_cons.mp h with rfl | h
    · exact Nat.le_refl _
    · have := sy_args_ge r _ q h
      split at this <;> omega
theorem sy_args_look {ρ : Nat → Int} {τ : Nat → Int64} : ∀ (as : List sy_A) (i : Nat), ∀ q ∈ sy_args i as, px_look ((sy_args i as).map (fun q => (q.1, sy_v ρ τ q.2))) q.1 = some (sy_v ρ τ q.2)
  | [], _, q, h => absurd h List.not_mem_nil
  | a :: r, i, q, h => by
    rcases List.mem_cons.mp h with rfl | h
    · show px_look ((i, sy_v ρ τ a) :: _) i = _
      unfold px_look
      rw [if_pos rfl]
    · have hge := sy_args_ge r _ q h
      have hne : ¬ i = q.1 := by split at hge <;> omega
      show px_look ((i, sy_v ρ τ a) :: _) q.1 = _
      unfold px_look
      rw [if_neg hne]
      exact sy_args_look r _ q h
theorem sy_args_ok {ρ : Nat → Int} {τ : Nat → Int64} (as : List sy_A) : sy_lvok ρ τ (sy_args 0 as) (lv_args 0 (as.map (sy_v ρ τ))) := by
  intro q hq
  rw [sy_args_eq]
  exact sy_args_look as 0 q hq
def sy_len (as : List sy_A) : Nat := (as.map sy_cat).sum
theorem sy_len_ok {ρ : Nat → Int} {τ : Nat → Int64} : ∀ as : List sy_A, (lg_sl (as.map (sy_v ρ τ))).length = sy_len as
  | [] => rfl
  | a :: r => by
    have ih := sy_len_ok (ρ := ρ) (τ := τ) r
    unfold lg_sl at ih ⊢
    rw [List.map_cons, List.flatMap_cons, List.length_append, ih]
    show _ = sy_cat a + sy_len r
    congr 1
    rw [sy_cat_v]
    match a with
    | .inl _ => rfl
    | .inr (.inl _) => rfl
    | .inr (.inr _) => rfl
theorem sy_sum_v {ρ : Nat → Int} {τ : Nat → Int64} (r : List sy_A) : ((r.map (sy_v ρ τ)).map (fun v => v.category)).sum = (r.map sy_cat).sum := by
  rw [List.map_map]
  congr 1
  exact List.map_congr_left (fun a _ => sy_cat_v a)
section CB
variable {x : sy_X} {q : sy_Q} {S : sy_S} {M M' : px_M}
/-- what a call is: its method's number, its arguments, the rest -/
def sy_cl (cl : List vw_C) (A : List sy_Ce) (P : List px_M) (i : Instr) (len : Nat) (L : px_L) (st : List sy_A) : Option (Nat × List sy_A × List sy_A) := match i with
  | .invokestatic k => (px_look L.2.1 k).bind (fun c => (P[c.2]?).bind (fun M => if len = 3 ∧ (c.1 = 1 ∨ c.1 = 4) ∧ M.1.2.2.2.2 ≤ st.length ∧ ((st.drop M.1.2.2.2.2).map sy_cat).sum ≤ 8 then some (c.2, (st.take M.1.2.2.2.2).reverse, st.drop M.1.2.2.2.2) else none))
  | .invokevirtual k => (px_look L.2.1 k).bind (fun c => (P[c.2]?).bind (fun M => match st.drop M.1.2.2.2.2 with
    | .inr (.inl b) :: r => if len = 3 ∧ c.1 = 0 ∧ M.1.2.2.2.2 ≤ st.length ∧ (r.map sy_cat).sum ≤ 8 then (if 64 ≤ b then (match A[b - 64]? with
      | some (.inr (.inr o)) => (match cl[o.1]? with
        | some kc => if kc.1 = M.1.1.cls then some (c.2, .inr (.inl b) :: (st.take M.1.2.2.2.2).reverse, r) else none
        | none => none)
      | _ => none) else if 1 ≤ b ∧ b ≤ 16 ∧ M.1.1.cls = "java/lang/String" then some (c.2, .inr (.inl b) :: (st.take M.1.2.2.2.2).reverse, r) else none) else none
    | _ => none))
  | _ => none
theorem sy_cl_ok {ρ : Nat → Int} {τ : Nat → Int64} {w : px_W} {cl : List vw_C} {P : List px_M} {i : Instr} {len d : Nat} {L : px_L} {st : List sy_A} {z : Nat × List sy_A × List sy_A} (hW : sy_W q.2.1 w) (hz : sy_cl cl q.2.1 P i len L st = some z) : 2 ≤ px_so2 i ∧ px_s3 i len d L (st.map (sy_v ρ τ)) w = none ∧ px_s6 i len d L (st.map (sy_v ρ τ)) = none ∧ px_s4 cl P i len L (st.map (sy_v ρ τ)) w = some (z.1, z.2.1.map (sy_v ρ τ), z.2.2.map (sy_v ρ τ)) := by
  unfold sy_cl at hz
  split at hz
  · rename_i k
    obtain ⟨c, hc, h1⟩ := Option.bind_eq_some_iff.mp hz
    obtain ⟨M, hM, h2⟩ := Option.bind_eq_some_iff.mp h1
    clear hz h1
    split at h2
    · rename_i hh
      cases h2
      obtain ⟨g1, g2, g3, g4⟩ := hh
      refine ⟨by show 2 ≤ 2; omega, px_s3_no2 hc (by omega), px_s6_no2 hc (by omega), ?_⟩
      show (if len = 3 then (px_look L.2.1 k).bind (fun q => (P[q.2]?).bind (fun M => if (q.1 = 1 ∨ q.1 = 4) ∧ M.1.2.2.2.2 ≤ (st.map (sy_v ρ τ)).length ∧ (((st.map (sy_v ρ τ)).drop M.1.2.2.2.2).map (fun v => v.category)).sum ≤ 8 then some (q.2, ((st.map (sy_v ρ τ)).take M.1.2.2.2.2).reverse, (st.map (sy_v ρ τ)).drop M.1.2.2.2.2) else none)) else none) = _
      rw [if_pos g1, hc]
      show (P[c.2]?).bind _ = _
      rw [hM]
      show (if (c.1 = 1 ∨ c.1 = 4) ∧ M.1.2.2.2.2 ≤ (st.map (sy_v ρ τ)).length ∧ (((st.map (sy_v ρ τ)).drop M.1.2.2.2.2).map (fun v => v.category)).sum ≤ 8 then _ else none) = _
      rw [← List.map_drop, ← List.map_take, sy_sum_v, List.length_map, if_pos ⟨g2, g3, g4⟩, ← List.map_reverse]
    · cases h2
  · rename_i k
    obtain ⟨c, hc, h1⟩ := Option.bind_eq_some_iff.mp hz
    obtain ⟨M, hM, h2⟩ := Option.bind_eq_some_iff.mp h1
    clear hz h1
    split at h2
    · rename_i b r hdr
      split at h2
      · rename_i hh
        obtain ⟨g1, g2, g3, g4⟩ := hh
        have hd2 : (st.map (sy_v ρ τ)).drop M.1.2.2.2.2 = .ref b :: r.map (sy_v ρ τ) := by
          rw [← List.map_drop, hdr]
          rfl
        refine ⟨by show 2 ≤ 3; omega, px_s3_no3, px_s6_no3, ?_⟩
        unfold px_s4
        dsimp only
        rw [if_pos g1, hc]
        show (P[c.2]?).bind _ = _
        rw [hM]
        dsimp only [Option.bind_some]
        rw [hd2]
        dsimp only
        split at h2
        · rename_i h64
          rw [if_pos ⟨g2, by rw [List.length_map]; exact g3, h64, by rw [sy_sum_v]; exact g4⟩]
          split at h2
          · rename_i o hA
            obtain ⟨o1, o2⟩ := o
            obtain ⟨oc, l1, l2, -⟩ := sy_cell_o hW hA
            rw [l1]
            dsimp only
            rw [l2]
            split at h2
            · rename_i kc hkc
              rw [hkc]
              dsimp only
              split at h2
              · rename_i hcls
                cases h2
                rw [if_pos hcls, ← List.map_take, ← List.map_reverse]
                rfl
              · cases h2
            · cases h2
          · cases h2
        · rename_i h64
          split at h2
          · rename_i h16
            cases h2
            rw [if_neg (fun z => h64 z.2.2.1), if_pos ⟨g2, by rw [List.length_map]; exact g3, h16.1, h16.2.1, h16.2.2, by rw [sy_sum_v]; exact g4⟩, ← List.map_take, ← List.map_reverse]
            rfl
          · cases h2
      · cases h2
    · cases h2
  · cases hz
theorem sy_goCall {i : Instr} {len : Nat} {z : Nat × List sy_A × List sy_A} (hM : q.1[S.2.1.1]? = some M) (hq : px_look M.2.1 S.2.1.2.1 = some (i, len)) (hz : sy_cl x.1 q.2.1 x.2.2.1 i len M.2.2 S.2.1.2.2.2 = some z) (hM' : x.2.2.1[z.1]? = some M') (hPM : q.1[z.1]? = some M') (hlen : sy_len z.2.1 ≤ M'.1.2.2.1) (hdep : S.2.2.length + 1 ≤ x.2.2.2.2.2.2)
    (hG : sy_Good x q (S.1, (z.1, 0, sy_args 0 z.2.1, []), (S.2.1.1, S.2.1.2.1 + 3, S.2.1.2.2.1, z.2.2) :: S.2.2)) : sy_Good x q S := by
  refine sy_open (fun ρ τ w lc cf d hm hl hf hd => ?_) hM
  obtain ⟨h0, h3, h6, h4⟩ := sy_cl_ok (ρ := ρ) (τ := τ) (d := d) hm.2.2.2.2.1 hz
  have hcf : S.2.2.length = cf.length := by
    have key : ∀ (fs : List sy_Fr) (cs : List pf_F), sy_frs ρ τ q.1 fs cs → fs.length = cs.length := by
      intro fs
      induction fs with
      | nil =>
        intro cs h
        cases cs with
        | nil => rfl
        | cons => exact h.elim
      | cons f fs ih =>
        intro cs h
        cases cs with
        | nil => exact h.elim
        | cons c cs => rw [List.length_cons, List.length_cons, ih cs h.2]
    exact key _ _ hf
  cases d with
  | zero => omega
  | succ d =>
    have hstep := px_step_4 (cl := x.1) (lt := x.2.1) (P := x.2.2.1) (d := d + 1) (scr := pf_scr x.2.2.2.1 cf) (lv := lc) hq h0 h3 h6 h4
    refine pf_call hstep hM' (by rw [sy_len_ok]; exact hlen) ?_
    exact hG ρ τ w (M', 0, lv_args 0 (z.2.1.map (sy_v ρ τ)), []) ((M, S.2.1.2.1 + 3, lc, z.2.2.map (sy_v ρ τ)) :: cf) d ⟨hm, ⟨hPM, rfl, sy_args_ok _, rfl⟩, ⟨hM, rfl, hl, rfl⟩, hf⟩ (by rw [List.length_cons]; omega)
/-- what a return gives -/
def sy_rt (R : sy_T) (i : Instr) (len : Nat) (ret : Option FieldType) (st : List sy_A) : Option (Option sy_A) := match i, st with
  | .ireturn, [.inl e] => (match ret with
    | some .int => if len = 1 then some (some (.inl e)) else none
    | some .boolean => if len = 1 ∧ 0 ≤ (sy_vb R e).1 ∧ (sy_vb R e).2 ≤ 1 then some (some (.inl e)) else none
    | some .byte => if len = 1 ∧ 0 ≤ (sy_vb R e).1 ∧ (sy_vb R e).2 ≤ 0 then some (some (.inl e)) else none
    | some .char => if len = 1 ∧ 0 ≤ (sy_vb R e).1 ∧ (sy_vb R e).2 ≤ 65535 then some (some (.inl e)) else none
    | _ => none)
  | .lreturn, [.inr (.inr s)] => if len = 1 ∧ ret = some .long then some (some (.inr (.inr s))) else none
  | .return_, [] => if len = 1 ∧ ret = none then some none else none
  | _, _ => none
theorem sy_rt_ok {ρ : Nat → Int} {τ : Nat → Int64} {R : sy_T} (h : sy_ok ρ R) {i : Instr} {len : Nat} {ret : Option FieldType} {st : List sy_A} {v : Option sy_A} (hv : sy_rt R i len ret st = some v) : px_so2 i = 1 ∧ px_s5 i len ret (st.map (sy_v ρ τ)) = some (v.map (sy_v ρ τ)) := by
  unfold sy_rt at hv
  split at hv
  · rename_i e
    have hb := sy_vb_ok h e
    split at hv
    · split at hv
      · rename_i hc
        cases hv
        refine ⟨rfl, ?_⟩
        show (if len = 1 ∧ narrow .int (.int _) = .int _ then _ else none) = _
        rw [if_pos ⟨hc, rfl⟩]
        rfl
      · cases hv
    · split at hv
      · rename_i hc
        cases hv
        refine ⟨rfl, ?_⟩
        have h2 : Int32.ofInt (sy_e ρ e) = 0 ∨ Int32.ofInt (sy_e ρ e) = 1 := by
          rcases (show (Int32.ofInt (sy_e ρ e)).toInt = 0 ∨ (Int32.ofInt (sy_e ρ e)).toInt = 1 by omega) with h3 | h3
          · exact Or.inl (Int32.toInt_inj.mp h3)
          · exact Or.inr (Int32.toInt_inj.mp h3)
        show (if len = 1 ∧ narrow .boolean (.int (Int32.ofInt (sy_e ρ e))) = .int (Int32.ofInt (sy_e ρ e)) then _ else none) = _
        rw [if_pos ⟨hc.1, by rcases h2 with h2 | h2 <;> rw [h2] <;> rfl⟩]
        rfl
      · cases hv
    · split at hv
      · rename_i hc
        cases hv
        refine ⟨rfl, ?_⟩
        have h2 : Int32.ofInt (sy_e ρ e) = 0 := Int32.toInt_inj.mp (show (Int32.ofInt (sy_e ρ e)).toInt = 0 by omega)
        show (if len = 1 ∧ narrow .byte (.int (Int32.ofInt (sy_e ρ e))) = .int (Int32.ofInt (sy_e ρ e)) then _ else none) = _
        rw [if_pos ⟨hc.1, by rw [h2]; rfl⟩]
        rfl
      · cases hv
    · split at hv
      · rename_i hc
        cases hv
        refine ⟨rfl, ?_⟩
        have h2 : narrow .char (.int (Int32.ofInt (sy_e ρ e))) = .int (Int32.ofInt (sy_e ρ e)) := by
          show Value.int _ = _
          rw [sy_ch1 (by omega) (by omega)]
        show (if len = 1 ∧ narrow .char (.int (Int32.ofInt (sy_e ρ e))) = .int (Int32.ofInt (sy_e ρ e)) then _ else none) = _
        rw [if_pos ⟨hc.1, h2⟩]
        rfl
      · cases hv
    · cases hv
  · split at hv
    · rename_i hc
      cases hv
      refine ⟨rfl, ?_⟩
      show (if len = 1 ∧ ret = some .long then _ else none) = _
      rw [if_pos hc]
      rfl
    · cases hv
  · split at hv
    · rename_i hc
      cases hv
      refine ⟨rfl, ?_⟩
      show (if len = 1 ∧ ret = none then _ else none) = _
      rw [if_pos hc]
      rfl
    · cases hv
  · cases hv
theorem sy_goBack {i : Instr} {len : Nat} {v : Option sy_A} {f : sy_Fr} {fs : List sy_Fr} (hM : q.1[S.2.1.1]? = some M) (hq : px_look M.2.1 S.2.1.2.1 = some (i, len)) (hv : sy_rt S.1.1 i len M.1.2.2.2.1 S.2.1.2.2.2 = some v) (hfs : S.2.2 = f :: fs) (hG : sy_Good x q (S.1, (f.1, f.2.1, f.2.2.1, v.toList ++ f.2.2.2), fs)) : sy_Good x q S := by
  refine sy_open (fun ρ τ w lc cf d hm hl hf hd => ?_) hM
  rw [hfs] at hf
  cases cf with
  | nil => exact hf.elim
  | cons c cf =>
    obtain ⟨⟨g1, g2, g3, g4⟩, hf2⟩ := hf
    obtain ⟨h0, h5⟩ := sy_rt_ok (ρ := ρ) (τ := τ) hm.2.1 hv
    refine pf_back (px_step_5 hq h0 h5) ?_
    have e1 : (v.map (sy_v ρ τ)).toList ++ c.2.2.2 = (v.toList ++ f.2.2.2).map (sy_v ρ τ) := by
      rw [g4, List.map_append]
      cases v <;> rfl
    rw [e1]
    have hu := hG ρ τ w (c.1, c.2.1, c.2.2.1, (v.toList ++ f.2.2.2).map (sy_v ρ τ)) cf (d + 1) ⟨hm, ⟨g1, g2, g3, rfl⟩, hf2⟩ (by rw [List.length_cons] at hd; omega)
    exact hu
theorem sy_goEnd {i : Instr} {len : Nat} {v : Option sy_A} (hM : q.1[S.2.1.1]? = some M) (hq : px_look M.2.1 S.2.1.2.1 = some (i, len)) (hv : sy_rt S.1.1 i len M.1.2.2.2.1 S.2.1.2.2.2 = some v) (hfs : S.2.2 = []) (hK : ∀ (ρ : Nat → Int) (τ : Nat → Int64) (w : px_W), sy_mem q S.1 ρ τ w → x.2.2.2.2.2.1 (v.map (sy_v ρ τ)) w) : sy_Good x q S := by
  refine sy_open (fun ρ τ w lc cf d hm hl hf hd => ?_) hM
  rw [hfs] at hf
  cases cf with
  | cons c cf => exact hf.elim
  | nil =>
    obtain ⟨h0, h5⟩ := sy_rt_ok (ρ := ρ) (τ := τ) hm.2.1 hv
    exact pf_end (px_step_5 hq h0 h5) (hK ρ τ w hm)
end CB
end
section
/-! ONE STATE AS A CASE OF ANOTHER: symbols stand for forms -/
def sy_ρ (ρ : Nat → Int) (σ : List sy_L) : Nat → Int := fun i => match σ[i]? with
  | some f => sy_e ρ f
  | none => 0
def sy_τ (τ : Nat → Int64) (σL : List Nat) : Nat → Int64 := fun i => match σL[i]? with
  | some s => τ s
  | none => 0
def sy_sbs (σ : List sy_L) : List (Nat × Int) → Option sy_L
  | [] => some (0, [])
  | t :: r => match σ[t.1]?, sy_sbs σ r with
    | some e, some z => some (sy_add (sy_scl t.2 e) z)
    | _, _ => none
theorem sy_sbs_e {ρ : Nat → Int} {σ : List sy_L} : ∀ (l : List (Nat × Int)) (z : sy_L), sy_sbs σ l = some z → sy_e ρ z = sy_s (sy_ρ ρ σ) l
  | [], z, h => by
    cases h
    simp [sy_e, sy_s]
  | t :: r, z, h => by
    unfold sy_sbs at h
    split at h
    · rename_i e y he hy
      cases h
      rw [sy_add_e, sy_scl_e, sy_sbs_e r y hy]
      show _ = t.2 * sy_ρ ρ σ t.1 + sy_s (sy_ρ ρ σ) r
      have : sy_ρ ρ σ t.1 = sy_e ρ e := by
        unfold sy_ρ
        rw [he]
      rw [this]
    · cases h
def sy_sb (σ : List sy_L) (e : sy_L) : Option sy_L := (sy_sbs σ e.2).map (fun z => (e.1 + z.1, z.2))
theorem sy_sb_e {ρ : Nat → Int} {σ : List sy_L} {e z : sy_L} (h : sy_sb σ e = some z) : sy_e ρ z = sy_e (sy_ρ ρ σ) e := by
  obtain ⟨y, hy, rfl⟩ := Option.map_eq_some_iff.mp h
  have := sy_sbs_e (ρ := ρ) e.2 y hy
  unfold sy_e at this ⊢
  show e.1 + y.1 + sy_s ρ y.2 = _
  omega
def sy_sbA (σ : List sy_L) (σL : List Nat) (a : sy_A) : Option sy_A := match a with
  | .inl e => (sy_sb σ e).map .inl
  | .inr (.inl k) => some (.inr (.inl k))
  | .inr (.inr s) => (σL[s]?).map (fun t => .inr (.inr t))
theorem sy_sbA_e {ρ : Nat → Int} {τ : Nat → Int64} {σ : List sy_L} {σL : List Nat} {a z : sy_A} (h : sy_sbA σ σL a = some z) : sy_v ρ τ z = sy_v (sy_ρ ρ σ) (sy_τ τ σL) a := by
  match a, h with
  | .inl e, h =>
    obtain ⟨y, hy, rfl⟩ := Option.map_eq_some_iff.mp h
    show Value.int _ = Value.int _
    rw [sy_sb_e hy]
  | .inr (.inl k), h => cases h; rfl
  | .inr (.inr s), h =>
    obtain ⟨y, hy, rfl⟩ := Option.map_eq_some_iff.mp h
    show Value.long (τ y) = Value.long (sy_τ τ σL s)
    unfold sy_τ
    rw [hy]
def sy_eq (R : sy_T) (a b : sy_L) : Bool := decide (sy_nm R (sy_sub a b) = (0, []))
theorem sy_eq_e {ρ : Nat → Int} {R : sy_T} (h : sy_ok ρ R) {a b : sy_L} (he : sy_eq R a b = true) : sy_e ρ a = sy_e ρ b := by
  have h1 := sy_nm_e h (sy_sub a b)
  rw [of_decide_eq_true he, sy_sub_e] at h1
  have : sy_e ρ ((0, []) : sy_L) = 0 := by simp [sy_e, sy_s]
  omega
def sy_eqA (R : sy_T) (a b : sy_A) : Bool := match a, b with
  | .inl e, .inl f => sy_eq R e f
  | .inr (.inl k), .inr (.inl l) => decide (k = l)
  | .inr (.inr k), .inr (.inr l) => decide (k = l)
  | _, _ => false
theorem sy_eqA_e {ρ : Nat → Int} {τ : Nat → Int64} {R : sy_T} (h : sy_ok ρ R) {a b : sy_A} (he : sy_eqA R a b = true) : sy_v ρ τ a = sy_v ρ τ b := by
  match a, b, he with
  | .inl e, .inl f, he =>
    show Value.int _ = Value.int _
    rw [sy_eq_e h he]
  | .inr (.inl k), .inr (.inl l), he => rw [of_decide_eq_true he]
  | .inr (.inr k), .inr (.inr l), he => rw [of_decide_eq_true he]
/-- ranges, constraints and facts of one state hold, by a case, in another -/
def sy_fitR (R : sy_T) (cs : List sy_L) : sy_T → List sy_L → Bool
  | [], _ => true
  | p :: r, f :: σ => sy_pos R cs (sy_add f (sy_c (-p.1))) && (sy_pos R cs (sy_sub (sy_c p.2) f) && sy_fitR R cs r σ)
  | _ :: _, [] => false
theorem sy_fitR_ok {ρ : Nat → Int} {R : sy_T} {cs : List sy_L} (h : sy_ok ρ R) (hc : sy_cok ρ cs) : ∀ (T : sy_T) (σ : List sy_L), sy_fitR R cs T σ = true → ∀ (i : Nat) (p : Int × Int), T[i]? = some p → ∃ f, σ[i]? = some f ∧ p.1 ≤ sy_e ρ f ∧ sy_e ρ f ≤ p.2
  | [], _, _, i, p, hp => by simp at hp
  | _ :: _, [], hf, _, _, _ => by simp [sy_fitR] at hf
  | p0 :: r, f :: σ, hf, i, p, hp => by
    unfold sy_fitR at hf
    simp only [Bool.and_eq_true] at hf
    cases i with
    | zero =>
      rw [List.getElem?_cons_zero] at hp
      cases hp
      have h1 := sy_pos_e h hc hf.1
      have h2 := sy_pos_e h hc hf.2.1
      rw [sy_add_e, sy_c_e] at h1
      rw [sy_sub_e, sy_c_e] at h2
      exact ⟨f, rfl, by omega, by omega⟩
    | succ i =>
      rw [List.getElem?_cons_succ] at hp ⊢
      exact sy_fitR_ok h hc r σ hf.2.2 i p hp
def sy_fitF (R : sy_T) (F : List sy_Fa) (σ : List sy_L) (σL : List Nat) (f : sy_Fa) : Bool := match sy_sb σ f.2.1, sy_sbA σ σL f.2.2 with
  | some ix, some v => F.any (fun g => decide (g.1 = f.1) && (sy_eq R g.2.1 ix && sy_eqA R g.2.2 v))
  | _, _ => false
def sy_fitG (g : sy_G) (σ : List sy_L) (σL : List Nat) (t : sy_G) : Bool := sy_fitR g.1 g.2.2.1 t.1 σ && (t.2.2.1.all (fun c => match sy_sb σ c with
  | some e => sy_pos g.1 g.2.2.1 e
  | none => false) && t.2.2.2.all (sy_fitF g.1 g.2.2.2 σ σL))
theorem sy_fitG_ok {ρ : Nat → Int} {τ : Nat → Int64} {w : px_W} {g t : sy_G} {σ : List sy_L} {σL : List Nat} (h : sy_ok ρ g.1) (hc : sy_cok ρ g.2.2.1) (hF : sy_fok ρ τ w g.2.2.2) (hf : sy_fitG g σ σL t = true) : sy_ok (sy_ρ ρ σ) t.1 ∧ sy_cok (sy_ρ ρ σ) t.2.2.1 ∧ sy_fok (sy_ρ ρ σ) (sy_τ τ σL) w t.2.2.2 := by
  unfold sy_fitG at hf
  simp only [Bool.and_eq_true, List.all_eq_true] at hf
  obtain ⟨h1, h2, h3⟩ := hf
  refine ⟨fun i p hp => ?_, fun c hcc => ?_, fun f hff => ?_⟩
  · obtain ⟨f, f1, f2⟩ := sy_fitR_ok h hc _ _ h1 i p hp
    have : sy_ρ ρ σ i = sy_e ρ f := by
      unfold sy_ρ
      rw [f1]
    rw [this]
    exact f2
  · have h4 := h2 c hcc
    split at h4
    · rename_i e he
      rw [← sy_sb_e he]
      exact sy_pos_e h hc h4
    · cases h4
  · have h4 := h3 f hff
    unfold sy_fitF at h4
    split at h4
    · rename_i ix v hi hv
      obtain ⟨g2, g3, g4⟩ := List.any_eq_true.mp h4
      simp only [Bool.and_eq_true, decide_eq_true_eq] at g4
      have h5 := hF g2 g3
      have e1 := sy_eq_e h g4.2.1
      have e2 := sy_eqA_e (τ := τ) h g4.2.2
      rw [sy_sb_e hi] at e1
      rw [sy_sbA_e hv] at e2
      rw [g4.1, e1, e2] at h5
      exact h5
    · cases h4
/-! CUTS: a state with a measure; whoever comes to one comes with less -/
abbrev sy_Cut : Type := Nat × sy_G × List (Nat × sy_A) × sy_L
/-- a state comes to a cut, as a case of it, with a measure below m -/
def sy_fitC (N0 : Nat) (S : sy_S) (c : sy_Cut) (σ : List sy_L) (σL : List Nat) (m : sy_L) : Bool :=
  decide (S.2.2 = []) && (decide (S.2.1.2.2.2 = []) && (decide (S.2.1.2.1 = c.1) && (decide (N0 ≤ c.2.1.1.length) && ((List.range N0).all (fun i => decide (σ[i]? = some (sy_x i))) && (sy_fitG S.1 σ σL c.2.1 && (c.2.2.1.all (fun p => match px_look S.2.1.2.2.1 p.1, sy_sbA σ σL p.2 with
    | some a, some b => sy_eqA S.1.1 a b
    | _, _ => false) && (match sy_sb σ c.2.2.2 with
    | some e => sy_pos S.1.1 S.1.2.2.1 e && sy_pos S.1.1 S.1.2.2.1 (sy_add (sy_sub m e) (sy_c (-1)))
    | none => false)))))))
theorem sy_fitC_ok {N0 : Nat} {S : sy_S} {c : sy_Cut} {σ : List sy_L} {σL : List Nat} {m : sy_L} {ρ : Nat → Int} {τ : Nat → Int64} {w : px_W} {lc : List (Nat × Value)} (hf : sy_fitC N0 S c σ σL m = true) (h : sy_ok ρ S.1.1) (hc : sy_cok ρ S.1.2.2.1) (hF : sy_fok ρ τ w S.1.2.2.2) (hl : sy_lvok ρ τ S.2.1.2.2.1 lc) :
    (S.2.2 = [] ∧ S.2.1.2.2.2 = [] ∧ S.2.1.2.1 = c.1 ∧ N0 ≤ c.2.1.1.length) ∧ (∀ i, i < N0 → sy_ρ ρ σ i = ρ i) ∧ sy_ok (sy_ρ ρ σ) c.2.1.1 ∧ sy_cok (sy_ρ ρ σ) c.2.1.2.2.1 ∧ sy_fok (sy_ρ ρ σ) (sy_τ τ σL) w c.2.1.2.2.2 ∧ sy_lvok (sy_ρ ρ σ) (sy_τ τ σL) c.2.2.1 lc ∧ 0 ≤ sy_e (sy_ρ ρ σ) c.2.2.2 ∧ sy_e (sy_ρ ρ σ) c.2.2.2 < sy_e ρ m := by
  unfold sy_fitC at hf
  simp only [Bool.and_eq_true, decide_eq_true_eq] at hf
  obtain ⟨h1, h2, h3, h4, h5, h6, h7, h8⟩ := hf
  obtain ⟨g1, g2, g3⟩ := sy_fitG_ok h hc hF h6
  refine ⟨⟨h1, h2, h3, h4⟩, fun i hi => ?_, g1, g2, g3, fun p hp => ?_, ?_⟩
  · have := of_decide_eq_true (List.all_eq_true.mp h5 i (List.mem_range.mpr hi))
    unfold sy_ρ
    rw [this]
    exact sy_x_e ρ i
  · have h9 := List.all_eq_true.mp h7 p hp
    split at h9
    · rename_i a b ha hb
      have e2 := sy_eqA_e (τ := τ) h h9
      rw [sy_sbA_e hb] at e2
      rw [← e2]
      exact hl _ (px_look_mem ha)
    · cases h9
  · split at h8
    · rename_i e he
      rw [Bool.and_eq_true] at h8
      have a1 := sy_pos_e h hc h8.1
      have a2 := sy_pos_e h hc h8.2
      rw [sy_add_e, sy_sub_e, sy_c_e] at a2
      rw [sy_sb_e he] at a1 a2
      exact ⟨a1, by omega⟩
    · cases h8
end
section
/-! CONTRACTS, BY CUTS AND A MEASURE -/
abbrev sy_Po : Type := sy_G × Option sy_A
/-- a contract: method, what holds at its start, its arguments, what it may write, its depth, its ends -/
abbrev sy_Co : Type := Nat × sy_G × List sy_A × sy_Wr × Nat × List sy_Po
/-- an end of a contract -/
def sy_K (A : List sy_Ce) (C : sy_Co) (w0 : px_W) (ρ0 : Nat → Int) (v : Option Value) (w' : px_W) : Prop := sy_W A w' ∧ sy_fr C.2.2.2.1 w0 w' ∧ ∃ p ∈ C.2.2.2.2.2, ∃ (ρ' : Nat → Int) (τ' : Nat → Int64), (∀ i, i < C.2.1.1.length → ρ' i = ρ0 i) ∧ sy_ok ρ' p.1.1 ∧ sy_cok ρ' p.1.2.2.1 ∧ sy_fok ρ' τ' w' p.1.2.2.2 ∧ v = p.2.map (sy_v ρ' τ')
def sy_Met (cl : List vw_C) (lt : List (List Int32)) (P : List px_M) (A : List sy_Ce) (b : Nat × Nat) (C : sy_Co) : Prop := ∀ (M : px_M), P[C.1]? = some M → ∀ (ρ : Nat → Int) (τ : Nat → Int64) (w : px_W) (d : Nat), sy_ok ρ C.2.1.1 → sy_cok ρ C.2.1.2.2.1 → sy_fok ρ τ w C.2.1.2.2.2 → sy_W A w → C.2.2.2.2.1 ≤ d → ∃ (n : Nat) (v : Option Value) (w' : px_W), px_exec cl lt P n d none M 0 (lv_args 0 (C.2.2.1.map (sy_v ρ τ))) [] w b = some (v, w', b) ∧ sy_K A C w ρ v w'
/-- whoever stands at a cut with a measure below m comes to an end -/
def sy_I (x : sy_X) (A : List sy_Ce) (Wr : sy_Wr) (w0 : px_W) (ρ0 : Nat → Int) (N0 : Nat) (M : px_M) (cuts : List sy_Cut) (m : Int) : Prop := ∀ c ∈ cuts, ∀ (ρ : Nat → Int) (τ : Nat → Int64) (w : px_W) (lc : List (Nat × Value)), (N0 ≤ c.2.1.1.length ∧ ∀ i, i < N0 → ρ i = ρ0 i) → sy_ok ρ c.2.1.1 → sy_cok ρ c.2.1.2.2.1 → sy_fok ρ τ w c.2.1.2.2.2 → sy_W A w → sy_fr Wr w0 w → sy_lvok ρ τ c.2.2.1 lc → 0 ≤ sy_e ρ c.2.2.2 → sy_e ρ c.2.2.2 < m → pf_Fin x.1 x.2.1 x.2.2.1 x.2.2.2.1 x.2.2.2.2.1 x.2.2.2.2.2.1 [] x.2.2.2.2.2.2 M c.1 lc [] w
def sy_cS (j : Nat) (c : sy_Cut) : sy_S := (c.2.1, (j, c.1, c.2.2.1, []), [])
theorem sy_floyd {x : sy_X} {PM : List px_M} {A : List sy_Ce} {Wr : sy_Wr} {w0 : px_W} {ρ0 : Nat → Int} {N0 j : Nat} {M : px_M} {cuts : List sy_Cut} (hM : PM[j]? = some M)
    (hc : ∀ c ∈ cuts, ∀ ρs : Nat → Int, (N0 ≤ c.2.1.1.length ∧ ∀ i, i < N0 → ρs i = ρ0 i) → sy_I x A Wr w0 ρ0 N0 M cuts (sy_e ρs c.2.2.2) → sy_Good x (PM, A, Wr, w0, ρs, c.2.1.1.length) (sy_cS j c)) : ∀ n : Nat, sy_I x A Wr w0 ρ0 N0 M cuts (n : Int) := by
  intro n
  induction n with
  | zero =>
    intro c _ ρ τ w lc _ _ _ _ _ _ _ h1 h2
    omega
  | succ n ih =>
    intro c hcc ρ τ w lc hr h1 h2 h3 h4 h5 h6 h7 h8
    have hI : sy_I x A Wr w0 ρ0 N0 M cuts (sy_e ρ c.2.2.2) := by
      intro c2 hc2 ρ2 τ2 w2 lc2 r2 a1 a2 a3 a4 a5 a6 a7 a8
      exact ih c2 hc2 ρ2 τ2 w2 lc2 r2 a1 a2 a3 a4 a5 a6 a7 (by omega)
    exact hc c hcc ρ hr hI ρ τ w (M, c.1, lc, []) [] x.2.2.2.2.2.2 ⟨⟨⟨Nat.le_refl _, fun _ _ => rfl⟩, h1, h2, h3, h4, h5⟩, ⟨hM, rfl, h6, rfl⟩, trivial⟩ (by simp)
section FL
variable {x : sy_X} {q : sy_Q} {S : sy_S} {M : px_M}
theorem sy_goCut {cuts : List sy_Cut} {ρ0 : Nat → Int} {N0 : Nat} {c : sy_Cut} {σ : List sy_L} {σL : List Nat} {m : sy_L} (hI : sy_I x q.2.1 q.2.2.1 q.2.2.2.1 ρ0 N0 M cuts (sy_e q.2.2.2.2.1 m)) (hN : N0 ≤ q.2.2.2.2.2 ∧ ∀ i, i < N0 → q.2.2.2.2.1 i = ρ0 i) (hmw : sy_wl q.2.2.2.2.2 m = true) (hM : q.1[S.2.1.1]? = some M) (hc : c ∈ cuts) (hfit : sy_fitC N0 S c σ σL m = true) : sy_Good x q S := by
  refine sy_open (fun ρ τ w lc cf d hm hl hf hd => ?_) hM
  obtain ⟨⟨m1, m1'⟩, m2, m3, m4, m5, m6⟩ := hm
  obtain ⟨⟨f1, f2, f3, f4⟩, g1, g2, g3, g4, g5, g6, g7⟩ := sy_fitC_ok hfit m2 m3 m4 hl
  rw [f1] at hf
  cases cf with
  | cons c2 cf => exact hf.elim
  | nil =>
    have em : sy_e ρ m = sy_e q.2.2.2.2.1 m := sy_ext_l m1' hmw
    rw [em] at g7
    have h0 := hI c hc (sy_ρ ρ σ) (sy_τ τ σL) w lc ⟨f4, fun i hi => by rw [g1 i hi, m1' i (by omega)]; exact hN.2 i hi⟩ g2 g3 g4 m5 m6 g5 g6 g7
    rw [f2, f3]
    have hd' : d = x.2.2.2.2.2.2 := by simpa using hd
    rw [hd']
    exact h0
/-- a return ends a contract -/
def sy_fitP (N0 : Nat) (g : sy_G) (v : Option sy_A) (σ : List sy_L) (σL : List Nat) (p : sy_Po) : Bool := (List.range N0).all (fun i => decide (σ[i]? = some (sy_x i))) && (sy_fitG g σ σL p.1 && (match v, p.2 with
  | none, none => true
  | some a, some c => (match sy_sbA σ σL c with
    | some b => sy_eqA g.1 a b
    | none => false)
  | _, _ => false))
theorem sy_goPost {i : Instr} {len : Nat} {v : Option sy_A} {C : sy_Co} {ρ0 : Nat → Int} {σ : List sy_L} {σL : List Nat} {p : sy_Po} (hK : x.2.2.2.2.2.1 = sy_K q.2.1 C q.2.2.2.1 ρ0) (hWr : q.2.2.1 = C.2.2.2.1) (hN : C.2.1.1.length ≤ q.2.2.2.2.2 ∧ ∀ i, i < C.2.1.1.length → q.2.2.2.2.1 i = ρ0 i) (hM : q.1[S.2.1.1]? = some M) (hq : px_look M.2.1 S.2.1.2.1 = some (i, len)) (hv : sy_rt S.1.1 i len M.1.2.2.2.1 S.2.1.2.2.2 = some v) (hfs : S.2.2 = []) (hp : p ∈ C.2.2.2.2.2) (hfit : sy_fitP C.2.1.1.length S.1 v σ σL p = true) : sy_Good x q S := by
  refine sy_goEnd hM hq hv hfs (fun ρ τ w hm => ?_)
  obtain ⟨⟨m1, m1'⟩, m2, m3, m4, m5, m6⟩ := hm
  unfold sy_fitP at hfit
  simp only [Bool.and_eq_true] at hfit
  obtain ⟨h1, h2, h3⟩ := hfit
  obtain ⟨g1, g2, g3⟩ := sy_fitG_ok m2 m3 m4 h2
  rw [hK]
  refine ⟨m5, by rw [← hWr]; exact m6, p, hp, sy_ρ ρ σ, sy_τ τ σL, fun i hi => ?_, g1, g2, g3, ?_⟩
  · have := of_decide_eq_true (List.all_eq_true.mp h1 i (List.mem_range.mpr hi))
    have e : sy_ρ ρ σ i = ρ i := by
      unfold sy_ρ
      rw [this]
      exact sy_x_e ρ i
    rw [e, m1' i (by omega)]
    exact hN.2 i hi
  · split at h3
    · rename_i hp2
      rw [hp2]
      rfl
    · rename_i a c hp2
      rw [hp2]
      split at h3
      · rename_i b hb
        show some (sy_v ρ τ a) = some (sy_v (sy_ρ ρ σ) (sy_τ τ σL) c)
        rw [sy_eqA_e (τ := τ) m2 h3, sy_sbA_e hb]
      · cases h3
    · cases h3
end FL
/-- a contract, out of its cuts: the first is its start -/
theorem sy_met {cl : List vw_C} {lt : List (List Int32)} {P PM : List px_M} {A : List sy_Ce} {b : Nat × Nat} {C : sy_Co} {cuts : List sy_Cut} {m0 : sy_L} (hPM : ∀ (j : Nat) (M : px_M), P[j]? = some M → PM[j]? = some M) (h0 : (0, C.2.1, sy_args 0 C.2.2.1, m0) ∈ cuts) (hm0 : sy_pos C.2.1.1 C.2.1.2.2.1 m0 = true)
    (hc : ∀ c ∈ cuts, ∀ (M : px_M), P[C.1]? = some M → ∀ (d : Nat) (w0 : px_W) (ρ0 ρs : Nat → Int), C.2.2.2.2.1 ≤ d → (C.2.1.1.length ≤ c.2.1.1.length ∧ ∀ i, i < C.2.1.1.length → ρs i = ρ0 i) → sy_I (cl, lt, P, none, b, sy_K A C w0 ρ0, d) A C.2.2.2.1 w0 ρ0 C.2.1.1.length M cuts (sy_e ρs c.2.2.2) → sy_Good (cl, lt, P, none, b, sy_K A C w0 ρ0, d) (PM, A, C.2.2.2.1, w0, ρs, c.2.1.1.length) (sy_cS C.1 c)) : sy_Met cl lt P A b C := by
  intro M hM ρ τ w d h1 h2 h3 h4 h5
  have hfl := sy_floyd (x := (cl, lt, P, none, b, sy_K A C w ρ, d)) (A := A) (Wr := C.2.2.2.1) (w0 := w) (ρ0 := ρ) (N0 := C.2.1.1.length) (cuts := cuts) (hPM _ _ hM) (fun c hcc ρs hr hI => hc c hcc M hM d w ρ ρs h5 hr hI)
  have hpos := sy_pos_e h1 h2 hm0
  have hfin := hfl ((sy_e ρ m0).toNat + 1) _ h0 ρ τ w (lv_args 0 (C.2.2.1.map (sy_v ρ τ))) ⟨Nat.le_refl _, fun _ _ => rfl⟩ h1 h2 h3 h4 (fun _ _ _ => rfl) (sy_args_ok _) hpos (by show sy_e ρ m0 < _; omega)
  exact hfin
end
section
/-! A CALL BY CONTRACT -/
theorem sy_sbs_w {σ : List sy_L} : ∀ (l : List (Nat × Int)) (z : sy_L), sy_sbs σ l = some z → l.all (fun t => decide (t.1 < σ.length)) = true
  | [], _, _ => rfl
  | t :: r, z, h => by
    unfold sy_sbs at h
    split at h
    · rename_i e y he hy
      rw [List.all_cons, Bool.and_eq_true]
      exact ⟨decide_eq_true (List.getElem?_eq_some_iff.mp he).1, sy_sbs_w r y hy⟩
    · cases h
theorem sy_sb_to {ρ ρ' : Nat → Int} {σ : List sy_L} (hag : ∀ i, i < σ.length → ρ' i = sy_ρ ρ σ i) {e z : sy_L} (h : sy_sb σ e = some z) : sy_e ρ z = sy_e ρ' e := by
  rw [sy_sb_e h]
  obtain ⟨y, hy, -⟩ := Option.map_eq_some_iff.mp h
  exact (sy_ext_l hag (e := e) (sy_sbs_w e.2 y hy)).symm
theorem sy_sbA_to {ρ ρ' : Nat → Int} {τ τ' : Nat → Int64} {σ : List sy_L} {σL : List Nat} (hag : ∀ i, i < σ.length → ρ' i = sy_ρ ρ σ i) (hal : ∀ i, i < σL.length → τ' i = sy_τ τ σL i) {a z : sy_A} (h : sy_sbA σ σL a = some z) : sy_v ρ τ z = sy_v ρ' τ' a := by
  match a, h with
  | .inl e, h =>
    obtain ⟨y, hy, rfl⟩ := Option.map_eq_some_iff.mp h
    show Value.int _ = Value.int _
    rw [sy_sb_to hag hy]
  | .inr (.inl k), h => cases h; rfl
  | .inr (.inr s), h =>
    obtain ⟨y, hy, rfl⟩ := Option.map_eq_some_iff.mp h
    show Value.long (τ y) = Value.long (τ' s)
    rw [hal s (List.getElem?_eq_some_iff.mp hy).1]
    unfold sy_τ
    rw [hy]
def sy_eqs (R : sy_T) (σ : List sy_L) (σL : List Nat) : List sy_A → List sy_A → Bool
  | [], [] => true
  | a :: r, p :: s => (match sy_sbA σ σL p with
    | some b => sy_eqA R a b
    | none => false) && sy_eqs R σ σL r s
  | _, _ => false
theorem sy_eqs_ok {ρ : Nat → Int} {τ : Nat → Int64} {R : sy_T} (h : sy_ok ρ R) {σ : List sy_L} {σL : List Nat} : ∀ (as ps : List sy_A), sy_eqs R σ σL as ps = true → as.map (sy_v ρ τ) = ps.map (sy_v (sy_ρ ρ σ) (sy_τ τ σL))
  | [], [], _ => rfl
  | [], _ :: _, h2 => by simp [sy_eqs] at h2
  | _ :: _, [], h2 => by simp [sy_eqs] at h2
  | a :: r, p :: s, h2 => by
    unfold sy_eqs at h2
    rw [Bool.and_eq_true] at h2
    obtain ⟨h3, h4⟩ := h2
    split at h3
    · rename_i b hb
      rw [List.map_cons, List.map_cons, sy_eqs_ok h r s h4, sy_eqA_e (τ := τ) h h3, sy_sbA_e hb]
    · cases h3
def sy_wsub (W1 W2 : sy_Wr) : Bool := W1.all (fun p => W2.any (fun q => decide (q.1 = p.1) && (decide (q.2.1 ≤ p.2.1) && decide (p.2.2 ≤ q.2.2))))
theorem sy_wsub_ok {W1 W2 : sy_Wr} (h : sy_wsub W1 W2 = true) {k i : Nat} (hm : sy_may W2 k i = false) : sy_may W1 k i = false := by
  cases h1 : sy_may W1 k i with
  | false => rfl
  | true =>
    obtain ⟨p, hp, h2⟩ := List.any_eq_true.mp h1
    obtain ⟨q, hq, h3⟩ := List.any_eq_true.mp (List.all_eq_true.mp h p hp)
    simp only [Bool.and_eq_true, decide_eq_true_eq] at h2 h3
    have : sy_may W2 k i = true := List.any_eq_true.mpr ⟨q, hq, by
      simp only [Bool.and_eq_true, decide_eq_true_eq]
      omega⟩
    rw [this] at hm
    cases hm
/-- a fact that a contract does not touch -/
def sy_unt (Wr : sy_Wr) (R : sy_T) (f : sy_Fa) : Bool := Wr.all (fun p => !(p.1 == f.1) || (match sy_b R f.2.1 with
  | some b => decide (b.2 < (p.2.1 : Int)) || decide ((p.2.2 : Int) ≤ b.1)
  | none => false))
theorem sy_unt_ok {Wr : sy_Wr} {R : sy_T} {f : sy_Fa} {ρ : Nat → Int} (h : sy_ok ρ R) (hu : sy_unt Wr R f = true) (h0 : 0 ≤ sy_e ρ f.2.1) : sy_may Wr f.1 (sy_e ρ f.2.1).toNat = false := by
  cases h1 : sy_may Wr f.1 (sy_e ρ f.2.1).toNat with
  | false => rfl
  | true =>
    obtain ⟨p, hp, h2⟩ := List.any_eq_true.mp h1
    have h3 := List.all_eq_true.mp hu p hp
    simp only [Bool.and_eq_true, decide_eq_true_eq] at h2
    rw [h2.1] at h3
    simp only [beq_self_eq_true, Bool.not_true, Bool.false_or] at h3
    split at h3
    · rename_i b hb
      have := sy_b_e h hb
      rw [Bool.or_eq_true, decide_eq_true_eq, decide_eq_true_eq] at h3
      omega
    · cases h3
/-- the state behind a contract's end -/
def sy_σ2 (S : sy_S) (C : sy_Co) (σ : List sy_L) (p : sy_Po) : List sy_L := σ ++ (List.range (p.1.1.length - C.2.1.1.length)).map (fun i => sy_x (S.1.1.length + i))
def sy_σL2 (S : sy_S) (p : sy_Po) : List Nat := (List.range p.1.2.1).map (fun i => S.1.2.1 + i)
def sy_sbF (σ : List sy_L) (σL : List Nat) (f : sy_Fa) : Option sy_Fa := match sy_sb σ f.2.1, sy_sbA σ σL f.2.2 with
  | some a, some b => some (f.1, a, b)
  | _, _ => none
def sy_ag (S : sy_S) (C : sy_Co) (σ : List sy_L) (p : sy_Po) : sy_G := (S.1.1 ++ p.1.1.drop C.2.1.1.length, S.1.2.1 + p.1.2.1, S.1.2.2.1 ++ p.1.2.2.1.filterMap (sy_sb (sy_σ2 S C σ p)), p.1.2.2.2.filterMap (sy_sbF (sy_σ2 S C σ p) (sy_σL2 S p)) ++ S.1.2.2.2.filter (sy_unt C.2.2.2.1 S.1.1))
def sy_aft (S : sy_S) (C : sy_Co) (σ : List sy_L) (rest : List sy_A) (p : sy_Po) : Option sy_S :=
  match p.2 with
  | none => some (sy_at S (sy_ag S C σ p) (S.2.1.2.1 + 3) S.2.1.2.2.1 rest)
  | some a => (sy_sbA (sy_σ2 S C σ p) (sy_σL2 S p) a).map (fun v => sy_at S (sy_ag S C σ p) (S.2.1.2.1 + 3) S.2.1.2.2.1 (v :: rest))
section US
variable {x : sy_X} {q : sy_Q} {S : sy_S} {M M' : px_M}
theorem sy_goMet {i : Instr} {len : Nat} {z : Nat × List sy_A × List sy_A} {C : sy_Co} {σ : List sy_L} {σL : List Nat} (hC : sy_Met x.1 x.2.1 x.2.2.1 q.2.1 x.2.2.2.2.1 C) (hw : sy_wS S = true) (hM : q.1[S.2.1.1]? = some M) (hq : px_look M.2.1 S.2.1.2.1 = some (i, len)) (hz : sy_cl x.1 q.2.1 x.2.2.1 i len M.2.2 S.2.1.2.2.2 = some z) (hj : z.1 = C.1) (hM' : x.2.2.1[z.1]? = some M') (hlen : sy_len z.2.1 ≤ M'.1.2.2.1) (hdep : S.2.2.length + 1 + C.2.2.2.2.1 ≤ x.2.2.2.2.2.2)
    (hfit : sy_fitG S.1 σ σL C.2.1 = true) (hσ : σ.length = C.2.1.1.length) (hσw : σ.all (sy_wl S.1.1.length) = true) (has : sy_eqs S.1.1 σ σL z.2.1 C.2.2.1 = true) (hWr : sy_wsub C.2.2.2.1 q.2.2.1 = true) (hrw : z.2.2.all (sy_wa S.1.1.length S.1.2.1) = true)
    (hG : ∀ p ∈ C.2.2.2.2.2, C.2.1.1.length ≤ p.1.1.length ∧ ∃ S', sy_aft S C σ z.2.2 p = some S' ∧ sy_Good x q S') : sy_Good x q S := by
  refine sy_open (fun ρ τ w lc cf d hm hl hf hd => ?_) hM
  have hcf : S.2.2.length = cf.length := by
    have key : ∀ (fs : List sy_Fr) (cs : List pf_F), sy_frs ρ τ q.1 fs cs → fs.length = cs.length := by
      intro fs
      induction fs with
      | nil =>
        intro cs h
        cases cs with
        | nil => rfl
        | cons => exact h.elim
      | cons f fs ih =>
        intro cs h
        cases cs with
        | nil => exact h.elim
        | cons c cs => rw [List.length_cons, List.length_cons, ih cs h.2]
    exact key _ _ hf
  obtain ⟨⟨m1, m1'⟩, m2, m3, m4, m5, m6⟩ := id hm
  obtain ⟨c0, c3, c6, c4⟩ := sy_cl_ok (ρ := ρ) (τ := τ) (d := d) m5 hz
  obtain ⟨g1, g2, g3⟩ := sy_fitG_ok m2 m3 m4 hfit
  have hargs := sy_eqs_ok (τ := τ) m2 _ _ has
  cases d with
  | zero => omega
  | succ d =>
    obtain ⟨n, v, w', hx, k1, k2, p, hp, ρ', τ', r1, r2, r3, r4, r5⟩ := hC M' (by rw [← hj]; exact hM') (sy_ρ ρ σ) (sy_τ τ σL) w d g1 g2 g3 m5 (by omega)
    obtain ⟨n1, S', hS', hGood⟩ := hG p hp
    have hstep := px_step_4 (cl := x.1) (lt := x.2.1) (P := x.2.2.1) (d := d + 1) (scr := pf_scr x.2.2.2.1 cf) (lv := lc) hq c0 c3 c6 c4
    rw [← hargs] at hx
    refine pf_met hstep hM' (by rw [sy_len_ok]; exact hlen) hx ?_
    -- the new symbols
    let ρS : Nat → Int := fun i => if i < S.1.1.length then ρ i else ρ' (C.2.1.1.length + (i - S.1.1.length))
    let τS : Nat → Int64 := fun i => if i < S.1.2.1 then τ i else τ' (i - S.1.2.1)
    have hag : ∀ i, i < S.1.1.length → ρS i = ρ i := fun i hi => if_pos hi
    have hal : ∀ i, i < S.1.2.1 → τS i = τ i := fun i hi => if_pos hi
    have hlen2 : (sy_σ2 S C σ p).length = p.1.1.length := by
      unfold sy_σ2
      rw [List.length_append, List.length_map, List.length_range, hσ]
      omega
    have hal2 : ∀ i, i < (sy_σL2 S p).length → τ' i = sy_τ τS (sy_σL2 S p) i := by
      intro i hi
      unfold sy_σL2 at hi
      rw [List.length_map, List.length_range] at hi
      unfold sy_τ sy_σL2
      rw [List.getElem?_map, List.getElem?_range hi]
      show τ' i = if S.1.2.1 + i < S.1.2.1 then _ else τ' (S.1.2.1 + i - S.1.2.1)
      rw [if_neg (by omega), Nat.add_sub_cancel_left]
    have hag2 : ∀ i, i < (sy_σ2 S C σ p).length → ρ' i = sy_ρ ρS (sy_σ2 S C σ p) i := by
      intro i hi
      rw [hlen2] at hi
      unfold sy_ρ sy_σ2
      by_cases hi0 : i < C.2.1.1.length
      · rw [List.getElem?_append_left (by omega), r1 i hi0]
        unfold sy_ρ
        cases hs : σ[i]? with
        | none => rfl
        | some f =>
          show sy_e ρ f = sy_e ρS f
          exact (sy_ext_l hag (List.all_eq_true.mp hσw f (List.mem_of_getElem? hs))).symm
      · rw [List.getElem?_append_right (by omega), hσ, List.getElem?_map, List.getElem?_range (by omega)]
        show ρ' i = sy_e ρS (sy_x (S.1.1.length + (i - C.2.1.1.length)))
        rw [sy_x_e]
        show ρ' i = if S.1.1.length + (i - C.2.1.1.length) < S.1.1.length then _ else ρ' (C.2.1.1.length + (S.1.1.length + (i - C.2.1.1.length) - S.1.1.length))
        rw [if_neg (by omega), show C.2.1.1.length + (S.1.1.length + (i - C.2.1.1.length) - S.1.1.length) = i by omega]
    unfold sy_wS sy_wg at hw
    simp only [Bool.and_eq_true] at hw
    obtain ⟨⟨hw1, hw2⟩, hw3, hw4⟩ := hw
    have hmem : sy_mem q (sy_ag S C σ p) ρS τS w' := by
      refine ⟨⟨?_, fun i hi => ?_⟩, fun i pr hpr => ?_, fun e he => ?_, fun f hf2 => ?_, k1, fun k i hk => (k2 k i (sy_wsub_ok hWr hk)).trans (m6 k i hk)⟩
      · show _ ≤ (S.1.1 ++ p.1.1.drop C.2.1.1.length).length
        rw [List.length_append]
        omega
      · rw [hag i (by omega)]
        exact m1' i hi
      · have hp' : (S.1.1 ++ p.1.1.drop C.2.1.1.length)[i]? = some pr := hpr
        by_cases hi : i < S.1.1.length
        · rw [List.getElem?_append_left hi] at hp'
          rw [hag i hi]
          exact m2 i pr hp'
        · rw [List.getElem?_append_right (by omega), List.getElem?_drop] at hp'
          have e : ρS i = ρ' (C.2.1.1.length + (i - S.1.1.length)) := if_neg hi
          rw [e]
          exact r2 _ pr hp'
      · rcases List.mem_append.mp he with h1 | h1
        · rw [sy_ext_l hag (List.all_eq_true.mp hw1 e h1)]
          exact m3 e h1
        · obtain ⟨c, hc, hce⟩ := List.mem_filterMap.mp h1
          rw [sy_sb_to hag2 hce]
          exact r3 c hc
      · rcases List.mem_append.mp hf2 with h1 | h1
        · obtain ⟨f0, hf0, hfe⟩ := List.mem_filterMap.mp h1
          unfold sy_sbF at hfe
          split at hfe
          · rename_i a b ha hb
            cases hfe
            show 0 ≤ sy_e ρS a ∧ sy_get w' f0.1 (sy_e ρS a).toNat = some (sy_v ρS τS b)
            rw [sy_sb_to hag2 ha, sy_sbA_to hag2 hal2 hb]
            exact r4 f0 hf0
          · cases hfe
        · obtain ⟨h2, hu⟩ := List.mem_filter.mp h1
          have hf3 := List.all_eq_true.mp hw2 f h2
          rw [Bool.and_eq_true] at hf3
          have h4 := m4 f h2
          rw [sy_ext_l hag hf3.1, sy_ext_a hag hal hf3.2, k2 f.1 _ (sy_unt_ok m2 hu h4.1)]
          exact h4
    have hlS : sy_lvok ρS τS S.2.1.2.2.1 lc := by
      unfold sy_wf at hw3
      simp only [Bool.and_eq_true, List.all_eq_true] at hw3
      intro y hy
      rw [sy_ext_a hag hal (hw3.1 y hy)]
      exact hl y hy
    have hfS := sy_ext_fs hag hal hw4 hf
    have hrest : z.2.2.map (sy_v ρ τ) = z.2.2.map (sy_v ρS τS) := List.map_congr_left (fun a ha => (sy_ext_a hag hal (List.all_eq_true.mp hrw a ha)).symm)
    unfold sy_aft at hS'
    rw [r5]
    show pf_Fin _ _ _ _ _ _ cf (d + 1) M (S.2.1.2.1 + 3) lc ((p.2.map (sy_v ρ' τ')).toList ++ z.2.2.map (sy_v ρ τ)) w'
    rw [hrest]
    split at hS'
    · rename_i hp2
      cases hS'
      rw [hp2]
      exact sy_use hGood hM hmem hlS hfS hd
    · rename_i a hp2
      obtain ⟨b, hb, he⟩ := Option.map_eq_some_iff.mp hS'
      cases he
      rw [hp2]
      have hv : sy_v ρS τS b = sy_v ρ' τ' a := sy_sbA_to hag2 hal2 hb
      have h9 := sy_use hGood hM hmem hlS hfS hd
      rw [List.map_cons, hv] at h9
      exact h9
end US
end
section
/-! THE WAYS OUT OF A STATE, BY PROGRAM -/
def sy_S1 (x : sy_X) (q : sy_Q) (S : sy_S) (l : List sy_S) : Prop := (∀ S' ∈ l, sy_Good x q S') → sy_Good x q S
def sy_opt (S : sy_S) (g : Option sy_G) (pc : Nat) (r : List sy_A) : List sy_S := match g with
  | some g' => [sy_at S g' pc S.2.1.2.2.1 r]
  | none => []
theorem sy_opt_mem {S : sy_S} {g : Option sy_G} {pc : Nat} {r : List sy_A} {g' : sy_G} (h : g = some g') : sy_at S g' pc S.2.1.2.2.1 r ∈ sy_opt S g pc r := by
  subst h
  exact List.mem_cons_self
theorem sy_or_some {α : Type} {a b : Option α} {z : α} (h : px_or a b = some z) : a = some z ∨ b = some z := by
  unfold px_or at h
  split at h
  · exact .inl h
  · exact .inr h
section SU
variable {x : sy_X} {q : sy_Q} {S : sy_S} {M : px_M} {i : Instr} {len : Nat} {l : List sy_S}
def sy_u1 (M : px_M) (i : Instr) (len : Nat) (S : sy_S) : Option (List sy_S) := (sy_1 i len S.2.1.2.1 M.1.2.2.1 S.2.1.2.2.1 S.2.1.2.2.2).map (fun z => [sy_at S S.1 z.1 z.2.1 z.2.2])
theorem sy_u1_ok (hM : q.1[S.2.1.1]? = some M) (hq : px_look M.2.1 S.2.1.2.1 = some (i, len)) (h : sy_u1 M i len S = some l) : sy_S1 x q S l := by
  obtain ⟨z, hz, rfl⟩ := Option.map_eq_some_iff.mp h
  exact fun hG => sy_go1 hM hq hz (hG _ List.mem_cons_self)
def sy_uK (lt : List (List Int32)) (A : List sy_Ce) (M : px_M) (i : Instr) (len : Nat) (S : sy_S) : Option (List sy_S) := (sy_k lt A i len M.2.2 S.2.1.2.2.2).map (fun z => [sy_at S S.1 (S.2.1.2.1 + len) S.2.1.2.2.1 z])
theorem sy_uK_ok (hM : q.1[S.2.1.1]? = some M) (hq : px_look M.2.1 S.2.1.2.1 = some (i, len)) (h : sy_uK x.2.1 q.2.1 M i len S = some l) : sy_S1 x q S l := by
  obtain ⟨z, hz, rfl⟩ := Option.map_eq_some_iff.mp h
  exact fun hG => sy_goK hM hq hz (hG _ List.mem_cons_self)
/-- branches -/
def sy_uB (i : Instr) (len : Nat) (S : sy_S) : Option (List sy_S) := match i, S.2.1.2.2.2 with
  | .ifCond k off, .inl e :: r => if len = 3 then (px_tgt S.2.1.2.1 off).map (fun t => sy_opt S (sy_two S.1 k e (sy_c 0)).1 t r ++ sy_opt S (sy_two S.1 k e (sy_c 0)).2 (S.2.1.2.1 + 3) r) else none
  | .if_icmp k off, .inl b :: .inl a :: r => if len = 3 then (px_tgt S.2.1.2.1 off).map (fun t => sy_opt S (sy_two S.1 k a b).1 t r ++ sy_opt S (sy_two S.1 k a b).2 (S.2.1.2.1 + 3) r) else none
  | .tableswitch dflt lo hi offs, .inl e :: r => (match px_tgt S.2.1.2.1 dflt, sy_b S.1.1 e, sy_tab S.1 e lo S.2.1.2.1 offs.toList 0 with
    | some t, some b, some l => if sy_fit b = true ∧ offs.size = (hi - lo + 1).toNat then some (l.map (fun z => sy_at S z.1 z.2 S.2.1.2.2.1 r) ++ (sy_opt S (sy_asm S.1 (sy_add (sy_sub (sy_c lo) e) (sy_c (-1)))) t r ++ sy_opt S (sy_asm S.1 (sy_add (sy_sub e (sy_c hi)) (sy_c (-1)))) t r)) else none
    | _, _, _ => none)
  | _, _ => none
theorem sy_uB_ok (hM : q.1[S.2.1.1]? = some M) (hq : px_look M.2.1 S.2.1.2.1 = some (i, len)) (h : sy_uB i len S = some l) : sy_S1 x q S l := by
  intro hG
  unfold sy_uB at h
  split at h
  · rename_i k off e r hst
    split at h
    · rename_i h3
      subst h3
      obtain ⟨t, ht, rfl⟩ := Option.map_eq_some_iff.mp h
      exact sy_goIf hM hq hst ht (fun g' hg => hG _ (List.mem_append_left _ (sy_opt_mem hg))) (fun g' hg => hG _ (List.mem_append_right _ (sy_opt_mem hg)))
    · cases h
  · rename_i k off b a r hst
    split at h
    · rename_i h3
      subst h3
      obtain ⟨t, ht, rfl⟩ := Option.map_eq_some_iff.mp h
      exact sy_goCmp hM hq hst ht (fun g' hg => hG _ (List.mem_append_left _ (sy_opt_mem hg))) (fun g' hg => hG _ (List.mem_append_right _ (sy_opt_mem hg)))
    · cases h
  · rename_i dflt lo hi offs e r hst
    split at h
    · rename_i t b l0 ht hb hl
      split at h
      · rename_i hc
        cases h
        exact sy_goTab hM hq hst ht hb hc.1 hc.2 hl (fun z hz => hG _ (List.mem_append_left _ (List.mem_map.mpr ⟨z, hz, rfl⟩))) (fun g' hg => hG _ (List.mem_append_right _ (List.mem_append_left _ (sy_opt_mem hg)))) (fun g' hg => hG _ (List.mem_append_right _ (List.mem_append_right _ (sy_opt_mem hg))))
      · cases h
    · cases h
  · cases h
/-- arithmetic that is no form -/
def sy_uA (i : Instr) (len : Nat) (S : sy_S) : Option (List sy_S) := if len = 1 ∧ sy_wS S = true then px_or (match S.2.1.2.2.2 with
    | .inl b :: .inl a :: r => if px_so1 i = 1 then (sy_bn S.1.1 i a b).map (fun rg => [sy_at S (sy_new S.1 rg) (S.2.1.2.1 + 1) S.2.1.2.2.1 (.inl (sy_x S.1.1.length) :: r)]) else none
    | _ => none) (px_or (match S.2.1.2.2.2 with
    | a :: r => (sy_u i a).map (fun rg => [sy_at S (sy_new S.1 rg) (S.2.1.2.1 + 1) S.2.1.2.2.1 (.inl (sy_x S.1.1.length) :: r)])
    | _ => none) ((sy_ul i S.2.1.2.2.2).map (fun z => [sy_at S (S.1.1, S.1.2.1 + 1, S.1.2.2) (S.2.1.2.1 + 1) S.2.1.2.2.1 (.inr (.inr S.1.2.1) :: z.2)]))) else none
theorem sy_uA_ok (hM : q.1[S.2.1.1]? = some M) (hq : px_look M.2.1 S.2.1.2.1 = some (i, len)) (h : sy_uA i len S = some l) : sy_S1 x q S l := by
  intro hG
  unfold sy_uA at h
  split at h
  · rename_i hc
    obtain ⟨h1, hw⟩ := hc
    subst h1
    rcases sy_or_some h with h | h
    · split at h
      · rename_i b a r hst
        split at h
        · rename_i h1
          obtain ⟨rg, hr, rfl⟩ := Option.map_eq_some_iff.mp h
          exact sy_goBin hw hM hq h1 hst hr (hG _ List.mem_cons_self)
        · cases h
      · cases h
    · rcases sy_or_some h with h | h
      · split at h
        · rename_i a r hst
          obtain ⟨rg, hr, rfl⟩ := Option.map_eq_some_iff.mp h
          exact sy_goU hw hM hq hst hr (hG _ List.mem_cons_self)
        · cases h
      · obtain ⟨z, hz, rfl⟩ := Option.map_eq_some_iff.mp h
        exact sy_goUL hw hM hq hz (hG _ List.mem_cons_self)
  · cases h
/-- a known value, under another form of its place -/
def sy_addF (S : sy_S) (f : sy_Fa) : sy_S := ((S.1.1, S.1.2.1, S.1.2.2.1, f :: S.1.2.2.2), S.2)
theorem sy_goAddF {f : sy_Fa} {ix : sy_L} (hf : f ∈ S.1.2.2.2) (he : sy_eq S.1.1 f.2.1 ix = true) (hG : sy_Good x q (sy_addF S (f.1, sy_nm S.1.1 ix, f.2.2))) : sy_Good x q S := by
  intro ρ τ w c cf d hR hd
  obtain ⟨⟨m1, m2, m3, m4, m5⟩, h2⟩ := hR
  refine hG ρ τ w c cf d ⟨⟨m1, m2, m3, fun f' hf' => ?_, m5⟩, h2⟩ hd
  rcases List.mem_cons.mp hf' with rfl | h
  · have := m4 f hf
    show 0 ≤ sy_e ρ (sy_nm S.1.1 ix) ∧ sy_get w f.1 (sy_e ρ (sy_nm S.1.1 ix)).toNat = some (sy_v ρ τ f.2.2)
    rw [sy_nm_e m2, ← sy_eq_e m2 he]
    exact this
  · exact m4 f' h
def sy_uR (A : List sy_Ce) (M : px_M) (i : Instr) (len : Nat) (S : sy_S) : Option (List sy_S) := match i, S.2.1.2.2.2 with
  | .iaload, .inl ix :: .inr (.inl a) :: r => if len = 1 ∧ 64 ≤ a ∧ sy_wS S = true then (match A[a - 64]? with
    | some (.inl (n, sg)) => if n ≤ 2147483647 then (match S.1.2.2.2.find? (fun f => f.1 == a - 64 && sy_eq S.1.1 f.2.1 ix) with
      | some (k, fx, .inl e) => some [sy_at (sy_addF S (k, sy_nm S.1.1 ix, .inl e)) (sy_addF S (k, sy_nm S.1.1 ix, .inl e)).1 (S.2.1.2.1 + 1) S.2.1.2.2.1 (.inl e :: r)]
      | _ => (match sy_b S.1.1 ix, sy_rd S.1.1 sg ix with
        | some b, some rg => if 0 ≤ b.1 ∧ b.2 < (n : Int) ∧ sy_wl S.1.1.length (sy_nm S.1.1 ix) = true then some [sy_at S (S.1.1 ++ [rg], S.1.2.1, S.1.2.2.1, (a - 64, sy_nm S.1.1 ix, .inl (sy_x S.1.1.length)) :: S.1.2.2.2) (S.2.1.2.1 + 1) S.2.1.2.2.1 (.inl (sy_x S.1.1.length) :: r)] else none
        | _, _ => none)) else none
    | _ => none) else none
  | .getfield idx, .inr (.inl a) :: r => if len = 3 ∧ 64 ≤ a ∧ sy_wS S = true then (match A[a - 64]?, px_look M.2.2.1 idx with
    | some (.inr (.inr (ci, sl))), some (cj, s0) => if ci = cj then (match S.1.2.2.2.find? (fun f => decide (f.1 = a - 64) && decide (f.2.1 = sy_c s0)) with
      | some f => some [sy_at S S.1 (S.2.1.2.1 + 3) S.2.1.2.2.1 (f.2.2 :: r)]
      | none => (match sl[s0]? with
        | some (.inl rg) => some [sy_at S (S.1.1 ++ [rg], S.1.2.1, S.1.2.2.1, (a - 64, sy_c s0, .inl (sy_x S.1.1.length)) :: S.1.2.2.2) (S.2.1.2.1 + 3) S.2.1.2.2.1 (.inl (sy_x S.1.1.length) :: r)]
        | some (.inr b) => some [sy_at S S.1 (S.2.1.2.1 + 3) S.2.1.2.2.1 (.inr (.inl b) :: r)]
        | none => none)) else none
    | _, _ => none) else none
  | _, _ => none
theorem sy_uR_ok (hM : q.1[S.2.1.1]? = some M) (hq : px_look M.2.1 S.2.1.2.1 = some (i, len)) (h : sy_uR q.2.1 M i len S = some l) : sy_S1 x q S l := by
  intro hG
  unfold sy_uR at h
  split at h
  · rename_i ix a r hst
    split at h
    · rename_i hc
      obtain ⟨h1, ha, hw⟩ := hc
      subst h1
      split at h
      · rename_i n sg hA
        split at h
        · rename_i hn
          split at h
          · rename_i k fx e hfind
            cases h
            have hm := List.mem_of_find?_eq_some hfind
            have hp := List.find?_some hfind
            rw [Bool.and_eq_true] at hp
            have hk : k = a - 64 := eq_of_beq hp.1
            refine sy_goAddF hm hp.2 ?_
            have hG0 := hG _ List.mem_cons_self
            refine sy_goIaldK (S := sy_addF S (k, sy_nm S.1.1 ix, .inl e)) hM hq hst ha hA hn ?_ hG0
            rw [← hk]
            exact List.mem_cons_self
          · split at h
            · rename_i b rg hb hr
              split at h
              · rename_i hc
                cases h
                exact sy_goIald hw hM hq hst ha hA hn hb hc.1 hc.2.1 hr (hG _ List.mem_cons_self) hc.2.2
              · cases h
            · cases h
        · cases h
      · cases h
    · cases h
  · rename_i idx a r hst
    split at h
    · rename_i hc
      obtain ⟨h1, ha, hw⟩ := hc
      subst h1
      split at h
      · rename_i ci sl cj s0 hA hL
        split at h
        · rename_i hcc
          subst hcc
          split at h
          · rename_i f hfind
            cases h
            have hm := List.mem_of_find?_eq_some hfind
            have hp := List.find?_some hfind
            simp only [Bool.and_eq_true, decide_eq_true_eq] at hp
            refine sy_goGetK hM hq hst ha hA hL (.inl ?_) (hG _ List.mem_cons_self)
            rw [← hp.1, ← hp.2]
            exact hm
          · split at h
            · rename_i rg hr
              cases h
              exact sy_goGetI hw hM hq hst ha hA hL hr (hG _ List.mem_cons_self)
            · rename_i b hr
              cases h
              exact sy_goGetK hM hq hst ha hA hL (.inr ⟨b, rfl, hr⟩) (hG _ List.mem_cons_self)
            · cases h
        · cases h
      · cases h
    · cases h
  · cases h
/-- writes -/
def sy_same (A : List sy_Ce) (R : sy_T) (F : List sy_Fa) (sg : sy_Sg) (ix e : sy_L) : Bool := F.any (fun f => decide (f.2.2 = .inl e) && (sy_eq R f.2.1 ix && (match A[f.1]? with
  | some (.inl z) => decide (z.2 = sg)
  | _ => false)))
theorem sy_same_ok {sg : sy_Sg} {ix e : sy_L} (h : sy_same q.2.1 S.1.1 S.1.2.2.2 sg ix e = true) (ρ : Nat → Int) (τ : Nat → Int64) (w : px_W) (hm : sy_mem q S.1 ρ τ w) : sy_in (sy_seg sg (sy_e ρ ix).toNat) (Int32.ofInt (sy_e ρ e)) := by
  obtain ⟨f, hf, h2⟩ := List.any_eq_true.mp h
  simp only [Bool.and_eq_true, decide_eq_true_eq] at h2
  obtain ⟨h3, h4, h5⟩ := h2
  obtain ⟨m1, m2, m3, m4, m5, m6⟩ := hm
  split at h5
  · rename_i z hz
    obtain ⟨n, sg2⟩ := z
    have h6 : sg2 = sg := of_decide_eq_true h5
    subst h6
    obtain ⟨l, l1, l2, l3⟩ := sy_cell_i m5 hz
    have h7 := (m4 f hf).2
    rw [h3, sy_getI l1, sy_eq_e m2 h4] at h7
    obtain ⟨v, hv, he⟩ := Option.map_eq_some_iff.mp h7
    have h8 : v = Int32.ofInt (sy_e ρ e) := by
      injection he
    rw [← h8]
    exact l3 _ v hv
  · cases h5
def sy_uW (cl : List vw_C) (A : List sy_Ce) (Wr : sy_Wr) (M : px_M) (i : Instr) (len : Nat) (S : sy_S) : Option (List sy_S) := match i, S.2.1.2.2.2 with
  | .iastore, .inl e :: .inl ix :: .inr (.inl a) :: r => if len = 1 ∧ 64 ≤ a then (match A[a - 64]?, sy_b S.1.1 ix with
    | some (.inl (n, sg)), some b => if n ≤ 2147483647 ∧ 0 ≤ b.1 ∧ b.2 < (n : Int) ∧ (sy_wr S.1.1 sg ix (sy_vb S.1.1 e) || sy_same A S.1.1 S.1.2.2.2 sg ix e) = true ∧ sy_mayI Wr (a - 64) b = true then some [sy_at S (S.1.1, S.1.2.1, S.1.2.2.1, (a - 64, sy_nm S.1.1 ix, .inl e) :: sy_drop S.1.1 (a - 64) ix S.1.2.2.2) (S.2.1.2.1 + 1) S.2.1.2.2.1 r] else none
    | _, _ => none) else none
  | .putfield idx, .inl e :: .inr (.inl a) :: r => if len = 3 ∧ 64 ≤ a then (match A[a - 64]?, px_look M.2.2.1 idx with
    | some (.inr (.inr (ci, sl))), some (cj, s0) => if ci = cj then (match cl[ci]?, sl[s0]? with
      | some k, some (.inl rg) => if sy_ft (px_ty k.2.1 s0) (sy_vb S.1.1 e) = true ∧ (k.2.1 s0).2.2.2 = false ∧ rg.1 ≤ (sy_vb S.1.1 e).1 ∧ (sy_vb S.1.1 e).2 ≤ rg.2 ∧ sy_may Wr (a - 64) s0 = true then some [sy_at S (S.1.1, S.1.2.1, S.1.2.2.1, (a - 64, sy_c s0, .inl e) :: sy_drop S.1.1 (a - 64) (sy_c s0) S.1.2.2.2) (S.2.1.2.1 + 3) S.2.1.2.2.1 r] else none
      | _, _ => none) else none
    | _, _ => none) else none
  | _, _ => none
theorem sy_uW_ok (hM : q.1[S.2.1.1]? = some M) (hq : px_look M.2.1 S.2.1.2.1 = some (i, len)) (h : sy_uW x.1 q.2.1 q.2.2.1 M i len S = some l) : sy_S1 x q S l := by
  intro hG
  unfold sy_uW at h
  split at h
  · rename_i e ix a r hst
    split at h
    · rename_i hc
      obtain ⟨h1, ha⟩ := hc
      subst h1
      split at h
      · rename_i n sg b hA hb
        split at h
        · rename_i hc
          cases h
          refine sy_goIast hM hq hst ha hA hc.1 hb hc.2.1 hc.2.2.1 (fun ρ τ w hm => ?_) hc.2.2.2.2 (hG _ List.mem_cons_self)
          rcases Bool.or_eq_true _ _ ▸ hc.2.2.2.1 with h1 | h1
          · exact sy_wr_ok hm.2.1 h1 (sy_vb_ok hm.2.1 e)
          · exact sy_same_ok h1 ρ τ w hm
        · cases h
      · cases h
    · cases h
  · rename_i idx e a r hst
    split at h
    · rename_i hc
      obtain ⟨h1, ha⟩ := hc
      subst h1
      split at h
      · rename_i ci sl cj s0 hA hL
        split at h
        · rename_i hcc
          subst hcc
          split at h
          · rename_i k rg hk hr
            split at h
            · rename_i hc
              cases h
              exact sy_goPut hM hq hst ha hA hL hk hc.1 hc.2.1 hr hc.2.2.1 hc.2.2.2.1 hc.2.2.2.2 (hG _ List.mem_cons_self)
            · cases h
          · cases h
        · cases h
      · cases h
    · cases h
  · cases h
/-- returns to a caller -/
def sy_uV (M : px_M) (i : Instr) (len : Nat) (S : sy_S) : Option (List sy_S) := match S.2.2 with
  | f :: fs => (sy_rt S.1.1 i len M.1.2.2.2.1 S.2.1.2.2.2).map (fun v => [(S.1, (f.1, f.2.1, f.2.2.1, v.toList ++ f.2.2.2), fs)])
  | [] => none
theorem sy_uV_ok (hM : q.1[S.2.1.1]? = some M) (hq : px_look M.2.1 S.2.1.2.1 = some (i, len)) (h : sy_uV M i len S = some l) : sy_S1 x q S l := by
  intro hG
  unfold sy_uV at h
  split at h
  · rename_i f fs hfs
    obtain ⟨v, hv, rfl⟩ := Option.map_eq_some_iff.mp h
    exact sy_goBack hM hq hv hfs (hG _ List.mem_cons_self)
  · cases h
/-- calls in place -/
def sy_uC (cl : List vw_C) (P : List px_M) (A : List sy_Ce) (D : Nat) (M : px_M) (i : Instr) (len : Nat) (S : sy_S) : Option (List sy_S) := (sy_cl cl A P i len M.2.2 S.2.1.2.2.2).bind (fun z => (P[z.1]?).bind (fun M' => if sy_len z.2.1 ≤ M'.1.2.2.1 ∧ S.2.2.length + 1 ≤ D then some [(S.1, (z.1, 0, sy_args 0 z.2.1, []), (S.2.1.1, S.2.1.2.1 + 3, S.2.1.2.2.1, z.2.2) :: S.2.2)] else none))
theorem sy_uC_ok {D : Nat} (hD : D ≤ x.2.2.2.2.2.2) (hP : q.1 = x.2.2.1) (hM : q.1[S.2.1.1]? = some M) (hq : px_look M.2.1 S.2.1.2.1 = some (i, len)) (h : sy_uC x.1 x.2.2.1 q.2.1 D M i len S = some l) : sy_S1 x q S l := by
  intro hG
  obtain ⟨z, hz, h1⟩ := Option.bind_eq_some_iff.mp h
  obtain ⟨M', hM', h2⟩ := Option.bind_eq_some_iff.mp h1
  split at h2
  · rename_i hc
    cases h2
    exact sy_goCall hM hq hz hM' (by rw [hP]; exact hM') hc.1 (by omega) (hG _ List.mem_cons_self)
  · cases h2
end SU
end
section
/-! GREATEST, LEAST, AMOUNT: by cases -/
theorem sy_frs_len {ρ : Nat → Int} {τ : Nat → Int64} {PM : List px_M} : ∀ (fs : List sy_Fr) (cs : List pf_F), sy_frs ρ τ PM fs cs → fs.length = cs.length
  | [], [], _ => rfl
  | [], _ :: _, h => h.elim
  | _ :: _, [], h => h.elim
  | f :: fs, c :: cs, h => by rw [List.length_cons, List.length_cons, sy_frs_len fs cs h.2]
section XM
variable {x : sy_X} {q : sy_Q} {S : sy_S} {M : px_M} {i : Instr} {len : Nat} {l : List sy_S}
theorem sy_goMx {k : Nat} {c : Nat × Nat} {a b u v : sy_L} {r : List sy_A} (hM : q.1[S.2.1.1]? = some M) (hq : px_look M.2.1 S.2.1.2.1 = some (.invokestatic k, 3)) (hst : S.2.1.2.2.2 = .inl b :: .inl a :: r) (hL : px_look M.2.2.2.1 k = some c) (hc : c.1 = 8 ∧ u = a ∧ v = b ∨ c.1 = 9 ∧ u = b ∧ v = a) (hsum : (r.map sy_cat).sum ≤ 8) (hdep : S.2.2.length + 1 ≤ x.2.2.2.2.2.2)
    (hT : ∀ g', (sy_two S.1 .lt u v).1 = some g' → sy_Good x q (sy_at S g' (S.2.1.2.1 + 3) S.2.1.2.2.1 (.inl b :: r))) (hF : ∀ g', (sy_two S.1 .lt u v).2 = some g' → sy_Good x q (sy_at S g' (S.2.1.2.1 + 3) S.2.1.2.2.1 (.inl a :: r))) : sy_Good x q S := by
  refine sy_open (fun ρ τ w lc cf d hm hl hf hd => ?_) hM
  have hcf := sy_frs_len _ _ hf
  have hd1 : 1 ≤ d := by omega
  rw [hst]
  have h2 := sy_two_ok hm .lt u v
  have h3 : px_s3 (.invokestatic k) 3 d M.2.2 ((.inl b :: .inl a :: r : List sy_A).map (sy_v ρ τ)) w = none := px_s3_no2 hL (by rcases hc with h | h <;> omega)
  have hs : px_s6 (.invokestatic k) 3 d M.2.2 ((.inl b :: .inl a :: r : List sy_A).map (sy_v ρ τ)) = some ((if px_cnd .lt (Int32.ofInt (sy_e ρ u)) (Int32.ofInt (sy_e ρ v)) = true then Value.int (Int32.ofInt (sy_e ρ b)) else Value.int (Int32.ofInt (sy_e ρ a))) :: r.map (sy_v ρ τ)) := by
    show (if 3 = 3 ∧ 1 ≤ d then (px_look M.2.2.2.1 k).bind _ else none) = _
    rw [if_pos ⟨rfl, hd1⟩, hL]
    show (if c.1 = 10 then _ else (if ((r.map (sy_v ρ τ)).map (fun v => v.category)).sum ≤ 8 then (if c.1 = 8 then some (Value.int (if Int32.ofInt (sy_e ρ a) < Int32.ofInt (sy_e ρ b) then Int32.ofInt (sy_e ρ b) else Int32.ofInt (sy_e ρ a)) :: r.map (sy_v ρ τ)) else if c.1 = 9 then some (Value.int (if Int32.ofInt (sy_e ρ b) < Int32.ofInt (sy_e ρ a) then Int32.ofInt (sy_e ρ b) else Int32.ofInt (sy_e ρ a)) :: r.map (sy_v ρ τ)) else none) else none)) = _
    rw [if_neg (by rcases hc with h | h <;> omega), if_pos (by rw [sy_sum_v]; exact hsum)]
    rcases hc with ⟨h8, rfl, rfl⟩ | ⟨h9, rfl, rfl⟩
    · rw [if_pos h8]
      by_cases hlt : Int32.ofInt (sy_e ρ u) < Int32.ofInt (sy_e ρ v)
      · rw [if_pos hlt, if_pos (show px_cnd .lt _ _ = true from decide_eq_true hlt)]
      · rw [if_neg hlt, if_neg (show ¬ px_cnd .lt _ _ = true from fun h => hlt (of_decide_eq_true h))]
    · rw [if_neg (by omega), if_pos h9]
      by_cases hlt : Int32.ofInt (sy_e ρ u) < Int32.ofInt (sy_e ρ v)
      · rw [if_pos hlt, if_pos (show px_cnd .lt _ _ = true from decide_eq_true hlt)]
      · rw [if_neg hlt, if_neg (show ¬ px_cnd .lt _ _ = true from fun h => hlt (of_decide_eq_true h))]
  by_cases hlt : px_cnd .lt (Int32.ofInt (sy_e ρ u)) (Int32.ofInt (sy_e ρ v)) = true
  · rw [if_pos hlt] at hs
    obtain ⟨g', h4, h5⟩ := h2.1 hlt
    exact pf_next (px_step_6 hq (Nat.le_refl 2) h3 hs) (sy_use (hT g' h4) hM h5 hl hf hd)
  · rw [if_neg hlt] at hs
    obtain ⟨g', h4, h5⟩ := h2.2 hlt
    exact pf_next (px_step_6 hq (Nat.le_refl 2) h3 hs) (sy_use (hF g' h4) hM h5 hl hf hd)
theorem sy_goAb {k : Nat} {c : Nat × Nat} {a : sy_L} {r : List sy_A} (hM : q.1[S.2.1.1]? = some M) (hq : px_look M.2.1 S.2.1.2.1 = some (.invokestatic k, 3)) (hst : S.2.1.2.2.2 = .inl a :: r) (hL : px_look M.2.2.2.1 k = some c) (hc : c.1 = 10) (hsum : (r.map sy_cat).sum ≤ 8) (hdep : S.2.2.length + 1 ≤ x.2.2.2.2.2.2)
    (hT : ∀ g', (sy_two S.1 .ge a (sy_c 0)).1 = some g' → sy_Good x q (sy_at S g' (S.2.1.2.1 + 3) S.2.1.2.2.1 (.inl a :: r))) (hF : ∀ g', (sy_two S.1 .ge a (sy_c 0)).2 = some g' → sy_Good x q (sy_at S g' (S.2.1.2.1 + 3) S.2.1.2.2.1 (.inl (sy_sub (sy_c 0) a) :: r))) : sy_Good x q S := by
  refine sy_open (fun ρ τ w lc cf d hm hl hf hd => ?_) hM
  have hcf := sy_frs_len _ _ hf
  have hd1 : 1 ≤ d := by omega
  rw [hst]
  have h2 := sy_two_ok hm .ge a (sy_c 0)
  rw [sy_zero] at h2
  have h3 : px_s3 (.invokestatic k) 3 d M.2.2 ((.inl a :: r : List sy_A).map (sy_v ρ τ)) w = none := px_s3_no2 hL (by omega)
  have hneg : (0 : Int32) - Int32.ofInt (sy_e ρ a) = Int32.ofInt (sy_e ρ (sy_sub (sy_c 0) a)) := by
    rw [sy_sub_e, Int32.ofInt_sub, sy_c_e]
    rfl
  have hs : px_s6 (.invokestatic k) 3 d M.2.2 ((.inl a :: r : List sy_A).map (sy_v ρ τ)) = some ((if px_cnd .ge (Int32.ofInt (sy_e ρ a)) 0 = true then Value.int (Int32.ofInt (sy_e ρ a)) else Value.int (Int32.ofInt (sy_e ρ (sy_sub (sy_c 0) a)))) :: r.map (sy_v ρ τ)) := by
    show (if 3 = 3 ∧ 1 ≤ d then (px_look M.2.2.2.1 k).bind _ else none) = _
    rw [if_pos ⟨rfl, hd1⟩, hL]
    show (if c.1 = 10 then (if ((r.map (sy_v ρ τ)).map (fun v => v.category)).sum ≤ 8 then some (Value.int (if 0 ≤ Int32.ofInt (sy_e ρ a) then Int32.ofInt (sy_e ρ a) else 0 - Int32.ofInt (sy_e ρ a)) :: r.map (sy_v ρ τ)) else none) else _) = _
    rw [if_pos hc, if_pos (by rw [sy_sum_v]; exact hsum)]
    by_cases hlt : 0 ≤ Int32.ofInt (sy_e ρ a)
    · rw [if_pos hlt, if_pos (show px_cnd .ge _ _ = true from decide_eq_true hlt)]
    · rw [if_neg hlt, if_neg (show ¬ px_cnd .ge _ _ = true from fun h => hlt (of_decide_eq_true h)), hneg]
  by_cases hlt : px_cnd .ge (Int32.ofInt (sy_e ρ a)) 0 = true
  · rw [if_pos hlt] at hs
    obtain ⟨g', h4, h5⟩ := h2.1 hlt
    exact pf_next (px_step_6 hq (Nat.le_refl 2) h3 hs) (sy_use (hT g' h4) hM h5 hl hf hd)
  · rw [if_neg hlt] at hs
    obtain ⟨g', h4, h5⟩ := h2.2 hlt
    exact pf_next (px_step_6 hq (Nat.le_refl 2) h3 hs) (sy_use (hF g' h4) hM h5 hl hf hd)
def sy_uX (D : Nat) (M : px_M) (i : Instr) (len : Nat) (S : sy_S) : Option (List sy_S) := match i, S.2.1.2.2.2 with
  | .invokestatic k, .inl b :: r => if len = 3 ∧ S.2.2.length + 1 ≤ D then (match px_look M.2.2.2.1 k with
    | some c => if c.1 = 10 then (if (r.map sy_cat).sum ≤ 8 then some (sy_opt S (sy_two S.1 .ge b (sy_c 0)).1 (S.2.1.2.1 + 3) (.inl b :: r) ++ sy_opt S (sy_two S.1 .ge b (sy_c 0)).2 (S.2.1.2.1 + 3) (.inl (sy_sub (sy_c 0) b) :: r)) else none) else (match r with
      | .inl a :: r2 => if (r2.map sy_cat).sum ≤ 8 then (if c.1 = 8 then some (sy_opt S (sy_two S.1 .lt a b).1 (S.2.1.2.1 + 3) (.inl b :: r2) ++ sy_opt S (sy_two S.1 .lt a b).2 (S.2.1.2.1 + 3) (.inl a :: r2)) else if c.1 = 9 then some (sy_opt S (sy_two S.1 .lt b a).1 (S.2.1.2.1 + 3) (.inl b :: r2) ++ sy_opt S (sy_two S.1 .lt b a).2 (S.2.1.2.1 + 3) (.inl a :: r2)) else none) else none
      | _ => none)
    | none => none) else none
  | _, _ => none
theorem sy_uX_ok {D : Nat} (hD : D ≤ x.2.2.2.2.2.2) (hM : q.1[S.2.1.1]? = some M) (hq : px_look M.2.1 S.2.1.2.1 = some (i, len)) (h : sy_uX D M i len S = some l) : sy_S1 x q S l := by
  intro hG
  unfold sy_uX at h
  split at h
  · rename_i k b r hst
    split at h
    · rename_i hc0
      obtain ⟨h1, hdep⟩ := hc0
      subst h1
      split at h
      · rename_i c hL
        split at h
        · rename_i hc
          split at h
          · rename_i hs
            cases h
            exact sy_goAb hM hq hst hL hc hs (by omega) (fun g' hg => hG _ (List.mem_append_left _ (sy_opt_mem hg))) (fun g' hg => hG _ (List.mem_append_right _ (sy_opt_mem hg)))
          · cases h
        · split at h
          · rename_i a r2
            split at h
            · rename_i hs
              split at h
              · rename_i hc
                cases h
                exact sy_goMx hM hq hst hL (.inl ⟨hc, rfl, rfl⟩) hs (by omega) (fun g' hg => hG _ (List.mem_append_left _ (sy_opt_mem hg))) (fun g' hg => hG _ (List.mem_append_right _ (sy_opt_mem hg)))
              · split at h
                · rename_i hc
                  cases h
                  exact sy_goMx hM hq hst hL (.inr ⟨hc, rfl, rfl⟩) hs (by omega) (fun g' hg => hG _ (List.mem_append_left _ (sy_opt_mem hg))) (fun g' hg => hG _ (List.mem_append_right _ (sy_opt_mem hg)))
                · cases h
            · cases h
          · cases h
      · cases h
    · cases h
  · cases h
end XM
end
section
/-! LONG ARRAYS, LONG CONSTANTS, BYTES OF TEXTS -/
section XL
variable {x : sy_X} {q : sy_Q} {S : sy_S} {M : px_M} {i : Instr} {len : Nat} {l : List sy_S}
theorem sy_getL {w : px_W} {k : Nat} {l : List Int64} (h : w[k]? = some (.inr (.inl l))) (j : Nat) : sy_get w k j = (l[j]?).map Value.long := by
  unfold sy_get
  rw [h]
theorem sy_goLald {a n : Nat} {ix : sy_L} {b : Int × Int} {r : List sy_A} (hw : sy_wS S = true) (hM : q.1[S.2.1.1]? = some M) (hq : px_look M.2.1 S.2.1.2.1 = some (.laload, 1)) (hst : S.2.1.2.2.2 = .inl ix :: .inr (.inl a) :: r) (ha : 64 ≤ a) (hA : q.2.1[a - 64]? = some (.inr (.inl n))) (hn : n ≤ 2147483647) (hb : sy_b S.1.1 ix = some b) (hb1 : 0 ≤ b.1) (hb2 : b.2 < (n : Int))
    (hG : sy_Good x q (sy_at S (S.1.1, S.1.2.1 + 1, S.1.2.2) (S.2.1.2.1 + 1) S.2.1.2.2.1 (.inr (.inr S.1.2.1) :: r))) : sy_Good x q S := by
  refine sy_goFL (pre := [.inl ix, .inr (.inl a)]) hw hM hst (fun ρ τ w lc cf d hm _ => ?_) hG
  obtain ⟨l, l1, l2⟩ := sy_cell_l hm.2.2.2.2.1 hA
  obtain ⟨c1, c2⟩ := sy_b_e hm.2.1 hb
  obtain ⟨x1, x2⟩ := px_ix_of (z := sy_e ρ ix) (n := l.length) (by omega) (by omega) (by omega)
  refine ⟨l.getD (sy_e ρ ix).toNat 0, (fun hs : px_s2 x.1 x.2.1 .laload 1 (pf_scr x.2.2.2.1 cf) M.1.1.name M.1.1.cls M.2.2 (S.2.1.2.2.2.map (sy_v ρ τ)) w = some (.long (l.getD (sy_e ρ ix).toNat 0) :: r.map (sy_v ρ τ), w, 0, 0) => px_step_2 hq rfl hs) ?_⟩
  rw [hst]
  show (if 1 = 1 ∧ 64 ≤ a then (match w[a - 64]? with
      | some (.inr (.inl l)) => if px_ix (Int32.ofInt (sy_e ρ ix)) l.length = true then some (.long (l.getD (Int32.ofInt (sy_e ρ ix)).toNatClampNeg 0) :: r.map (sy_v ρ τ), w, 0, 0) else none
      | _ => none) else none) = _
  rw [if_pos ⟨rfl, ha⟩, l1]
  show (if px_ix (Int32.ofInt (sy_e ρ ix)) l.length = true then _ else none) = _
  rw [if_pos x1, x2]
theorem sy_goLast {a n s : Nat} {ix : sy_L} {b : Int × Int} {r : List sy_A} (hM : q.1[S.2.1.1]? = some M) (hq : px_look M.2.1 S.2.1.2.1 = some (.lastore, 1)) (hst : S.2.1.2.2.2 = .inr (.inr s) :: .inl ix :: .inr (.inl a) :: r) (ha : 64 ≤ a) (hA : q.2.1[a - 64]? = some (.inr (.inl n))) (hn : n ≤ 2147483647) (hb : sy_b S.1.1 ix = some b) (hb1 : 0 ≤ b.1) (hb2 : b.2 < (n : Int)) (hmay : sy_mayI q.2.2.1 (a - 64) b = true)
    (hG : sy_Good x q (sy_at S (S.1.1, S.1.2.1, S.1.2.2.1, (a - 64, sy_nm S.1.1 ix, .inr (.inr s)) :: sy_drop S.1.1 (a - 64) ix S.1.2.2.2) (S.2.1.2.1 + 1) S.2.1.2.2.1 r)) : sy_Good x q S := by
  refine sy_open (fun ρ τ w lc cf d hm hl hf hd => ?_) hM
  obtain ⟨m1, m2, m3, m4, m5, m6⟩ := id hm
  obtain ⟨l, l1, l2⟩ := sy_cell_l m5 hA
  obtain ⟨c1, c2⟩ := sy_b_e m2 hb
  have hz : (sy_e ρ ix).toNat < l.length := by rw [l2]; omega
  obtain ⟨x1, x2⟩ := px_ix_of (z := sy_e ρ ix) (n := l.length) (by omega) (by omega) (by omega)
  have hg : ∀ k' i' : Nat, ¬ (k' = a - 64 ∧ i' = (sy_e ρ ix).toNat) → sy_get (w.set (a - 64) (.inr (.inl (l.set (sy_e ρ ix).toNat (τ s))))) k' i' = sy_get w k' i' := by
    intro k' i' hne
    rw [sy_get_set l1]
    split
    · rename_i hk
      subst hk
      have hi : (sy_e ρ ix).toNat ≠ i' := fun z => hne ⟨rfl, z.symm⟩
      rw [sy_getL l1]
      show ((l.set _ _)[i']?).map Value.long = _
      rw [List.getElem?_set_ne hi]
    · rfl
  have hm' : sy_mem q (S.1.1, S.1.2.1, S.1.2.2.1, (a - 64, sy_nm S.1.1 ix, .inr (.inr s)) :: sy_drop S.1.1 (a - 64) ix S.1.2.2.2) ρ τ (w.set (a - 64) (.inr (.inl (l.set (sy_e ρ ix).toNat (τ s))))) := by
    refine ⟨m1, m2, m3, fun f hf => ?_, sy_W_set m5 hA ?_, sy_fr_set m6 (sy_mayI_ok hmay (by omega) c1 c2) hg⟩
    · rcases List.mem_cons.mp hf with rfl | hf
      · show 0 ≤ sy_e ρ (sy_nm S.1.1 ix) ∧ sy_get _ (a - 64) (sy_e ρ (sy_nm S.1.1 ix)).toNat = some (.long (τ s))
        rw [sy_nm_e m2, sy_get_set l1, if_pos rfl]
        refine ⟨by omega, ?_⟩
        show ((l.set _ _)[(sy_e ρ ix).toNat]?).map Value.long = _
        rw [List.getElem?_set_self hz]
        rfl
      · exact sy_drop_ok m2 m4 (by omega) hg f hf
    · show (l.set _ _).length = n
      rw [List.length_set]
      exact l2
  refine (fun hs : px_s2 x.1 x.2.1 .lastore 1 (pf_scr x.2.2.2.1 cf) M.1.1.name M.1.1.cls M.2.2 (S.2.1.2.2.2.map (sy_v ρ τ)) w = some (r.map (sy_v ρ τ), w.set (a - 64) (.inr (.inl (l.set (sy_e ρ ix).toNat (τ s)))), 0, 0) => pf_next (px_step_2 hq rfl hs) (sy_use hG hM hm' hl hf hd)) ?_
  rw [hst]
  show (if 1 = 1 ∧ 64 ≤ a then (match w[a - 64]? with
      | some (.inr (.inl l)) => if px_ix (Int32.ofInt (sy_e ρ ix)) l.length = true then some (r.map (sy_v ρ τ), w.set (a - 64) (.inr (.inl (l.set (Int32.ofInt (sy_e ρ ix)).toNatClampNeg (τ s)))), 0, 0) else none
      | _ => none) else none) = _
  rw [if_pos ⟨rfl, ha⟩, l1]
  show (if px_ix (Int32.ofInt (sy_e ρ ix)) l.length = true then _ else none) = _
  rw [if_pos x1, x2]
theorem sy_goLdc2 {k : Nat} {v : Int64} (hw : sy_wS S = true) (hM : q.1[S.2.1.1]? = some M) (hq : px_look M.2.1 S.2.1.2.1 = some (.ldc2_w k, 3)) (hL : px_look M.2.2.2.2.2.2.1 k = some v)
    (hG : sy_Good x q (sy_at S (S.1.1, S.1.2.1 + 1, S.1.2.2) (S.2.1.2.1 + 3) S.2.1.2.2.1 (.inr (.inr S.1.2.1) :: S.2.1.2.2.2))) : sy_Good x q S := by
  refine sy_goFL (pre := []) hw hM rfl (fun ρ τ w lc cf d hm _ => ?_) hG
  refine ⟨v, (fun hs : px_s2 x.1 x.2.1 (.ldc2_w k) 3 (pf_scr x.2.2.2.1 cf) M.1.1.name M.1.1.cls M.2.2 (S.2.1.2.2.2.map (sy_v ρ τ)) w = some (.long v :: S.2.1.2.2.2.map (sy_v ρ τ), w, 0, 0) => px_step_2 hq rfl hs) ?_⟩
  show (if 3 = 3 then (px_look M.2.2.2.2.2.2.1 k).map (fun v => (.long v :: S.2.1.2.2.2.map (sy_v ρ τ), w, 0, 0)) else none) = _
  rw [if_pos rfl, hL]
  rfl
def sy_lr : List Int32 → Int × Int
  | [] => (0, 0)
  | c :: r => (min c.toInt (sy_lr r).1, max c.toInt (sy_lr r).2)
theorem sy_lr_ok : ∀ (l : List Int32) (j : Nat), (sy_lr l).1 ≤ (l.getD j 0).toInt ∧ (l.getD j 0).toInt ≤ (sy_lr l).2
  | [], j => by
    rw [List.getD_nil]
    exact ⟨Int.le_refl _, Int.le_refl _⟩
  | c :: r, 0 => by
    show min c.toInt _ ≤ c.toInt ∧ c.toInt ≤ max c.toInt _
    omega
  | c :: r, j + 1 => by
    have := sy_lr_ok r j
    rw [List.getD_cons_succ]
    show min c.toInt _ ≤ _ ∧ _ ≤ max c.toInt _
    omega
theorem sy_goBald {a : Nat} {ix : sy_L} {b : Int × Int} {r : List sy_A} (hw : sy_wS S = true) (hM : q.1[S.2.1.1]? = some M) (hq : px_look M.2.1 S.2.1.2.1 = some (.baload, 1)) (hst : S.2.1.2.2.2 = .inl ix :: .inr (.inl a) :: r) (ha : 17 ≤ a ∧ a ≤ 32) (hn : (x.2.1.map List.length).getD (a - 17) 0 ≤ 2147483647) (hb : sy_b S.1.1 ix = some b) (hb1 : 0 ≤ b.1) (hb2 : b.2 < (((x.2.1.map List.length).getD (a - 17) 0 : Nat) : Int))
    (hG : sy_Good x q (sy_at S (sy_new S.1 (sy_lr (x.2.1.getD (a - 17) []))) (S.2.1.2.1 + 1) S.2.1.2.2.1 (.inl (sy_x S.1.1.length) :: r))) : sy_Good x q S := by
  refine sy_goF (pre := [.inl ix, .inr (.inl a)]) hw hM hst (fun ρ τ w lc cf d hm _ => ?_) hG
  obtain ⟨c1, c2⟩ := sy_b_e hm.2.1 hb
  obtain ⟨x1, x2⟩ := px_ix_of (z := sy_e ρ ix) (n := (x.2.1.map List.length).getD (a - 17) 0) (by omega) (by omega) (by omega)
  obtain ⟨r1, r2⟩ := sy_lr_ok (x.2.1.getD (a - 17) []) (sy_e ρ ix).toNat
  refine ⟨(x.2.1.getD (a - 17) []).getD (sy_e ρ ix).toNat 0, r1, r2, (fun hs : px_s2 x.1 x.2.1 .baload 1 (pf_scr x.2.2.2.1 cf) M.1.1.name M.1.1.cls M.2.2 (S.2.1.2.2.2.map (sy_v ρ τ)) w = some (.int ((x.2.1.getD (a - 17) []).getD (sy_e ρ ix).toNat 0) :: r.map (sy_v ρ τ), w, 0, 0) => px_step_2 hq rfl hs) ?_⟩
  rw [hst]
  show (if 1 = 1 ∧ 17 ≤ a ∧ a ≤ 32 ∧ px_ix (Int32.ofInt (sy_e ρ ix)) ((x.2.1.map List.length).getD (a - 17) 0) = true then some (.int ((x.2.1.getD (a - 17) []).getD (Int32.ofInt (sy_e ρ ix)).toNatClampNeg 0) :: r.map (sy_v ρ τ), w, 0, 0) else none) = _
  rw [if_pos ⟨rfl, ha.1, ha.2, x1⟩, x2]
def sy_uL (lt : List (List Int32)) (A : List sy_Ce) (Wr : sy_Wr) (M : px_M) (i : Instr) (len : Nat) (S : sy_S) : Option (List sy_S) := match i, S.2.1.2.2.2 with
  | .laload, .inl ix :: .inr (.inl a) :: r => if len = 1 ∧ 64 ≤ a ∧ sy_wS S = true then (match A[a - 64]?, sy_b S.1.1 ix with
    | some (.inr (.inl n)), some b => if n ≤ 2147483647 ∧ 0 ≤ b.1 ∧ b.2 < (n : Int) then some [sy_at S (S.1.1, S.1.2.1 + 1, S.1.2.2) (S.2.1.2.1 + 1) S.2.1.2.2.1 (.inr (.inr S.1.2.1) :: r)] else none
    | _, _ => none) else none
  | .lastore, .inr (.inr s) :: .inl ix :: .inr (.inl a) :: r => if len = 1 ∧ 64 ≤ a then (match A[a - 64]?, sy_b S.1.1 ix with
    | some (.inr (.inl n)), some b => if n ≤ 2147483647 ∧ 0 ≤ b.1 ∧ b.2 < (n : Int) ∧ sy_mayI Wr (a - 64) b = true then some [sy_at S (S.1.1, S.1.2.1, S.1.2.2.1, (a - 64, sy_nm S.1.1 ix, .inr (.inr s)) :: sy_drop S.1.1 (a - 64) ix S.1.2.2.2) (S.2.1.2.1 + 1) S.2.1.2.2.1 r] else none
    | _, _ => none) else none
  | .ldc2_w k, r => if len = 3 ∧ sy_wS S = true then (px_look M.2.2.2.2.2.2.1 k).map (fun _ => [sy_at S (S.1.1, S.1.2.1 + 1, S.1.2.2) (S.2.1.2.1 + 3) S.2.1.2.2.1 (.inr (.inr S.1.2.1) :: r)]) else none
  | .baload, .inl ix :: .inr (.inl a) :: r => if len = 1 ∧ (17 ≤ a ∧ a ≤ 32) ∧ sy_wS S = true ∧ (lt.map List.length).getD (a - 17) 0 ≤ 2147483647 then (match sy_b S.1.1 ix with
    | some b => if 0 ≤ b.1 ∧ b.2 < (((lt.map List.length).getD (a - 17) 0 : Nat) : Int) then some [sy_at S (sy_new S.1 (sy_lr (lt.getD (a - 17) []))) (S.2.1.2.1 + 1) S.2.1.2.2.1 (.inl (sy_x S.1.1.length) :: r)] else none
    | none => none) else none
  | _, _ => none
theorem sy_uL_ok (hM : q.1[S.2.1.1]? = some M) (hq : px_look M.2.1 S.2.1.2.1 = some (i, len)) (h : sy_uL x.2.1 q.2.1 q.2.2.1 M i len S = some l) : sy_S1 x q S l := by
  intro hG
  unfold sy_uL at h
  split at h
  · rename_i ix a r hst
    split at h
    · rename_i hc
      obtain ⟨h1, ha, hw⟩ := hc
      subst h1
      split at h
      · rename_i n b hA hb
        split at h
        · rename_i hc
          cases h
          exact sy_goLald hw hM hq hst ha hA hc.1 hb hc.2.1 hc.2.2 (hG _ List.mem_cons_self)
        · cases h
      · cases h
    · cases h
  · rename_i s ix a r hst
    split at h
    · rename_i hc
      obtain ⟨h1, ha⟩ := hc
      subst h1
      split at h
      · rename_i n b hA hb
        split at h
        · rename_i hc
          cases h
          exact sy_goLast hM hq hst ha hA hc.1 hb hc.2.1 hc.2.2.1 hc.2.2.2 (hG _ List.mem_cons_self)
        · cases h
      · cases h
    · cases h
  · split at h
    · rename_i hc
      obtain ⟨h1, hw⟩ := hc
      subst h1
      obtain ⟨v, hv, rfl⟩ := Option.map_eq_some_iff.mp h
      exact sy_goLdc2 hw hM hq hv (hG _ List.mem_cons_self)
    · cases h
  · rename_i ix a r hst
    split at h
    · rename_i hc
      obtain ⟨h1, ha, hw, hn⟩ := hc
      subst h1
      split at h
      · rename_i b hb
        split at h
        · rename_i hc
          cases h
          exact sy_goBald hw hM hq hst ha hn hb hc.1 hc.2 (hG _ List.mem_cons_self)
        · cases h
      · cases h
    · cases h
  · cases h
end XL
end
section
/-! A WHOLE INT ARRAY IS COPIED ONTO ANOTHER OF ITS SHAPE -/
theorem sy_cpy_all {a b : List Int32} (h : a.length = b.length) : px_cpy a b 0 0 a.length = a := by
  unfold px_cpy
  rw [List.take_zero, List.nil_append, List.drop_zero, List.take_length, Nat.zero_add, h, List.drop_length, List.append_nil]
theorem px_ix_nn {z : Int} (h0 : 0 ≤ z) (h1 : z < 2147483647) : ¬ Int32.ofInt z < 0 ∧ (Int32.ofInt z).toNatClampNeg = z.toNat := by
  obtain ⟨h2, h3⟩ := px_ix_of (z := z) (n := z.toNat + 1) h0 (by omega) (by omega)
  refine ⟨fun hlt => ?_, h3⟩
  unfold px_ix at h2
  rw [decide_eq_true hlt] at h2
  cases h2
section XC
variable {x : sy_X} {q : sy_Q} {S : sy_S} {M : px_M} {i : Instr} {len : Nat} {l : List sy_S}
def sy_cpF (ka kb : Nat) (F : List sy_Fa) : List sy_Fa := (F.filter (fun f => f.1 == ka)).map (fun f => (kb, f.2)) ++ F.filter (fun f => !(f.1 == kb))
theorem sy_goCpy {k a b n : Nat} {c : Nat × Nat} {sg : sy_Sg} {e1 e2 e3 : sy_L} {r : List sy_A} (hM : q.1[S.2.1.1]? = some M) (hq : px_look M.2.1 S.2.1.2.1 = some (.invokestatic k, 3)) (hst : S.2.1.2.2.2 = .inl e1 :: .inl e2 :: .inr (.inl b) :: .inl e3 :: .inr (.inl a) :: r) (h1 : sy_b S.1.1 e1 = some ((n : Int), (n : Int))) (h2 : sy_b S.1.1 e2 = some (0, 0)) (h3 : sy_b S.1.1 e3 = some (0, 0)) (ha : 64 ≤ a) (hb : 64 ≤ b) (hA : q.2.1[a - 64]? = some (.inl (n, sg))) (hB : q.2.1[b - 64]? = some (.inl (n, sg))) (hn : n < 2147483647) (hL : px_look M.2.2.2.1 k = some c) (hc : c.1 = 6) (hsum : (r.map sy_cat).sum ≤ 8) (hdep : S.2.2.length + 1 ≤ x.2.2.2.2.2.2) (hmay : ∀ i, i < n → sy_may q.2.2.1 (b - 64) i = true)
    (hG : sy_Good x q (sy_at S (S.1.1, S.1.2.1, S.1.2.2.1, sy_cpF (a - 64) (b - 64) S.1.2.2.2) (S.2.1.2.1 + 3) S.2.1.2.2.1 r)) : sy_Good x q S := by
  refine sy_open (fun ρ τ w lc cf d hm hl hf hd => ?_) hM
  have hcf := sy_frs_len _ _ hf
  have hd1 : 1 ≤ d := by omega
  obtain ⟨m1, m2, m3, m4, m5, m6⟩ := id hm
  obtain ⟨la, a1, a2, a3⟩ := sy_cell_i m5 hA
  obtain ⟨lb, b1, b2, b3⟩ := sy_cell_i m5 hB
  have v1 : sy_e ρ e1 = n := by have := sy_b_e m2 h1; dsimp only at this; omega
  have v2 : sy_e ρ e2 = 0 := by have := sy_b_e m2 h2; dsimp only at this; omega
  have v3 : sy_e ρ e3 = 0 := by have := sy_b_e m2 h3; dsimp only at this; omega
  have hgb : ∀ i' : Nat, sy_get (w.set (b - 64) (.inl la)) (b - 64) i' = sy_get w (a - 64) i' := by
    intro i'
    rw [sy_get_set b1, if_pos rfl]
    exact sy_get_same a1 i'
  have hgo : ∀ k' i' : Nat, ¬ k' = b - 64 → sy_get (w.set (b - 64) (.inl la)) k' i' = sy_get w k' i' := by
    intro k' i' hk
    rw [sy_get_set b1, if_neg hk]
  have hm' : sy_mem q (S.1.1, S.1.2.1, S.1.2.2.1, sy_cpF (a - 64) (b - 64) S.1.2.2.2) ρ τ (w.set (b - 64) (.inl la)) := by
    refine ⟨m1, m2, m3, fun f hf => ?_, sy_W_set m5 hB ⟨a2, a3⟩, fun k' i' hk => ?_⟩
    · rcases List.mem_append.mp hf with hf | hf
      · obtain ⟨f0, hf0, rfl⟩ := List.mem_map.mp hf
        obtain ⟨g1, g2⟩ := List.mem_filter.mp hf0
        have g3 : f0.1 = a - 64 := eq_of_beq g2
        have g4 := m4 f0 g1
        rw [g3] at g4
        show 0 ≤ sy_e ρ f0.2.1 ∧ sy_get _ (b - 64) (sy_e ρ f0.2.1).toNat = some (sy_v ρ τ f0.2.2)
        rw [hgb]
        exact g4
      · obtain ⟨g1, g2⟩ := List.mem_filter.mp hf
        have g3 : ¬ f.1 = b - 64 := by
          intro e
          simp [e] at g2
        rw [hgo _ _ g3]
        exact m4 f g1
    · by_cases hkb : k' = b - 64
      · subst hkb
        have hi : n ≤ i' := by
          rcases Nat.lt_or_ge i' n with h | h
          · rw [hmay i' h] at hk
            cases hk
          · exact h
        rw [← m6 _ _ hk, hgb, sy_getI a1, sy_getI b1, List.getElem?_eq_none (by omega), List.getElem?_eq_none (by omega)]
      · rw [hgo _ _ hkb]
        exact m6 k' i' hk
  obtain ⟨z1, z2⟩ := px_ix_nn (z := (n : Int)) (by omega) (by omega)
  obtain ⟨y1, y2⟩ := px_ix_nn (z := 0) (by omega) (by omega)
  have hs : px_s3 (.invokestatic k) 3 d M.2.2 (S.2.1.2.2.2.map (sy_v ρ τ)) w = some (r.map (sy_v ρ τ), w.set (b - 64) (.inl la)) := by
    rw [hst]
    show (if 3 = 3 ∧ 1 ≤ d ∧ 64 ≤ a ∧ 64 ≤ b ∧ ¬ Int32.ofInt (sy_e ρ e3) < 0 ∧ ¬ Int32.ofInt (sy_e ρ e2) < 0 ∧ ¬ Int32.ofInt (sy_e ρ e1) < 0 ∧ ((r.map (sy_v ρ τ)).map (fun v => v.category)).sum ≤ 8 then (match px_look M.2.2.2.1 k, w[a - 64]?, w[b - 64]? with
    | some q, some (.inl la), some (.inl lb) => if q.1 = 6 ∧ (Int32.ofInt (sy_e ρ e3)).toNatClampNeg + (Int32.ofInt (sy_e ρ e1)).toNatClampNeg ≤ la.length ∧ (Int32.ofInt (sy_e ρ e2)).toNatClampNeg + (Int32.ofInt (sy_e ρ e1)).toNatClampNeg ≤ lb.length then some (r.map (sy_v ρ τ), w.set (b - 64) (.inl (px_cpy la lb (Int32.ofInt (sy_e ρ e3)).toNatClampNeg (Int32.ofInt (sy_e ρ e2)).toNatClampNeg (Int32.ofInt (sy_e ρ e1)).toNatClampNeg))) else none
    | _, _, _ => none) else none) = _
    rw [v1, v2, v3, if_pos ⟨rfl, hd1, ha, hb, y1, y1, z1, by rw [sy_sum_v]; exact hsum⟩, hL, a1, b1]
    show (if c.1 = 6 ∧ (Int32.ofInt 0).toNatClampNeg + (Int32.ofInt (n : Int)).toNatClampNeg ≤ la.length ∧ (Int32.ofInt 0).toNatClampNeg + (Int32.ofInt (n : Int)).toNatClampNeg ≤ lb.length then some (r.map (sy_v ρ τ), w.set (b - 64) (.inl (px_cpy la lb (Int32.ofInt 0).toNatClampNeg (Int32.ofInt 0).toNatClampNeg (Int32.ofInt (n : Int)).toNatClampNeg))) else none) = _
    rw [y2, z2, if_pos ⟨hc, by omega, by omega⟩]
    have hcp := sy_cpy_all (a := la) (b := lb) (by omega)
    rw [a2] at hcp
    show some (_, w.set (b - 64) (.inl (px_cpy la lb 0 0 n))) = _
    rw [hcp]
  exact pf_next (px_step_3 hq (Nat.le_refl 2) hs) (sy_use hG hM hm' hl hf hd)
def sy_uY (A : List sy_Ce) (Wr : sy_Wr) (D : Nat) (M : px_M) (i : Instr) (len : Nat) (S : sy_S) : Option (List sy_S) := match i, S.2.1.2.2.2 with
  | .invokestatic k, .inl e1 :: .inl e2 :: .inr (.inl b) :: .inl e3 :: .inr (.inl a) :: r => if len = 3 ∧ S.2.2.length + 1 ≤ D ∧ 64 ≤ a ∧ 64 ≤ b ∧ (r.map sy_cat).sum ≤ 8 then (match px_look M.2.2.2.1 k, A[a - 64]?, A[b - 64]? with
    | some c, some (.inl (n, sg)), some (.inl z) => if c.1 = 6 ∧ z = (n, sg) ∧ n < 2147483647 ∧ sy_b S.1.1 e1 = some ((n : Int), (n : Int)) ∧ sy_b S.1.1 e2 = some (0, 0) ∧ sy_b S.1.1 e3 = some (0, 0) ∧ Wr.any (fun p => decide (p.1 = b - 64) && (decide (p.2.1 = 0) && decide (n ≤ p.2.2))) = true then some [sy_at S (S.1.1, S.1.2.1, S.1.2.2.1, sy_cpF (a - 64) (b - 64) S.1.2.2.2) (S.2.1.2.1 + 3) S.2.1.2.2.1 r] else none
    | _, _, _ => none) else none
  | _, _ => none
theorem sy_uY_ok {D : Nat} (hD : D ≤ x.2.2.2.2.2.2) (hM : q.1[S.2.1.1]? = some M) (hq : px_look M.2.1 S.2.1.2.1 = some (i, len)) (h : sy_uY q.2.1 q.2.2.1 D M i len S = some l) : sy_S1 x q S l := by
  intro hG
  unfold sy_uY at h
  split at h
  · rename_i k e1 e2 b e3 a r hst
    split at h
    · rename_i hc0
      obtain ⟨h1, hdep, ha, hb, hsum⟩ := hc0
      subst h1
      split at h
      · rename_i c n sg z hL hA hB
        split at h
        · rename_i hc1
          obtain ⟨hc, hz, hn, g1, g2, g3, hw⟩ := hc1
          subst hz
          cases h
          refine sy_goCpy hM hq hst g1 g2 g3 ha hb hA hB hn hL hc hsum (by omega) (fun i hi => ?_) (hG _ List.mem_cons_self)
          obtain ⟨p, hp, hp2⟩ := List.any_eq_true.mp hw
          simp only [Bool.and_eq_true, decide_eq_true_eq] at hp2
          refine List.any_eq_true.mpr ⟨p, hp, ?_⟩
          simp only [Bool.and_eq_true, decide_eq_true_eq]
          omega
        · cases h
      · cases h
    · cases h
  · cases h
end XC
end
section
/-! A CHECK OF A CONTRACT, BY PROGRAM -/
/-- which symbol stands for what: a guess, that is checked afterwards -/
def sy_un1 (σ : List (Nat × sy_L)) (pat act : sy_L) : List (Nat × sy_L) :=
  let kn := pat.2.foldl (fun (acc : sy_L × List (Nat × Int)) t => match px_look σ t.1 with
    | some e => (sy_add acc.1 (sy_scl t.2 e), acc.2)
    | none => (acc.1, t :: acc.2)) ((pat.1, []), [])
  match kn.2 with
  | [(i, c)] =>
    let z := sy_sub act kn.1
    if c ≠ 0 ∧ z.1 % c = 0 ∧ z.2.all (fun t => decide (t.2 % c = 0)) = true then (i, (z.1 / c, z.2.map (fun t => (t.1, t.2 / c)))) :: σ else σ
  | _ => σ
abbrev sy_Un : Type := List (Nat × sy_L) × List (Nat × Nat)
def sy_unA (u : sy_Un) (pat act : sy_A) : sy_Un := match pat, act with
  | .inl p, .inl a => (sy_un1 u.1 p a, u.2)
  | .inr (.inr s), .inr (.inr t) => if (px_look u.2 s).isSome = true then u else (u.1, (s, t) :: u.2)
  | _, _ => u
def sy_sbq (σ : List (Nat × sy_L)) : List (Nat × Int) → Option sy_L
  | [] => some (0, [])
  | t :: r => match px_look σ t.1, sy_sbq σ r with
    | some e, some z => some (sy_add (sy_scl t.2 e) z)
    | _, _ => none
def sy_unF (R : sy_T) (F : List sy_Fa) (u : sy_Un) (f : sy_Fa) : sy_Un := match sy_sbq u.1 f.2.1.2 with
  | some z => (match F.find? (fun g => g.1 == f.1 && sy_eq R g.2.1 (f.2.1.1 + z.1, z.2)) with
    | some g => sy_unA u f.2.2 g.2.2
    | none => u)
  | none => u
def sy_unP : sy_Un → List sy_A → List sy_A → sy_Un
  | u, p :: ps, a :: as => sy_unP (sy_unA u p a) ps as
  | u, _, _ => u
def sy_unL (lv : List (Nat × sy_A)) : sy_Un → List (Nat × sy_A) → sy_Un
  | u, [] => u
  | u, p :: ps => sy_unL lv (match px_look lv p.1 with
    | some a => sy_unA u p.2 a
    | none => u) ps
def sy_fσ (T : sy_T) (u : sy_Un) : List sy_L := (List.range T.length).map (fun i => (px_look u.1 i).getD (sy_c (T.getD i (0, 0)).1))
def sy_fσL (n : Nat) (u : sy_Un) : List Nat := (List.range n).map (fun i => (px_look u.2 i).getD 0)
def sy_mapO {α β : Type} (f : α → Option β) : List α → Option (List β)
  | [] => some []
  | a :: r => match f a, sy_mapO f r with
    | some b, some l => some (b :: l)
    | _, _ => none
theorem sy_mapO_ok {α β : Type} {f : α → Option β} : ∀ {l : List α} {m : List β}, sy_mapO f l = some m → ∀ a ∈ l, ∃ b ∈ m, f a = some b
  | [], _, _, a, ha => absurd ha List.not_mem_nil
  | a0 :: r, m, h, a, ha => by
    unfold sy_mapO at h
    split at h
    · rename_i b l hb hl
      cases h
      rcases List.mem_cons.mp ha with rfl | ha
      · exact ⟨b, List.mem_cons_self, hb⟩
      · obtain ⟨b2, h2, h3⟩ := sy_mapO_ok hl a ha
        exact ⟨b2, List.mem_cons_of_mem _ h2, h3⟩
    · cases h
section CK
variable {x : sy_X} {q : sy_Q} {S : sy_S} {M : px_M} {i : Instr} {len : Nat} {l : List sy_S}
def sy_tryC (P : List px_M) (Wr : sy_Wr) (D : Nat) (S : sy_S) (z : Nat × List sy_A × List sy_A) (σ : List sy_L) (σL : List Nat) (C : sy_Co) : Option (List sy_S) := match P[z.1]? with
  | some M' => if z.1 = C.1 ∧ sy_len z.2.1 ≤ M'.1.2.2.1 ∧ S.2.2.length + 1 + C.2.2.2.2.1 ≤ D ∧ sy_eqs S.1.1 σ σL z.2.1 C.2.2.1 = true ∧ sy_fitG S.1 σ σL C.2.1 = true ∧ sy_wS S = true ∧ σ.length = C.2.1.1.length ∧ σ.all (sy_wl S.1.1.length) = true ∧ sy_wsub C.2.2.2.1 Wr = true ∧ z.2.2.all (sy_wa S.1.1.length S.1.2.1) = true ∧ C.2.2.2.2.2.all (fun p => decide (C.2.1.1.length ≤ p.1.1.length)) = true then sy_mapO (sy_aft S C σ z.2.2) C.2.2.2.2.2 else none
  | none => none
theorem sy_tryC_ok {D : Nat} {z : Nat × List sy_A × List sy_A} {σ : List sy_L} {σL : List Nat} {C : sy_Co} (hC : sy_Met x.1 x.2.1 x.2.2.1 q.2.1 x.2.2.2.2.1 C) (hD : D ≤ x.2.2.2.2.2.2) (hM : q.1[S.2.1.1]? = some M) (hq : px_look M.2.1 S.2.1.2.1 = some (i, len)) (hz : sy_cl x.1 q.2.1 x.2.2.1 i len M.2.2 S.2.1.2.2.2 = some z) (h : sy_tryC x.2.2.1 q.2.2.1 D S z σ σL C = some l) : sy_S1 x q S l := by
  intro hG
  unfold sy_tryC at h
  split at h
  · rename_i M' hM'
    split at h
    · rename_i hc
      obtain ⟨c1, c2, c3, c4, c5, c6, c7, c8, c9, c10, c11⟩ := hc
      refine sy_goMet hC c6 hM hq hz c1 hM' c2 (by omega) c5 c7 c8 c4 c9 c10 (fun p hp => ?_)
      obtain ⟨S', hS', he⟩ := sy_mapO_ok h p hp
      exact ⟨of_decide_eq_true (List.all_eq_true.mp c11 p hp), S', he, hG S' hS'⟩
    · cases h
  · cases h
def sy_uM (P : List px_M) (Wr : sy_Wr) (D : Nat) (S : sy_S) (z : Nat × List sy_A × List sy_A) : List sy_Co → Option (List sy_S)
  | [] => none
  | C :: r => px_or (if z.1 = C.1 then
      let u := C.2.1.2.2.2.foldl (sy_unF S.1.1 S.1.2.2.2) (sy_unP ([], []) C.2.2.1 z.2.1)
      sy_tryC P Wr D S z (sy_fσ C.2.1.1 u) (sy_fσL C.2.1.2.1 u) C else none) (sy_uM P Wr D S z r)
theorem sy_uM_ok {D : Nat} {z : Nat × List sy_A × List sy_A} (hD : D ≤ x.2.2.2.2.2.2) (hM : q.1[S.2.1.1]? = some M) (hq : px_look M.2.1 S.2.1.2.1 = some (i, len)) (hz : sy_cl x.1 q.2.1 x.2.2.1 i len M.2.2 S.2.1.2.2.2 = some z) : ∀ Cs : List sy_Co, (∀ C ∈ Cs, sy_Met x.1 x.2.1 x.2.2.1 q.2.1 x.2.2.2.2.1 C) → sy_uM x.2.2.1 q.2.2.1 D S z Cs = some l → sy_S1 x q S l
  | [], _, h => by cases h
  | C :: r, hC, h => by
    unfold sy_uM at h
    rcases px_or_some h with h | h
    · split at h
      · exact sy_tryC_ok (hC C List.mem_cons_self) hD hM hq hz h
      · cases h
    · exact sy_uM_ok hD hM hq hz r (fun C' h' => hC C' (List.mem_cons_of_mem _ h')) h
/-- one step of any sort -/
def sy_suc (cl : List vw_C) (lt : List (List Int32)) (P : List px_M) (A : List sy_Ce) (Wr : sy_Wr) (Cs : List sy_Co) (D : Nat) (S : sy_S) : Option (List sy_S) := match P[S.2.1.1]? with
  | none => none
  | some M => (match px_look M.2.1 S.2.1.2.1 with
    | none => none
    | some (i, len) => px_or (sy_u1 M i len S) (px_or (sy_uB i len S) (px_or (sy_uR A M i len S) (px_or (sy_uW cl A Wr M i len S) (px_or (sy_uK lt A M i len S) (px_or (sy_uA i len S) (px_or (sy_uV M i len S) (px_or (sy_uX D M i len S) (px_or (sy_uL lt A Wr M i len S) (px_or (sy_uY A Wr D M i len S) (match sy_cl cl A P i len M.2.2 S.2.1.2.2.2 with
      | some z => if Cs.any (fun C => C.1 == z.1) = true then sy_uM P Wr D S z Cs else sy_uC cl P A D M i len S
      | none => none)))))))))))
theorem sy_suc_ok {D : Nat} {Cs : List sy_Co} (hCs : ∀ C ∈ Cs, sy_Met x.1 x.2.1 x.2.2.1 q.2.1 x.2.2.2.2.1 C) (hD : D ≤ x.2.2.2.2.2.2) (hP : q.1 = x.2.2.1) (h : sy_suc x.1 x.2.1 x.2.2.1 q.2.1 q.2.2.1 Cs D S = some l) : sy_S1 x q S l := by
  unfold sy_suc at h
  split at h
  · cases h
  · rename_i M hM
    rw [← hP] at hM
    split at h
    · cases h
    · rename_i i len hq
      rcases px_or_some h with h | h
      · exact sy_u1_ok hM hq h
      rcases px_or_some h with h | h
      · exact sy_uB_ok hM hq h
      rcases px_or_some h with h | h
      · exact sy_uR_ok hM hq h
      rcases px_or_some h with h | h
      · exact sy_uW_ok hM hq h
      rcases px_or_some h with h | h
      · exact sy_uK_ok hM hq h
      rcases px_or_some h with h | h
      · exact sy_uA_ok hM hq h
      rcases px_or_some h with h | h
      · exact sy_uV_ok hM hq h
      rcases px_or_some h with h | h
      · exact sy_uX_ok hD hM hq h
      rcases px_or_some h with h | h
      · exact sy_uL_ok hM hq h
      rcases px_or_some h with h | h
      · exact sy_uY_ok hD hM hq h
      split at h
      · rename_i z hz
        split at h
        · exact sy_uM_ok hD hM hq hz Cs hCs h
        · exact sy_uC_ok hD hP hM hq h
      · cases h
/-- a state that fits one of the cuts, or ends by one of the ends -/
def sy_idσ (N0 : Nat) : List (Nat × sy_L) := (List.range N0).map (fun i => (i, sy_x i))
def sy_atC (N0 : Nat) (m : sy_L) (S : sy_S) (c : sy_Cut) : Bool := decide (S.2.1.2.1 = c.1) && (let u := c.2.1.2.2.2.foldl (sy_unF S.1.1 S.1.2.2.2) (sy_unL S.2.1.2.2.1 (sy_idσ N0, []) c.2.2.1)
  sy_fitC N0 S c (sy_fσ c.2.1.1 u) (sy_fσL c.2.1.2.1 u) m)
def sy_atP (N0 : Nat) (g : sy_G) (v : Option sy_A) (p : sy_Po) : Bool := let u := p.1.2.2.2.foldl (sy_unF g.1 g.2.2.2) (match v, p.2 with
    | some a, some b => sy_unA (sy_idσ N0, []) b a
    | _, _ => (sy_idσ N0, []))
  sy_fitP N0 g v (sy_fσ p.1.1 u) (sy_fσL p.1.2.1 u) p
/-- none: go on; true: fits -/
def sy_halt (P : List px_M) (C : sy_Co) (cuts : List sy_Cut) (m : sy_L) (S : sy_S) : Option Bool := match S.2.2 with
  | _ :: _ => none
  | [] => if S.2.1.2.2.2 = [] ∧ cuts.any (fun c => c.1 == S.2.1.2.1) = true ∧ S.2.1.1 = C.1 then some (cuts.any (sy_atC C.2.1.1.length m S)) else (match P[S.2.1.1]? with
    | some M => (match px_look M.2.1 S.2.1.2.1 with
      | some (i, len) => (match sy_rt S.1.1 i len M.1.2.2.2.1 S.2.1.2.2.2 with
        | some v => some (C.2.2.2.2.2.any (sy_atP C.2.1.1.length S.1 v))
        | none => none)
      | none => none)
    | none => none)
theorem sy_halt_ok {cuts : List sy_Cut} {C : sy_Co} {ρ0 : Nat → Int} {m : sy_L} (hMC : x.2.2.1[C.1]? = some M) (hI : sy_I x q.2.1 q.2.2.1 q.2.2.2.1 ρ0 C.2.1.1.length M cuts (sy_e q.2.2.2.2.1 m)) (hN : C.2.1.1.length ≤ q.2.2.2.2.2 ∧ ∀ i, i < C.2.1.1.length → q.2.2.2.2.1 i = ρ0 i) (hmw : sy_wl q.2.2.2.2.2 m = true) (hP : q.1 = x.2.2.1) (hK : x.2.2.2.2.2.1 = sy_K q.2.1 C q.2.2.2.1 ρ0) (hWr : q.2.2.1 = C.2.2.2.1) (h : sy_halt x.2.2.1 C cuts m S = some true) : sy_Good x q S := by
  unfold sy_halt at h
  split at h
  · cases h
  · rename_i hfs
    split at h
    · rename_i hc
      obtain ⟨c, hcc, h1⟩ := List.any_eq_true.mp (Option.some.inj h)
      unfold sy_atC at h1
      rw [Bool.and_eq_true] at h1
      exact sy_goCut hI hN hmw (by rw [hP, hc.2.2]; exact hMC) hcc h1.2
    · split at h
      · rename_i M2 hM2
        split at h
        · rename_i i len hq
          split at h
          · rename_i v hv
            obtain ⟨p, hp, h1⟩ := List.any_eq_true.mp (Option.some.inj h)
            exact sy_goPost hK hWr hN (by rw [hP]; exact hM2) hq hv hfs hp h1
          · cases h
        · cases h
      · cases h
/-- all states of a list, with fuel -/
def sy_all (cl : List vw_C) (lt : List (List Int32)) (P : List px_M) (A : List sy_Ce) (Cs : List sy_Co) (C : sy_Co) (cuts : List sy_Cut) (m : sy_L) : Nat → List sy_S → Bool
  | 0, _ => false
  | _ + 1, [] => true
  | n + 1, S :: r => match sy_halt P C cuts m S with
    | some b => b && sy_all cl lt P A Cs C cuts m n r
    | none => (match sy_suc cl lt P A C.2.2.2.1 Cs C.2.2.2.2.1 S with
      | some l => sy_all cl lt P A Cs C cuts m n (l ++ r)
      | none => false)
theorem sy_all_ok {cuts : List sy_Cut} {Cs : List sy_Co} {C : sy_Co} {ρ0 : Nat → Int} {m : sy_L} (hCs : ∀ C ∈ Cs, sy_Met x.1 x.2.1 x.2.2.1 q.2.1 x.2.2.2.2.1 C) (hD : C.2.2.2.2.1 ≤ x.2.2.2.2.2.2) (hMC : x.2.2.1[C.1]? = some M) (hI : sy_I x q.2.1 q.2.2.1 q.2.2.2.1 ρ0 C.2.1.1.length M cuts (sy_e q.2.2.2.2.1 m)) (hN : C.2.1.1.length ≤ q.2.2.2.2.2 ∧ ∀ i, i < C.2.1.1.length → q.2.2.2.2.1 i = ρ0 i) (hmw : sy_wl q.2.2.2.2.2 m = true) (hP : q.1 = x.2.2.1) (hK : x.2.2.2.2.2.1 = sy_K q.2.1 C q.2.2.2.1 ρ0) (hWr : q.2.2.1 = C.2.2.2.1) : ∀ (n : Nat) (l : List sy_S), sy_all x.1 x.2.1 x.2.2.1 q.2.1 Cs C cuts m n l = true → ∀ S ∈ l, sy_Good x q S
  | 0, l, h => by cases h
  | n + 1, [], _ => fun S hS => absurd hS List.not_mem_nil
  | n + 1, S0 :: r, h => by
    unfold sy_all at h
    intro S hS
    split at h
    · rename_i b hb
      rw [Bool.and_eq_true] at h
      rw [h.1] at hb
      rcases List.mem_cons.mp hS with rfl | hS
      · exact sy_halt_ok hMC hI hN hmw hP hK hWr hb
      · exact sy_all_ok hCs hD hMC hI hN hmw hP hK hWr n r h.2 S hS
    · split at h
      · rename_i l0 hl
        have ih := sy_all_ok hCs hD hMC hI hN hmw hP hK hWr n (l0 ++ r) h
        rcases List.mem_cons.mp hS with rfl | hS
        · rw [← hWr] at hl
          exact sy_suc_ok hCs hD hP hl (fun S' h' => ih S' (List.mem_append_left _ h'))
        · exact ih S (List.mem_append_right _ hS)
      · cases h
end CK
/-- a cut is checked: its first step, and all that comes of it -/
def sy_ckC (cl : List vw_C) (lt : List (List Int32)) (P : List px_M) (A : List sy_Ce) (Cs : List sy_Co) (C : sy_Co) (cuts : List sy_Cut) (n : Nat) (c : sy_Cut) : Bool := sy_wl c.2.1.1.length c.2.2.2 && (match sy_suc cl lt P A C.2.2.2.1 Cs C.2.2.2.2.1 (sy_cS C.1 c) with
  | some l => sy_all cl lt P A Cs C cuts c.2.2.2 n l
  | none => false)
/-- a contract holds, if its cuts are checked -/
theorem sy_met2 {cl : List vw_C} {lt : List (List Int32)} {P : List px_M} {A : List sy_Ce} {b : Nat × Nat} {Cs : List sy_Co} {C : sy_Co} {cuts : List sy_Cut} {m0 : sy_L} (n : Nat) (hCs : ∀ C ∈ Cs, sy_Met cl lt P A b C) (h0 : cuts.head? = some (0, C.2.1, sy_args 0 C.2.2.1, m0)) (hm0 : sy_pos C.2.1.1 C.2.1.2.2.1 m0 = true) (hc : cuts.all (sy_ckC cl lt P A Cs C cuts n) = true) : sy_Met cl lt P A b C := by
  refine sy_met (PM := P) (cuts := cuts) (fun _ _ h => h) (List.mem_of_mem_head? h0) hm0 (fun c hcc M hM d w0 ρ0 ρs hd hr hI => ?_)
  have h1 := List.all_eq_true.mp hc c hcc
  unfold sy_ckC at h1
  rw [Bool.and_eq_true] at h1
  obtain ⟨h2, h3⟩ := h1
  split at h3
  · rename_i l hl
    have ih := sy_all_ok (x := (cl, lt, P, none, b, sy_K A C w0 ρ0, d)) (q := (P, A, C.2.2.2.1, w0, ρs, c.2.1.1.length)) (ρ0 := ρ0) hCs hd hM hI hr h2 rfl rfl rfl n l h3
    exact sy_suc_ok (x := (cl, lt, P, none, b, sy_K A C w0 ρ0, d)) (q := (P, A, C.2.2.2.1, w0, ρs, c.2.1.1.length)) hCs hd rfl hl ih
  · cases h3
end
section
/-! SMALL CONTRACTS -/
def hb_C173 : sy_Co := (173, ([sy_full, sy_full, sy_full], 0, [], []), [.inl (sy_x 0), .inl (sy_x 1), .inl (sy_x 2)], [], 0, [(([sy_full, sy_full, sy_full, (0, 1)], 0, [], []), some (.inl (sy_x 3)))])
set_option maxRecDepth 100000 in
theorem hb_C173_ok : sy_Met hb_cl hb_lt hb_P [] (0, 0) hb_C173 := sy_met2 1000 (Cs := []) (cuts := [(0, hb_C173.2.1, sy_args 0 hb_C173.2.2.1, sy_c 0)]) (m0 := sy_c 0) (by intro C h; cases h) rfl rfl (by decide +kernel)
def hb_C200 : sy_Co := (200, ([(0, 1073741823)], 0, [], []), [.inl (sy_x 0)], [], 0, [(([(0, 1073741823), (0, 30)], 0, [], []), some (.inl (sy_x 1)))])
set_option maxRecDepth 100000 in
theorem hb_C200_ok : sy_Met hb_cl hb_lt hb_P [] (0, 0) hb_C200 := sy_met2 1000 (Cs := []) (cuts := [(0, hb_C200.2.1, sy_args 0 hb_C200.2.2.1, sy_c 40), (4, ([(0, 1073741823), (0, 30), (0, 30)], 0, [(0, [(1, -1), (2, 1)])], []), [(0, .inl (sy_x 0)), (1, .inl (sy_x 1)), (2, .inl (sy_x 2))], (30, [(2, -1)]))]) (m0 := sy_c 40) (by intro C h; cases h) rfl rfl (by decide +kernel)
end
section
/-! A SHAPE IS CHECKED BY PROGRAM -/
def sy_inB (q : Int × Int) (x : Int32) : Bool := decide (q.1 ≤ x.toInt) && decide (x.toInt ≤ q.2)
theorem sy_inB_ok {q : Int × Int} {x : Int32} (h : sy_inB q x = true) : sy_in q x := by
  unfold sy_inB at h
  simp only [Bool.and_eq_true, decide_eq_true_eq] at h
  exact h
def sy_aI (sg : sy_Sg) : Nat → List Int32 → Bool
  | _, [] => true
  | n, x :: r => sy_inB (sy_seg sg n) x && sy_aI sg (n + 1) r
theorem sy_aI_ok {sg : sy_Sg} : ∀ (l : List Int32) (n : Nat), sy_aI sg n l = true → ∀ (i : Nat) (x : Int32), l[i]? = some x → sy_in (sy_seg sg (n + i)) x
  | [], _, _, i, x, hx => by simp at hx
  | y :: r, n, h, i, x, hx => by
    unfold sy_aI at h
    rw [Bool.and_eq_true] at h
    cases i with
    | zero =>
      rw [List.getElem?_cons_zero] at hx
      cases hx
      exact sy_inB_ok h.1
    | succ i =>
      rw [List.getElem?_cons_succ] at hx
      have := sy_aI_ok r (n + 1) h.2 i x hx
      rw [show n + 1 + i = n + (i + 1) by omega] at this
      exact this
def sy_sl : List ((Int × Int) ⊕ Nat) → List Value → Bool
  | [], [] => true
  | .inl r :: s, .int x :: t => sy_inB r x && sy_sl s t
  | .inr a :: s, .ref b :: t => decide (a = b) && sy_sl s t
  | _, _ => false
theorem sy_sl_ok : ∀ (s : List ((Int × Int) ⊕ Nat)) (t : List Value), sy_sl s t = true → t.length = s.length ∧ (∀ (i : Nat) (r : Int × Int), s[i]? = some (.inl r) → ∃ x, t[i]? = some (.int x) ∧ sy_in r x) ∧ ∀ (i a : Nat), s[i]? = some (.inr a) → t[i]? = some (.ref a)
  | [], [], _ => ⟨rfl, fun i r h => by simp at h, fun i a h => by simp at h⟩
  | .inl r :: s, .int x :: t, h => by
    unfold sy_sl at h
    rw [Bool.and_eq_true] at h
    obtain ⟨h1, h2, h3⟩ := sy_sl_ok s t h.2
    refine ⟨by rw [List.length_cons, List.length_cons, h1], fun i r2 hr => ?_, fun i a ha => ?_⟩
    · cases i with
      | zero =>
        rw [List.getElem?_cons_zero] at hr
        cases hr
        exact ⟨x, rfl, sy_inB_ok h.1⟩
      | succ i =>
        rw [List.getElem?_cons_succ] at hr ⊢
        exact h2 i r2 hr
    · cases i with
      | zero =>
        rw [List.getElem?_cons_zero] at ha
        cases ha
      | succ i =>
        rw [List.getElem?_cons_succ] at ha ⊢
        exact h3 i a ha
  | .inr b :: s, .ref c :: t, h => by
    unfold sy_sl at h
    rw [Bool.and_eq_true] at h
    obtain ⟨h1, h2, h3⟩ := sy_sl_ok s t h.2
    have hbc : b = c := of_decide_eq_true h.1
    refine ⟨by rw [List.length_cons, List.length_cons, h1], fun i r2 hr => ?_, fun i a ha => ?_⟩
    · cases i with
      | zero =>
        rw [List.getElem?_cons_zero] at hr
        cases hr
      | succ i =>
        rw [List.getElem?_cons_succ] at hr ⊢
        exact h2 i r2 hr
    · cases i with
      | zero =>
        rw [List.getElem?_cons_zero] at ha
        cases ha
        rw [List.getElem?_cons_zero, hbc]
      | succ i =>
        rw [List.getElem?_cons_succ] at ha ⊢
        exact h3 i a ha
  | [], _ :: _, h => by simp [sy_sl] at h
  | .inl _ :: _, [], h => by simp [sy_sl] at h
  | .inr _ :: _, [], h => by simp [sy_sl] at h
  | .inl _ :: _, .ref _ :: _, h => by simp [sy_sl] at h
  | .inl _ :: _, .long _ :: _, h => by simp [sy_sl] at h
  | .inl _ :: _, .null :: _, h => by simp [sy_sl] at h
  | .inr _ :: _, .int _ :: _, h => by simp [sy_sl] at h
  | .inr _ :: _, .long _ :: _, h => by simp [sy_sl] at h
  | .inr _ :: _, .null :: _, h => by simp [sy_sl] at h
  | .inl _ :: _, .float _ :: _, h => by simp [sy_sl] at h
  | .inl _ :: _, .double _ :: _, h => by simp [sy_sl] at h
  | .inr _ :: _, .float _ :: _, h => by simp [sy_sl] at h
  | .inr _ :: _, .double _ :: _, h => by simp [sy_sl] at h
def sy_ceB (a : sy_Ce) (c : px_E) : Bool := match a, c with
  | .inl (n, sg), .inl l => decide (l.length = n) && sy_aI sg 0 l
  | .inr (.inl n), .inr (.inl l) => decide (l.length = n)
  | .inr (.inr (k, sl)), .inr (.inr o) => decide (o.1 = k) && sy_sl sl o.2
  | _, _ => false
theorem sy_ceB_ok {a : sy_Ce} {c : px_E} (h : sy_ceB a c = true) : sy_ce a c := by
  unfold sy_ceB at h
  unfold sy_ce
  split at h
  · rw [Bool.and_eq_true] at h
    refine ⟨of_decide_eq_true h.1, fun i x hx => ?_⟩
    have := sy_aI_ok _ 0 h.2 i x hx
    rw [Nat.zero_add] at this
    exact this
  · exact of_decide_eq_true h
  · rw [Bool.and_eq_true] at h
    obtain ⟨h1, h2, h3⟩ := sy_sl_ok _ _ h.2
    exact ⟨of_decide_eq_true h.1, h1, h2, h3⟩
  · cases h
def sy_WB : List sy_Ce → px_W → Bool
  | [], [] => true
  | a :: r, c :: s => sy_ceB a c && sy_WB r s
  | _, _ => false
theorem sy_WB_ok : ∀ {A : List sy_Ce} {w : px_W}, sy_WB A w = true → sy_W A w
  | [], [], _ => ⟨rfl, fun k a h => by simp at h⟩
  | a :: r, c :: s, h => by
    unfold sy_WB at h
    rw [Bool.and_eq_true] at h
    obtain ⟨h1, h2⟩ := sy_WB_ok h.2
    refine ⟨by rw [List.length_cons, List.length_cons, h1], fun k a2 hk => ?_⟩
    cases k with
    | zero =>
      rw [List.getElem?_cons_zero] at hk
      cases hk
      exact ⟨c, rfl, sy_ceB_ok h.1⟩
    | succ k =>
      rw [List.getElem?_cons_succ] at hk ⊢
      exact h2 k a2 hk
  | [], _ :: _, h => by simp [sy_WB] at h
  | _ :: _, [], h => by simp [sy_WB] at h
end
section
/-! THE CONSTRUCTORS (a shape without ranges, as a try) -/
def hb_A0 : List sy_Ce := [.inr (.inr (11, [.inr 65, .inr 74, .inr 79, .inr 93, .inr 103, .inr 108, .inr 116, .inr 123, .inr 132, .inr 137, .inr 151, .inr 161, .inr 166, .inr 174, .inl (0, 1), .inr 181, .inr 190, .inr 201, .inr 206, .inr 213])), .inr (.inr (3, [.inl sy_full, .inl sy_full, .inr 66, .inr 67, .inr 68, .inr 69, .inr 70, .inr 71, .inl sy_full, .inl sy_full, .inr 72, .inr 73])), .inl (8, []), .inl (8, []), .inl (8, []), .inl (8, []), .inl (7, []), .inl (7, []), .inl (8, []), .inl (8, []), .inr (.inr (9, [.inl sy_full, .inl sy_full, .inl sy_full, .inl (0, 1), .inr 75, .inr 76, .inr 77, .inr 78])), .inl (16, []), .inl (16, []), .inl (16, []), .inl (16, []), .inr (.inr (1, [.inl sy_full, .inr 80, .inr 81, .inr 82, .inr 83, .inl sy_full, .inr 84, .inr 85, .inr 86, .inr 87, .inl sy_full, .inr 88, .inr 89, .inr 90, .inr 91, .inr 92])), .inl (12, []), .inl (12, []), .inl (12, []), .inl (12, []), .inl (10, []), .inl (10, []), .inl (10, []), .inl (10, []), .inl (8, []), .inl (8, []), .inl (8, []), .inl (8, []), .inl (8, []), .inr (.inr (7, [.inl sy_full, .inl sy_full, .inr 94, .inr 95, .inr 96, .inr 97, .inr 98, .inl sy_full, .inr 99, .inl sy_full, .inr 100, .inr 101, .inr 102])), .inl (6, []), .inl (6, []), .inl (6, []), .inl (6, []), .inl (6, []), .inl (10, []), .inl (8, []), .inl (8, []), .inl (8, []), .inr (.inr (10, [.inr 104, .inl sy_full, .inr 105, .inr 106, .inr 107])), .inl (3, []), .inl (12, []), .inl (12, []), .inl (12, []), .inr (.inr (6, [.inl sy_full, .inr 109, .inr 110, .inr 111, .inr 112, .inr 113, .inr 114, .inr 115])), .inl (7, []), .inl (7, []), .inl (56, []), .inl (56, []), .inl (56, []), .inl (448, []), .inl (7, []), .inr (.inr (4, [.inl sy_full, .inl sy_full, .inl sy_full, .inr 117, .inr 118, .inr 119, .inr 120, .inr 121, .inr 122, .inl (0, 1), .inl sy_full])), .inl (7, []), .inl (7, []), .inl (7, []), .inl (7, []), .inl (8, []), .inl (8, []), .inr (.inr (3, [.inl sy_full, .inl sy_full, .inr 124, .inr 125, .inr 126, .inr 127, .inr 128, .inr 129, .inl sy_full, .inl sy_full, .inr 130, .inr 131])), .inl (8, []), .inl (8, []), .inl (8, []), .inl (8, []), .inl (7, []), .inl (7, []), .inl (8, []), .inl (8, []), .inr (.inr (9, [.inl sy_full, .inl sy_full, .inl sy_full, .inl (0, 1), .inr 133, .inr 134, .inr 135, .inr 136])), .inl (16, []), .inl (16, []), .inl (16, []), .inl (16, []), .inr (.inr (1, [.inl sy_full, .inr 138, .inr 139, .inr 140, .inr 141, .inl sy_full, .inr 142, .inr 143, .inr 144, .inr 145, .inl sy_full, .inr 146, .inr 147, .inr 148, .inr 149, .inr 150])), .inl (12, []), .inl (12, []), .inl (12, []), .inl (12, []), .inl (10, []), .inl (10, []), .inl (10, []), .inl (10, []), .inl (8, []), .inl (8, []), .inl (8, []), .inl (8, []), .inl (8, []), .inr (.inr (7, [.inl sy_full, .inl sy_full, .inr 152, .inr 153, .inr 154, .inr 155, .inr 156, .inl sy_full, .inr 157, .inl sy_full, .inr 158, .inr 159, .inr 160])), .inl (6, []), .inl (6, []), .inl (6, []), .inl (6, []), .inl (6, []), .inl (10, []), .inl (8, []), .inl (8, []), .inl (8, []), .inr (.inr (10, [.inr 162, .inl sy_full, .inr 163, .inr 164, .inr 165])), .inl (3, []), .inl (12, []), .inl (12, []), .inl (12, []), .inr (.inr (6, [.inl sy_full, .inr 167, .inr 168, .inr 169, .inr 170, .inr 171, .inr 172, .inr 173])), .inl (7, []), .inl (7, []), .inl (56, []), .inl (56, []), .inl (56, []), .inl (448, []), .inl (7, []), .inr (.inr (4, [.inl sy_full, .inl sy_full, .inl sy_full, .inr 175, .inr 176, .inr 177, .inr 178, .inr 179, .inr 180, .inl (0, 1), .inl sy_full])), .inl (7, []), .inl (7, []), .inl (7, []), .inl (7, []), .inl (8, []), .inl (8, []), .inr (.inr (3, [.inl sy_full, .inl sy_full, .inr 182, .inr 183, .inr 184, .inr 185, .inr 186, .inr 187, .inl sy_full, .inl sy_full, .inr 188, .inr 189])), .inl (8, []), .inl (8, []), .inl (8, []), .inl (8, []), .inl (7, []), .inl (7, []), .inl (8, []), .inl (8, []), .inr (.inr (8, [.inl sy_full, .inr 191, .inr 192, .inl sy_full, .inr 193, .inl sy_full, .inl sy_full, .inr 194, .inr 195, .inr 196, .inr 197, .inr 198, .inr 199, .inr 200, .inl sy_full, .inl sy_full, .inl sy_full])), .inl (240, []), .inl (10, []), .inl (6, []), .inl (10, []), .inl (8, []), .inl (8, []), .inl (80, []), .inl (256, []), .inl (256, []), .inl (6, []), .inr (.inr (5, [.inl sy_full, .inr 202, .inr 203, .inr 204, .inr 205, .inl sy_full, .inl sy_full, .inl sy_full])), .inl (200, []), .inl (201, []), .inl (201, []), .inl (201, []), .inr (.inr (2, [.inr 207, .inr 208, .inr 209, .inr 210, .inr 211, .inr 212])), .inl (4, []), .inl (4, []), .inl (4, []), .inl (4, []), .inl (4, []), .inr (.inl 160), .inr (.inr (0, [.inl sy_full, .inr 214, .inl (0, 1), .inl sy_full, .inl sy_full, .inl sy_full])), .inl (30, []), .inr (.inr (12, [.inr 216, .inr 217, .inl (0, 1), .inr 218, .inl sy_full, .inr 219, .inr 220, .inr 221, .inr 222, .inl sy_full, .inl sy_full, .inl sy_full, .inl sy_full, .inr 223, .inr 224, .inr 225, .inr 226, .inr 227, .inr 228, .inl sy_full, .inr 229, .inr 230, .inr 231, .inr 232, .inl sy_full, .inl sy_full, .inl sy_full, .inl sy_full, .inl sy_full, .inl sy_full, .inl sy_full, .inl sy_full, .inl (0, 1), .inr 233, .inr 234, .inl sy_full, .inl sy_full, .inl sy_full, .inr 235, .inl (0, 1), .inr 236, .inr 237, .inr 238, .inr 239, .inr 240, .inr 241, .inr 242, .inl sy_full, .inl sy_full, .inl sy_full, .inl sy_full, .inl (0, 1)])), .inl (1580, []), .inl (1580, []), .inl (200, []), .inl (8, []), .inl (8, []), .inl (8, []), .inl (8, []), .inl (8, []), .inl (8, []), .inl (10, []), .inl (10, []), .inl (8, []), .inl (240, []), .inl (6, []), .inl (6, []), .inl (6, []), .inl (82, []), .inl (3, []), .inl (8, []), .inl (3, []), .inl (4, []), .inl (8, []), .inl (8, []), .inl (320, []), .inl (4, []), .inl (4, []), .inl (30, [])]
def hb_ob (ci : Nat) : px_E := .inr (.inr (ci, match hb_cl[ci]? with
  | some k => (List.range k.2.2).map (fun j => defaultValue (px_ty k.2.1 j))
  | none => []))
def hb_ct (A : List sy_Ce) : Bool := match px_exec hb_cl hb_lt hb_P 5000 39 none hb_m120 0 [(0, .ref 64)] [] [hb_ob 11] (599999, 7302000) with
  | some (none, w, b) => (match px_exec hb_cl hb_lt hb_P 5000 39 none hb_m181 0 [(0, .ref (64 + w.length))] [] (w ++ [hb_ob 12]) b with
    | some (none, w2, b2) => sy_WB A w2 && decide (1000 ≤ b2.1)
    | _ => false)
  | _ => false
set_option maxRecDepth 100000 in
theorem hb_ct_ok : hb_ct hb_A0 = true := by decide +kernel
end
section
/-! keep of the reference; keptWords.copyFrom(words), in place of more -/
def hb_C292 : sy_Co := (292, ([], 0, [], []), [.inr (.inl 215)], [(153, 0, 1580), (151, 2, 3)], 0, [(([], 0, [], []), some (.inl (sy_c 1)))])
set_option maxRecDepth 100000 in
theorem hb_C292_ok : sy_Met hb_cl hb_lt hb_P hb_A0 (0, 0) hb_C292 := sy_met2 1000 (Cs := []) (cuts := [(0, hb_C292.2.1, sy_args 0 hb_C292.2.2.1, sy_c 2000), (2, ([(0, 1580)], 0, [], []), [(0, .inr (.inl 215)), (1, .inl (sy_x 0))], (1580, [(0, -1)]))]) (m0 := sy_c 2000) (by intro C h; cases h) rfl rfl (by decide +kernel)
def hb_C115 : sy_Co := (115, ([], 0, [], []), [.inr (.inl 161), .inr (.inl 103)], [(97, 0, 5), (98, 0, 3), (99, 0, 12), (100, 0, 12), (101, 0, 12)], 2, [(([], 0, [], []), none)])
set_option maxRecDepth 100000 in
theorem hb_C115_ok : sy_Met hb_cl hb_lt hb_P hb_A0 (0, 0) hb_C115 := sy_met2 3000 (Cs := []) (cuts := [(0, hb_C115.2.1, sy_args 0 hb_C115.2.2.1, sy_c 0)]) (m0 := sy_c 0) (by intro C h; cases h) rfl rfl (by decide +kernel)
end
section
/-! A CONTRACT PRINTED BY PROGRAM, AND ONE THAT USES IT -/
def hb_T200 : sy_Co := (200, ([(0, 1073741823)], 0, [], []), [.inl (0, [(0, 1)])], [], 0, [(([(0, 1073741823), (0, 30)], 0, [], []), some (.inl (0, [(1, 1)])))])
set_option maxRecDepth 100000 in
theorem hb_T200_ok : sy_Met hb_cl hb_lt hb_P hb_A0 (0, 0) hb_T200 := sy_met2 1000 (Cs := []) (cuts := [(0, hb_T200.2.1, sy_args 0 hb_T200.2.2.1, (40, [])), (4, ([(0, 1073741823), (0, 30), (0, 30)], 0, [(0, [(1, (-1)), (2, 1)])], []), [(0, .inl (0, [(0, 1)])), (1, .inl (0, [(1, 1)])), (2, .inl (0, [(2, 1)]))], (30, [(2, (-1))]))]) (m0 := (40, [])) (by intro C h; cases h) rfl rfl (by decide +kernel)
end
