section
-- ===== PART A: goes FIRST, ahead of the names: the tables' words, and 'selects' of the private methods out of them =====
/-- a private method of a class that the tables say can be made, by its rows of tables_1 -/
def lw_okq (q : MethodName × Nat) : Prop := (q.1.cls ≠ "java/lang/invoke/MethodHandle" ∧ q.1.cls ≠ "java/lang/invoke/VarHandle") ∧ Cond.instantiable q.1.cls q.2 ∈ tables_1 ∧ Cond.privateMethod q.1 ∈ tables_1 ∧ Cond.instanceMethod q.1 ∈ tables_1
theorem lw_p0 : lw_okq (⟨"HalfBoats$Hull", "findGains", "()V"⟩, 12) := ⟨⟨by decide +kernel, by decide +kernel⟩, List.mem_of_getElem? (i := 30) (by decide +kernel), List.mem_of_getElem? (i := 570) (by decide +kernel), List.mem_of_getElem? (i := 571) (by decide +kernel)⟩
theorem lw_p1 : lw_okq (⟨"HalfBoats$Hull", "passWall", "(I)V"⟩, 12) := ⟨⟨by decide +kernel, by decide +kernel⟩, List.mem_of_getElem? (i := 30) (by decide +kernel), List.mem_of_getElem? (i := 588) (by decide +kernel), List.mem_of_getElem? (i := 589) (by decide +kernel)⟩
theorem lw_p2 : lw_okq (⟨"HalfBoats$Hull", "takeGains", "()Z"⟩, 12) := ⟨⟨by decide +kernel, by decide +kernel⟩, List.mem_of_getElem? (i := 30) (by decide +kernel), List.mem_of_getElem? (i := 592) (by decide +kernel), List.mem_of_getElem? (i := 593) (by decide +kernel)⟩
theorem lw_p3 : lw_okq (⟨"HalfBoats$Hull", "weigh", "()V"⟩, 12) := ⟨⟨by decide +kernel, by decide +kernel⟩, List.mem_of_getElem? (i := 30) (by decide +kernel), List.mem_of_getElem? (i := 596) (by decide +kernel), List.mem_of_getElem? (i := 597) (by decide +kernel)⟩
theorem lw_p4 : lw_okq (⟨"HalfBoats$Soundings", "holds", "(LHalfBoats$Hull;II)Z"⟩, 8) := ⟨⟨by decide +kernel, by decide +kernel⟩, List.mem_of_getElem? (i := 82) (by decide +kernel), List.mem_of_getElem? (i := 672) (by decide +kernel), List.mem_of_getElem? (i := 673) (by decide +kernel)⟩
theorem lw_p5 : lw_okq (⟨"HalfBoats$Crowd", "walk", "(III)Z"⟩, 16) := ⟨⟨by decide +kernel, by decide +kernel⟩, List.mem_of_getElem? (i := 116) (by decide +kernel), List.mem_of_getElem? (i := 713) (by decide +kernel), List.mem_of_getElem? (i := 714) (by decide +kernel)⟩
theorem lw_p6 : lw_okq (⟨"HalfBoats$Seating", "findBoats", "()V"⟩, 17) := ⟨⟨by decide +kernel, by decide +kernel⟩, List.mem_of_getElem? (i := 345) (by decide +kernel), List.mem_of_getElem? (i := 738) (by decide +kernel), List.mem_of_getElem? (i := 739) (by decide +kernel)⟩
theorem lw_p7 : lw_okq (⟨"HalfBoats$Seating", "mostOfPair", "(III)I"⟩, 17) := ⟨⟨by decide +kernel, by decide +kernel⟩, List.mem_of_getElem? (i := 345) (by decide +kernel), List.mem_of_getElem? (i := 760) (by decide +kernel), List.mem_of_getElem? (i := 761) (by decide +kernel)⟩
theorem lw_p8 : lw_okq (⟨"HalfBoats$Seating", "takePair", "(III)V"⟩, 17) := ⟨⟨by decide +kernel, by decide +kernel⟩, List.mem_of_getElem? (i := 345) (by decide +kernel), List.mem_of_getElem? (i := 764) (by decide +kernel), List.mem_of_getElem? (i := 765) (by decide +kernel)⟩
theorem lw_p9 : lw_okq (⟨"HalfBoats$Seating", "isRight", "(I)Z"⟩, 17) := ⟨⟨by decide +kernel, by decide +kernel⟩, List.mem_of_getElem? (i := 345) (by decide +kernel), List.mem_of_getElem? (i := 784) (by decide +kernel), List.mem_of_getElem? (i := 785) (by decide +kernel)⟩
theorem lw_p10 : lw_okq (⟨"HalfBoats$Seating", "pickNext", "(II)V"⟩, 17) := ⟨⟨by decide +kernel, by decide +kernel⟩, List.mem_of_getElem? (i := 345) (by decide +kernel), List.mem_of_getElem? (i := 799) (by decide +kernel), List.mem_of_getElem? (i := 800) (by decide +kernel)⟩
theorem lw_p11 : lw_okq (⟨"HalfBoats$Sea", "isHeard", "(II)Z"⟩, 13) := ⟨⟨by decide +kernel, by decide +kernel⟩, List.mem_of_getElem? (i := 186) (by decide +kernel), List.mem_of_getElem? (i := 838) (by decide +kernel), List.mem_of_getElem? (i := 839) (by decide +kernel)⟩
theorem lw_p12 : lw_okq (⟨"HalfBoats$Sea", "farAt", "(II)I"⟩, 13) := ⟨⟨by decide +kernel, by decide +kernel⟩, List.mem_of_getElem? (i := 186) (by decide +kernel), List.mem_of_getElem? (i := 871) (by decide +kernel), List.mem_of_getElem? (i := 872) (by decide +kernel)⟩
theorem lw_p13 : lw_okq (⟨"HalfBoats$Reader", "scan", "()V"⟩, 8) := ⟨⟨by decide +kernel, by decide +kernel⟩, List.mem_of_getElem? (i := 408) (by decide +kernel), List.mem_of_getElem? (i := 936) (by decide +kernel), List.mem_of_getElem? (i := 937) (by decide +kernel)⟩
theorem lw_p14 : lw_okq (⟨"HalfBoats$Reader", "wordAt", "(II)I"⟩, 8) := ⟨⟨by decide +kernel, by decide +kernel⟩, List.mem_of_getElem? (i := 408) (by decide +kernel), List.mem_of_getElem? (i := 943) (by decide +kernel), List.mem_of_getElem? (i := 944) (by decide +kernel)⟩
theorem lw_p15 : lw_okq (⟨"HalfBoats$Reader", "is", "(Ljava/lang/String;I)Z"⟩, 8) := ⟨⟨by decide +kernel, by decide +kernel⟩, List.mem_of_getElem? (i := 408) (by decide +kernel), List.mem_of_getElem? (i := 948) (by decide +kernel), List.mem_of_getElem? (i := 949) (by decide +kernel)⟩
def lw_privs_1 : List (MethodName × Nat) := [(⟨"HalfBoats$Hull", "findGains", "()V"⟩, 12), (⟨"HalfBoats$Hull", "passWall", "(I)V"⟩, 12), (⟨"HalfBoats$Hull", "takeGains", "()Z"⟩, 12), (⟨"HalfBoats$Hull", "weigh", "()V"⟩, 12), (⟨"HalfBoats$Soundings", "holds", "(LHalfBoats$Hull;II)Z"⟩, 8), (⟨"HalfBoats$Crowd", "walk", "(III)Z"⟩, 16), (⟨"HalfBoats$Seating", "findBoats", "()V"⟩, 17), (⟨"HalfBoats$Seating", "mostOfPair", "(III)I"⟩, 17), (⟨"HalfBoats$Seating", "takePair", "(III)V"⟩, 17), (⟨"HalfBoats$Seating", "isRight", "(I)Z"⟩, 17), (⟨"HalfBoats$Seating", "pickNext", "(II)V"⟩, 17), (⟨"HalfBoats$Sea", "isHeard", "(II)Z"⟩, 13), (⟨"HalfBoats$Sea", "farAt", "(II)I"⟩, 13), (⟨"HalfBoats$Reader", "scan", "()V"⟩, 8), (⟨"HalfBoats$Reader", "wordAt", "(II)I"⟩, 8), (⟨"HalfBoats$Reader", "is", "(Ljava/lang/String;I)Z"⟩, 8)]
theorem lw_r1 : ∀ q ∈ lw_privs_1, lw_okq q := List.forall_mem_cons.mpr ⟨lw_p0, List.forall_mem_cons.mpr ⟨lw_p1, List.forall_mem_cons.mpr ⟨lw_p2, List.forall_mem_cons.mpr ⟨lw_p3, List.forall_mem_cons.mpr ⟨lw_p4, List.forall_mem_cons.mpr ⟨lw_p5, List.forall_mem_cons.mpr ⟨lw_p6, List.forall_mem_cons.mpr ⟨lw_p7, List.forall_mem_cons.mpr ⟨lw_p8, List.forall_mem_cons.mpr ⟨lw_p9, List.forall_mem_cons.mpr ⟨lw_p10, List.forall_mem_cons.mpr ⟨lw_p11, List.forall_mem_cons.mpr ⟨lw_p12, List.forall_mem_cons.mpr ⟨lw_p13, List.forall_mem_cons.mpr ⟨lw_p14, List.forall_mem_cons.mpr ⟨lw_p15, fun _ h => absurd h List.not_mem_nil⟩⟩⟩⟩⟩⟩⟩⟩⟩⟩⟩⟩⟩⟩⟩⟩
theorem lw_p16 : lw_okq (⟨"HalfBoats$Reader", "addToken", "(III)V"⟩, 8) := ⟨⟨by decide +kernel, by decide +kernel⟩, List.mem_of_getElem? (i := 408) (by decide +kernel), List.mem_of_getElem? (i := 1015) (by decide +kernel), List.mem_of_getElem? (i := 1016) (by decide +kernel)⟩
theorem lw_p17 : lw_okq (⟨"HalfBoats$Reader", "numberAt", "(II)I"⟩, 8) := ⟨⟨by decide +kernel, by decide +kernel⟩, List.mem_of_getElem? (i := 408) (by decide +kernel), List.mem_of_getElem? (i := 1022) (by decide +kernel), List.mem_of_getElem? (i := 1023) (by decide +kernel)⟩
theorem lw_p18 : lw_okq (⟨"HalfBoats$Reader", "readSeats", "(LHalfBoats$Rules;)V"⟩, 8) := ⟨⟨by decide +kernel, by decide +kernel⟩, List.mem_of_getElem? (i := 408) (by decide +kernel), List.mem_of_getElem? (i := 1030) (by decide +kernel), List.mem_of_getElem? (i := 1031) (by decide +kernel)⟩
theorem lw_p19 : lw_okq (⟨"HalfBoats$Reader", "takeNumber", "(I)I"⟩, 8) := ⟨⟨by decide +kernel, by decide +kernel⟩, List.mem_of_getElem? (i := 408) (by decide +kernel), List.mem_of_getElem? (i := 1034) (by decide +kernel), List.mem_of_getElem? (i := 1035) (by decide +kernel)⟩
theorem lw_p20 : lw_okq (⟨"HalfBoats$Reader", "takeToken", "(I)Z"⟩, 8) := ⟨⟨by decide +kernel, by decide +kernel⟩, List.mem_of_getElem? (i := 408) (by decide +kernel), List.mem_of_getElem? (i := 1038) (by decide +kernel), List.mem_of_getElem? (i := 1039) (by decide +kernel)⟩
theorem lw_p21 : lw_okq (⟨"HalfBoats$Reader", "readFirst", "(LHalfBoats$Rules;)V"⟩, 8) := ⟨⟨by decide +kernel, by decide +kernel⟩, List.mem_of_getElem? (i := 408) (by decide +kernel), List.mem_of_getElem? (i := 1046) (by decide +kernel), List.mem_of_getElem? (i := 1047) (by decide +kernel)⟩
theorem lw_p22 : lw_okq (⟨"HalfBoats$Reader", "failHere", "()Z"⟩, 8) := ⟨⟨by decide +kernel, by decide +kernel⟩, List.mem_of_getElem? (i := 408) (by decide +kernel), List.mem_of_getElem? (i := 1051) (by decide +kernel), List.mem_of_getElem? (i := 1052) (by decide +kernel)⟩
theorem lw_p23 : lw_okq (⟨"HalfBoats$Reader", "readCome", "(LHalfBoats$Rules;)V"⟩, 8) := ⟨⟨by decide +kernel, by decide +kernel⟩, List.mem_of_getElem? (i := 408) (by decide +kernel), List.mem_of_getElem? (i := 1055) (by decide +kernel), List.mem_of_getElem? (i := 1056) (by decide +kernel)⟩
theorem lw_p24 : lw_okq (⟨"HalfBoats$Reader", "readCondition", "(LHalfBoats$Rules;I)Z"⟩, 8) := ⟨⟨by decide +kernel, by decide +kernel⟩, List.mem_of_getElem? (i := 408) (by decide +kernel), List.mem_of_getElem? (i := 1063) (by decide +kernel), List.mem_of_getElem? (i := 1064) (by decide +kernel)⟩
theorem lw_p25 : lw_okq (⟨"HalfBoats$Reader", "readAll", "(LHalfBoats$Rules;I)Z"⟩, 8) := ⟨⟨by decide +kernel, by decide +kernel⟩, List.mem_of_getElem? (i := 408) (by decide +kernel), List.mem_of_getElem? (i := 1067) (by decide +kernel), List.mem_of_getElem? (i := 1068) (by decide +kernel)⟩
theorem lw_p26 : lw_okq (⟨"HalfBoats$Reader", "readOne", "(LHalfBoats$Rules;I)Z"⟩, 8) := ⟨⟨by decide +kernel, by decide +kernel⟩, List.mem_of_getElem? (i := 408) (by decide +kernel), List.mem_of_getElem? (i := 1071) (by decide +kernel), List.mem_of_getElem? (i := 1072) (by decide +kernel)⟩
theorem lw_p27 : lw_okq (⟨"HalfBoats$Reader", "readInside", "(LHalfBoats$Rules;I)Z"⟩, 8) := ⟨⟨by decide +kernel, by decide +kernel⟩, List.mem_of_getElem? (i := 408) (by decide +kernel), List.mem_of_getElem? (i := 1075) (by decide +kernel), List.mem_of_getElem? (i := 1076) (by decide +kernel)⟩
theorem lw_p28 : lw_okq (⟨"HalfBoats$Reader", "readTest", "(LHalfBoats$Rules;)Z"⟩, 8) := ⟨⟨by decide +kernel, by decide +kernel⟩, List.mem_of_getElem? (i := 408) (by decide +kernel), List.mem_of_getElem? (i := 1079) (by decide +kernel), List.mem_of_getElem? (i := 1080) (by decide +kernel)⟩
theorem lw_p29 : lw_okq (⟨"HalfBoats$Rules", "latestLine", "(II)I"⟩, 8) := ⟨⟨by decide +kernel, by decide +kernel⟩, List.mem_of_getElem? (i := 266) (by decide +kernel), List.mem_of_getElem? (i := 1108) (by decide +kernel), List.mem_of_getElem? (i := 1109) (by decide +kernel)⟩
theorem lw_p30 : lw_okq (⟨"HalfBoats$Rules", "versionAt", "(I)I"⟩, 8) := ⟨⟨by decide +kernel, by decide +kernel⟩, List.mem_of_getElem? (i := 266) (by decide +kernel), List.mem_of_getElem? (i := 1112) (by decide +kernel), List.mem_of_getElem? (i := 1113) (by decide +kernel)⟩
theorem lw_p31 : lw_okq (⟨"HalfBoats$Rules", "holds", "(IILHalfBoats$Sea;II)Z"⟩, 8) := ⟨⟨by decide +kernel, by decide +kernel⟩, List.mem_of_getElem? (i := 266) (by decide +kernel), List.mem_of_getElem? (i := 1137) (by decide +kernel), List.mem_of_getElem? (i := 1138) (by decide +kernel)⟩
def lw_privs_2 : List (MethodName × Nat) := [(⟨"HalfBoats$Reader", "addToken", "(III)V"⟩, 8), (⟨"HalfBoats$Reader", "numberAt", "(II)I"⟩, 8), (⟨"HalfBoats$Reader", "readSeats", "(LHalfBoats$Rules;)V"⟩, 8), (⟨"HalfBoats$Reader", "takeNumber", "(I)I"⟩, 8), (⟨"HalfBoats$Reader", "takeToken", "(I)Z"⟩, 8), (⟨"HalfBoats$Reader", "readFirst", "(LHalfBoats$Rules;)V"⟩, 8), (⟨"HalfBoats$Reader", "failHere", "()Z"⟩, 8), (⟨"HalfBoats$Reader", "readCome", "(LHalfBoats$Rules;)V"⟩, 8), (⟨"HalfBoats$Reader", "readCondition", "(LHalfBoats$Rules;I)Z"⟩, 8), (⟨"HalfBoats$Reader", "readAll", "(LHalfBoats$Rules;I)Z"⟩, 8), (⟨"HalfBoats$Reader", "readOne", "(LHalfBoats$Rules;I)Z"⟩, 8), (⟨"HalfBoats$Reader", "readInside", "(LHalfBoats$Rules;I)Z"⟩, 8), (⟨"HalfBoats$Reader", "readTest", "(LHalfBoats$Rules;)Z"⟩, 8), (⟨"HalfBoats$Rules", "latestLine", "(II)I"⟩, 8), (⟨"HalfBoats$Rules", "versionAt", "(I)I"⟩, 8), (⟨"HalfBoats$Rules", "holds", "(IILHalfBoats$Sea;II)Z"⟩, 8)]
theorem lw_r2 : ∀ q ∈ lw_privs_2, lw_okq q := List.forall_mem_cons.mpr ⟨lw_p16, List.forall_mem_cons.mpr ⟨lw_p17, List.forall_mem_cons.mpr ⟨lw_p18, List.forall_mem_cons.mpr ⟨lw_p19, List.forall_mem_cons.mpr ⟨lw_p20, List.forall_mem_cons.mpr ⟨lw_p21, List.forall_mem_cons.mpr ⟨lw_p22, List.forall_mem_cons.mpr ⟨lw_p23, List.forall_mem_cons.mpr ⟨lw_p24, List.forall_mem_cons.mpr ⟨lw_p25, List.forall_mem_cons.mpr ⟨lw_p26, List.forall_mem_cons.mpr ⟨lw_p27, List.forall_mem_cons.mpr ⟨lw_p28, List.forall_mem_cons.mpr ⟨lw_p29, List.forall_mem_cons.mpr ⟨lw_p30, List.forall_mem_cons.mpr ⟨lw_p31, fun _ h => absurd h List.not_mem_nil⟩⟩⟩⟩⟩⟩⟩⟩⟩⟩⟩⟩⟩⟩⟩⟩
theorem lw_p32 : lw_okq (⟨"HalfBoats$Passage", "minutesOf", "(II)I"⟩, 11) := ⟨⟨by decide +kernel, by decide +kernel⟩, List.mem_of_getElem? (i := 301) (by decide +kernel), List.mem_of_getElem? (i := 1161) (by decide +kernel), List.mem_of_getElem? (i := 1162) (by decide +kernel)⟩
theorem lw_p33 : lw_okq (⟨"HalfBoats$Passage", "riskOf", "(II)I"⟩, 11) := ⟨⟨by decide +kernel, by decide +kernel⟩, List.mem_of_getElem? (i := 301) (by decide +kernel), List.mem_of_getElem? (i := 1165) (by decide +kernel), List.mem_of_getElem? (i := 1166) (by decide +kernel)⟩
theorem lw_p34 : lw_okq (⟨"HalfBoats$Passage", "sail", "(III)V"⟩, 11) := ⟨⟨by decide +kernel, by decide +kernel⟩, List.mem_of_getElem? (i := 301) (by decide +kernel), List.mem_of_getElem? (i := 1169) (by decide +kernel), List.mem_of_getElem? (i := 1170) (by decide +kernel)⟩
theorem lw_p35 : lw_okq (⟨"HalfBoats", "howManyOf", "(I)I"⟩, 20) := ⟨⟨by decide +kernel, by decide +kernel⟩, List.mem_of_getElem? (i := 22) (by decide +kernel), List.mem_of_getElem? (i := 1221) (by decide +kernel), List.mem_of_getElem? (i := 1222) (by decide +kernel)⟩
theorem lw_p36 : lw_okq (⟨"HalfBoats", "kindOn", "(I)I"⟩, 20) := ⟨⟨by decide +kernel, by decide +kernel⟩, List.mem_of_getElem? (i := 22) (by decide +kernel), List.mem_of_getElem? (i := 1233) (by decide +kernel), List.mem_of_getElem? (i := 1234) (by decide +kernel)⟩
theorem lw_p37 : lw_okq (⟨"HalfBoats", "amountOf", "(II)I"⟩, 20) := ⟨⟨by decide +kernel, by decide +kernel⟩, List.mem_of_getElem? (i := 22) (by decide +kernel), List.mem_of_getElem? (i := 1248) (by decide +kernel), List.mem_of_getElem? (i := 1249) (by decide +kernel)⟩
theorem lw_p38 : lw_okq (⟨"HalfBoats", "answerOf", "(II)I"⟩, 20) := ⟨⟨by decide +kernel, by decide +kernel⟩, List.mem_of_getElem? (i := 22) (by decide +kernel), List.mem_of_getElem? (i := 1256) (by decide +kernel), List.mem_of_getElem? (i := 1257) (by decide +kernel)⟩
theorem lw_p39 : lw_okq (⟨"HalfBoats$Acts", "begin", "(I)V"⟩, 6) := ⟨⟨by decide +kernel, by decide +kernel⟩, List.mem_of_getElem? (i := 470) (by decide +kernel), List.mem_of_getElem? (i := 1264) (by decide +kernel), List.mem_of_getElem? (i := 1265) (by decide +kernel)⟩
theorem lw_p40 : lw_okq (⟨"HalfBoats$Acts", "thingCarries", "(I)I"⟩, 6) := ⟨⟨by decide +kernel, by decide +kernel⟩, List.mem_of_getElem? (i := 470) (by decide +kernel), List.mem_of_getElem? (i := 1272) (by decide +kernel), List.mem_of_getElem? (i := 1273) (by decide +kernel)⟩
theorem lw_p41 : lw_okq (⟨"HalfBoats$Acts", "thingFits", "(I)I"⟩, 6) := ⟨⟨by decide +kernel, by decide +kernel⟩, List.mem_of_getElem? (i := 470) (by decide +kernel), List.mem_of_getElem? (i := 1281) (by decide +kernel), List.mem_of_getElem? (i := 1282) (by decide +kernel)⟩
theorem lw_p42 : lw_okq (⟨"HalfBoats$Acts", "thingTells", "(I)I"⟩, 6) := ⟨⟨by decide +kernel, by decide +kernel⟩, List.mem_of_getElem? (i := 470) (by decide +kernel), List.mem_of_getElem? (i := 1289) (by decide +kernel), List.mem_of_getElem? (i := 1290) (by decide +kernel)⟩
theorem lw_p43 : lw_okq (⟨"HalfBoatsModel", "layOut", "()V"⟩, 52) := ⟨⟨by decide +kernel, by decide +kernel⟩, List.mem_of_getElem? (i := 1343) (by decide +kernel), List.mem_of_getElem? (i := 1513) (by decide +kernel), List.mem_of_getElem? (i := 1514) (by decide +kernel)⟩
theorem lw_p44 : lw_okq (⟨"HalfBoatsModel", "passes", "()Z"⟩, 52) := ⟨⟨by decide +kernel, by decide +kernel⟩, List.mem_of_getElem? (i := 1343) (by decide +kernel), List.mem_of_getElem? (i := 1517) (by decide +kernel), List.mem_of_getElem? (i := 1518) (by decide +kernel)⟩
theorem lw_p45 : lw_okq (⟨"HalfBoatsModel", "findTrim", "()V"⟩, 52) := ⟨⟨by decide +kernel, by decide +kernel⟩, List.mem_of_getElem? (i := 1343) (by decide +kernel), List.mem_of_getElem? (i := 1521) (by decide +kernel), List.mem_of_getElem? (i := 1522) (by decide +kernel)⟩
theorem lw_p46 : lw_okq (⟨"HalfBoatsModel", "outside", "(I)I"⟩, 52) := ⟨⟨by decide +kernel, by decide +kernel⟩, List.mem_of_getElem? (i := 1343) (by decide +kernel), List.mem_of_getElem? (i := 1525) (by decide +kernel), List.mem_of_getElem? (i := 1526) (by decide +kernel)⟩
theorem lw_p47 : lw_okq (⟨"HalfBoatsModel", "level", "(I)I"⟩, 52) := ⟨⟨by decide +kernel, by decide +kernel⟩, List.mem_of_getElem? (i := 1343) (by decide +kernel), List.mem_of_getElem? (i := 1532) (by decide +kernel), List.mem_of_getElem? (i := 1533) (by decide +kernel)⟩
def lw_privs_3 : List (MethodName × Nat) := [(⟨"HalfBoats$Passage", "minutesOf", "(II)I"⟩, 11), (⟨"HalfBoats$Passage", "riskOf", "(II)I"⟩, 11), (⟨"HalfBoats$Passage", "sail", "(III)V"⟩, 11), (⟨"HalfBoats", "howManyOf", "(I)I"⟩, 20), (⟨"HalfBoats", "kindOn", "(I)I"⟩, 20), (⟨"HalfBoats", "amountOf", "(II)I"⟩, 20), (⟨"HalfBoats", "answerOf", "(II)I"⟩, 20), (⟨"HalfBoats$Acts", "begin", "(I)V"⟩, 6), (⟨"HalfBoats$Acts", "thingCarries", "(I)I"⟩, 6), (⟨"HalfBoats$Acts", "thingFits", "(I)I"⟩, 6), (⟨"HalfBoats$Acts", "thingTells", "(I)I"⟩, 6), (⟨"HalfBoatsModel", "layOut", "()V"⟩, 52), (⟨"HalfBoatsModel", "passes", "()Z"⟩, 52), (⟨"HalfBoatsModel", "findTrim", "()V"⟩, 52), (⟨"HalfBoatsModel", "outside", "(I)I"⟩, 52), (⟨"HalfBoatsModel", "level", "(I)I"⟩, 52)]
theorem lw_r3 : ∀ q ∈ lw_privs_3, lw_okq q := List.forall_mem_cons.mpr ⟨lw_p32, List.forall_mem_cons.mpr ⟨lw_p33, List.forall_mem_cons.mpr ⟨lw_p34, List.forall_mem_cons.mpr ⟨lw_p35, List.forall_mem_cons.mpr ⟨lw_p36, List.forall_mem_cons.mpr ⟨lw_p37, List.forall_mem_cons.mpr ⟨lw_p38, List.forall_mem_cons.mpr ⟨lw_p39, List.forall_mem_cons.mpr ⟨lw_p40, List.forall_mem_cons.mpr ⟨lw_p41, List.forall_mem_cons.mpr ⟨lw_p42, List.forall_mem_cons.mpr ⟨lw_p43, List.forall_mem_cons.mpr ⟨lw_p44, List.forall_mem_cons.mpr ⟨lw_p45, List.forall_mem_cons.mpr ⟨lw_p46, List.forall_mem_cons.mpr ⟨lw_p47, fun _ h => absurd h List.not_mem_nil⟩⟩⟩⟩⟩⟩⟩⟩⟩⟩⟩⟩⟩⟩⟩⟩
theorem lw_p48 : lw_okq (⟨"HalfBoatsModel", "findExplanation", "()Z"⟩, 52) := ⟨⟨by decide +kernel, by decide +kernel⟩, List.mem_of_getElem? (i := 1343) (by decide +kernel), List.mem_of_getElem? (i := 1574) (by decide +kernel), List.mem_of_getElem? (i := 1575) (by decide +kernel)⟩
theorem lw_p49 : lw_okq (⟨"HalfBoatsModel", "explains", "(II)Z"⟩, 52) := ⟨⟨by decide +kernel, by decide +kernel⟩, List.mem_of_getElem? (i := 1343) (by decide +kernel), List.mem_of_getElem? (i := 1581) (by decide +kernel), List.mem_of_getElem? (i := 1582) (by decide +kernel)⟩
theorem lw_p50 : lw_okq (⟨"HalfBoatsModel", "holdsAt", "(I)Z"⟩, 52) := ⟨⟨by decide +kernel, by decide +kernel⟩, List.mem_of_getElem? (i := 1343) (by decide +kernel), List.mem_of_getElem? (i := 1585) (by decide +kernel), List.mem_of_getElem? (i := 1586) (by decide +kernel)⟩
theorem lw_p51 : lw_okq (⟨"HalfBoatsModel", "isGroup", "(I)Z"⟩, 52) := ⟨⟨by decide +kernel, by decide +kernel⟩, List.mem_of_getElem? (i := 1343) (by decide +kernel), List.mem_of_getElem? (i := 1607) (by decide +kernel), List.mem_of_getElem? (i := 1608) (by decide +kernel)⟩
theorem lw_p52 : lw_okq (⟨"HalfBoatsModel", "findReach", "(I)V"⟩, 52) := ⟨⟨by decide +kernel, by decide +kernel⟩, List.mem_of_getElem? (i := 1343) (by decide +kernel), List.mem_of_getElem? (i := 1611) (by decide +kernel), List.mem_of_getElem? (i := 1612) (by decide +kernel)⟩
theorem lw_p53 : lw_okq (⟨"HalfBoatsModel", "comes", "(IIII)V"⟩, 52) := ⟨⟨by decide +kernel, by decide +kernel⟩, List.mem_of_getElem? (i := 1343) (by decide +kernel), List.mem_of_getElem? (i := 1616) (by decide +kernel), List.mem_of_getElem? (i := 1617) (by decide +kernel)⟩
theorem lw_p54 : lw_okq (⟨"HalfBoatsModel", "layBoats", "()V"⟩, 52) := ⟨⟨by decide +kernel, by decide +kernel⟩, List.mem_of_getElem? (i := 1343) (by decide +kernel), List.mem_of_getElem? (i := 1628) (by decide +kernel), List.mem_of_getElem? (i := 1629) (by decide +kernel)⟩
theorem lw_p55 : lw_okq (⟨"HalfBoatsModel", "findCan", "()V"⟩, 52) := ⟨⟨by decide +kernel, by decide +kernel⟩, List.mem_of_getElem? (i := 1343) (by decide +kernel), List.mem_of_getElem? (i := 1632) (by decide +kernel), List.mem_of_getElem? (i := 1633) (by decide +kernel)⟩
theorem lw_p56 : lw_okq (⟨"HalfBoatsModel", "mostOf", "()I"⟩, 52) := ⟨⟨by decide +kernel, by decide +kernel⟩, List.mem_of_getElem? (i := 1343) (by decide +kernel), List.mem_of_getElem? (i := 1640) (by decide +kernel), List.mem_of_getElem? (i := 1641) (by decide +kernel)⟩
theorem lw_p57 : lw_okq (⟨"HalfBoatsModel", "mostIn", "(III)I"⟩, 52) := ⟨⟨by decide +kernel, by decide +kernel⟩, List.mem_of_getElem? (i := 1343) (by decide +kernel), List.mem_of_getElem? (i := 1648) (by decide +kernel), List.mem_of_getElem? (i := 1649) (by decide +kernel)⟩
theorem lw_p58 : lw_okq (⟨"HalfBoatsModel", "isRow", "(II)Z"⟩, 52) := ⟨⟨by decide +kernel, by decide +kernel⟩, List.mem_of_getElem? (i := 1343) (by decide +kernel), List.mem_of_getElem? (i := 1656) (by decide +kernel), List.mem_of_getElem? (i := 1657) (by decide +kernel)⟩
theorem lw_p59 : lw_okq (⟨"HalfBoatsModel", "isBoat", "(I)Z"⟩, 52) := ⟨⟨by decide +kernel, by decide +kernel⟩, List.mem_of_getElem? (i := 1343) (by decide +kernel), List.mem_of_getElem? (i := 1668) (by decide +kernel), List.mem_of_getElem? (i := 1669) (by decide +kernel)⟩
theorem lw_p60 : lw_okq (⟨"HalfBoatsModel", "findOrder", "(II)V"⟩, 52) := ⟨⟨by decide +kernel, by decide +kernel⟩, List.mem_of_getElem? (i := 1343) (by decide +kernel), List.mem_of_getElem? (i := 1676) (by decide +kernel), List.mem_of_getElem? (i := 1677) (by decide +kernel)⟩
theorem lw_p61 : lw_okq (⟨"HalfBoatsModel", "doesHear", "(II)Z"⟩, 52) := ⟨⟨by decide +kernel, by decide +kernel⟩, List.mem_of_getElem? (i := 1343) (by decide +kernel), List.mem_of_getElem? (i := 1697) (by decide +kernel), List.mem_of_getElem? (i := 1698) (by decide +kernel)⟩
theorem lw_p62 : lw_okq (⟨"HalfBoatsModel", "farOf", "(I)I"⟩, 52) := ⟨⟨by decide +kernel, by decide +kernel⟩, List.mem_of_getElem? (i := 1343) (by decide +kernel), List.mem_of_getElem? (i := 1701) (by decide +kernel), List.mem_of_getElem? (i := 1702) (by decide +kernel)⟩
theorem lw_p63 : lw_okq (⟨"HalfBoatsModel", "isShip", "(I)Z"⟩, 52) := ⟨⟨by decide +kernel, by decide +kernel⟩, List.mem_of_getElem? (i := 1343) (by decide +kernel), List.mem_of_getElem? (i := 1709) (by decide +kernel), List.mem_of_getElem? (i := 1710) (by decide +kernel)⟩
def lw_privs_4 : List (MethodName × Nat) := [(⟨"HalfBoatsModel", "findExplanation", "()Z"⟩, 52), (⟨"HalfBoatsModel", "explains", "(II)Z"⟩, 52), (⟨"HalfBoatsModel", "holdsAt", "(I)Z"⟩, 52), (⟨"HalfBoatsModel", "isGroup", "(I)Z"⟩, 52), (⟨"HalfBoatsModel", "findReach", "(I)V"⟩, 52), (⟨"HalfBoatsModel", "comes", "(IIII)V"⟩, 52), (⟨"HalfBoatsModel", "layBoats", "()V"⟩, 52), (⟨"HalfBoatsModel", "findCan", "()V"⟩, 52), (⟨"HalfBoatsModel", "mostOf", "()I"⟩, 52), (⟨"HalfBoatsModel", "mostIn", "(III)I"⟩, 52), (⟨"HalfBoatsModel", "isRow", "(II)Z"⟩, 52), (⟨"HalfBoatsModel", "isBoat", "(I)Z"⟩, 52), (⟨"HalfBoatsModel", "findOrder", "(II)V"⟩, 52), (⟨"HalfBoatsModel", "doesHear", "(II)Z"⟩, 52), (⟨"HalfBoatsModel", "farOf", "(I)I"⟩, 52), (⟨"HalfBoatsModel", "isShip", "(I)Z"⟩, 52)]
theorem lw_r4 : ∀ q ∈ lw_privs_4, lw_okq q := List.forall_mem_cons.mpr ⟨lw_p48, List.forall_mem_cons.mpr ⟨lw_p49, List.forall_mem_cons.mpr ⟨lw_p50, List.forall_mem_cons.mpr ⟨lw_p51, List.forall_mem_cons.mpr ⟨lw_p52, List.forall_mem_cons.mpr ⟨lw_p53, List.forall_mem_cons.mpr ⟨lw_p54, List.forall_mem_cons.mpr ⟨lw_p55, List.forall_mem_cons.mpr ⟨lw_p56, List.forall_mem_cons.mpr ⟨lw_p57, List.forall_mem_cons.mpr ⟨lw_p58, List.forall_mem_cons.mpr ⟨lw_p59, List.forall_mem_cons.mpr ⟨lw_p60, List.forall_mem_cons.mpr ⟨lw_p61, List.forall_mem_cons.mpr ⟨lw_p62, List.forall_mem_cons.mpr ⟨lw_p63, fun _ h => absurd h List.not_mem_nil⟩⟩⟩⟩⟩⟩⟩⟩⟩⟩⟩⟩⟩⟩⟩⟩
theorem lw_p64 : lw_okq (⟨"HalfBoatsModel", "earliest", "(I)I"⟩, 52) := ⟨⟨by decide +kernel, by decide +kernel⟩, List.mem_of_getElem? (i := 1343) (by decide +kernel), List.mem_of_getElem? (i := 1713) (by decide +kernel), List.mem_of_getElem? (i := 1714) (by decide +kernel)⟩
theorem lw_p65 : lw_okq (⟨"HalfBoatsModel", "isLight", "(I)Z"⟩, 52) := ⟨⟨by decide +kernel, by decide +kernel⟩, List.mem_of_getElem? (i := 1343) (by decide +kernel), List.mem_of_getElem? (i := 1725) (by decide +kernel), List.mem_of_getElem? (i := 1726) (by decide +kernel)⟩
theorem lw_p66 : lw_okq (⟨"HalfBoatsModel", "shipsOf", "(I)I"⟩, 52) := ⟨⟨by decide +kernel, by decide +kernel⟩, List.mem_of_getElem? (i := 1343) (by decide +kernel), List.mem_of_getElem? (i := 1729) (by decide +kernel), List.mem_of_getElem? (i := 1730) (by decide +kernel)⟩
theorem lw_p67 : lw_okq (⟨"HalfBoatsModel", "standingAt", "(I)I"⟩, 52) := ⟨⟨by decide +kernel, by decide +kernel⟩, List.mem_of_getElem? (i := 1343) (by decide +kernel), List.mem_of_getElem? (i := 1753) (by decide +kernel), List.mem_of_getElem? (i := 1754) (by decide +kernel)⟩
theorem lw_p68 : lw_okq (⟨"HalfBoatsModel", "reads", "(II)V"⟩, 52) := ⟨⟨by decide +kernel, by decide +kernel⟩, List.mem_of_getElem? (i := 1343) (by decide +kernel), List.mem_of_getElem? (i := 1770) (by decide +kernel), List.mem_of_getElem? (i := 1771) (by decide +kernel)⟩
theorem lw_p69 : lw_okq (⟨"HalfBoatsModel", "next", "()V"⟩, 52) := ⟨⟨by decide +kernel, by decide +kernel⟩, List.mem_of_getElem? (i := 1343) (by decide +kernel), List.mem_of_getElem? (i := 1774) (by decide +kernel), List.mem_of_getElem? (i := 1775) (by decide +kernel)⟩
theorem lw_p70 : lw_okq (⟨"HalfBoatsModel", "byteAt", "(I)I"⟩, 52) := ⟨⟨by decide +kernel, by decide +kernel⟩, List.mem_of_getElem? (i := 1343) (by decide +kernel), List.mem_of_getElem? (i := 1778) (by decide +kernel), List.mem_of_getElem? (i := 1779) (by decide +kernel)⟩
theorem lw_p71 : lw_okq (⟨"HalfBoatsModel", "word", "()V"⟩, 52) := ⟨⟨by decide +kernel, by decide +kernel⟩, List.mem_of_getElem? (i := 1343) (by decide +kernel), List.mem_of_getElem? (i := 1782) (by decide +kernel), List.mem_of_getElem? (i := 1783) (by decide +kernel)⟩
theorem lw_p72 : lw_okq (⟨"HalfBoatsModel", "isWord", "(II)Z"⟩, 52) := ⟨⟨by decide +kernel, by decide +kernel⟩, List.mem_of_getElem? (i := 1343) (by decide +kernel), List.mem_of_getElem? (i := 1786) (by decide +kernel), List.mem_of_getElem? (i := 1787) (by decide +kernel)⟩
theorem lw_p73 : lw_okq (⟨"HalfBoatsModel", "line", "()V"⟩, 52) := ⟨⟨by decide +kernel, by decide +kernel⟩, List.mem_of_getElem? (i := 1343) (by decide +kernel), List.mem_of_getElem? (i := 1790) (by decide +kernel), List.mem_of_getElem? (i := 1791) (by decide +kernel)⟩
theorem lw_p74 : lw_okq (⟨"HalfBoatsModel", "number", "(I)I"⟩, 52) := ⟨⟨by decide +kernel, by decide +kernel⟩, List.mem_of_getElem? (i := 1343) (by decide +kernel), List.mem_of_getElem? (i := 1794) (by decide +kernel), List.mem_of_getElem? (i := 1795) (by decide +kernel)⟩
theorem lw_p75 : lw_okq (⟨"HalfBoatsModel", "wrong", "()V"⟩, 52) := ⟨⟨by decide +kernel, by decide +kernel⟩, List.mem_of_getElem? (i := 1343) (by decide +kernel), List.mem_of_getElem? (i := 1798) (by decide +kernel), List.mem_of_getElem? (i := 1799) (by decide +kernel)⟩
theorem lw_p76 : lw_okq (⟨"HalfBoatsModel", "takes", "(I)V"⟩, 52) := ⟨⟨by decide +kernel, by decide +kernel⟩, List.mem_of_getElem? (i := 1343) (by decide +kernel), List.mem_of_getElem? (i := 1802) (by decide +kernel), List.mem_of_getElem? (i := 1803) (by decide +kernel)⟩
theorem lw_p77 : lw_okq (⟨"HalfBoatsModel", "first", "()V"⟩, 52) := ⟨⟨by decide +kernel, by decide +kernel⟩, List.mem_of_getElem? (i := 1343) (by decide +kernel), List.mem_of_getElem? (i := 1806) (by decide +kernel), List.mem_of_getElem? (i := 1807) (by decide +kernel)⟩
theorem lw_p78 : lw_okq (⟨"HalfBoatsModel", "cond", "()Z"⟩, 52) := ⟨⟨by decide +kernel, by decide +kernel⟩, List.mem_of_getElem? (i := 1343) (by decide +kernel), List.mem_of_getElem? (i := 1810) (by decide +kernel), List.mem_of_getElem? (i := 1811) (by decide +kernel)⟩
theorem lw_p79 : lw_okq (⟨"HalfBoatsModel", "every", "()Z"⟩, 52) := ⟨⟨by decide +kernel, by decide +kernel⟩, List.mem_of_getElem? (i := 1343) (by decide +kernel), List.mem_of_getElem? (i := 1814) (by decide +kernel), List.mem_of_getElem? (i := 1815) (by decide +kernel)⟩
def lw_privs_5 : List (MethodName × Nat) := [(⟨"HalfBoatsModel", "earliest", "(I)I"⟩, 52), (⟨"HalfBoatsModel", "isLight", "(I)Z"⟩, 52), (⟨"HalfBoatsModel", "shipsOf", "(I)I"⟩, 52), (⟨"HalfBoatsModel", "standingAt", "(I)I"⟩, 52), (⟨"HalfBoatsModel", "reads", "(II)V"⟩, 52), (⟨"HalfBoatsModel", "next", "()V"⟩, 52), (⟨"HalfBoatsModel", "byteAt", "(I)I"⟩, 52), (⟨"HalfBoatsModel", "word", "()V"⟩, 52), (⟨"HalfBoatsModel", "isWord", "(II)Z"⟩, 52), (⟨"HalfBoatsModel", "line", "()V"⟩, 52), (⟨"HalfBoatsModel", "number", "(I)I"⟩, 52), (⟨"HalfBoatsModel", "wrong", "()V"⟩, 52), (⟨"HalfBoatsModel", "takes", "(I)V"⟩, 52), (⟨"HalfBoatsModel", "first", "()V"⟩, 52), (⟨"HalfBoatsModel", "cond", "()Z"⟩, 52), (⟨"HalfBoatsModel", "every", "()Z"⟩, 52)]
theorem lw_r5 : ∀ q ∈ lw_privs_5, lw_okq q := List.forall_mem_cons.mpr ⟨lw_p64, List.forall_mem_cons.mpr ⟨lw_p65, List.forall_mem_cons.mpr ⟨lw_p66, List.forall_mem_cons.mpr ⟨lw_p67, List.forall_mem_cons.mpr ⟨lw_p68, List.forall_mem_cons.mpr ⟨lw_p69, List.forall_mem_cons.mpr ⟨lw_p70, List.forall_mem_cons.mpr ⟨lw_p71, List.forall_mem_cons.mpr ⟨lw_p72, List.forall_mem_cons.mpr ⟨lw_p73, List.forall_mem_cons.mpr ⟨lw_p74, List.forall_mem_cons.mpr ⟨lw_p75, List.forall_mem_cons.mpr ⟨lw_p76, List.forall_mem_cons.mpr ⟨lw_p77, List.forall_mem_cons.mpr ⟨lw_p78, List.forall_mem_cons.mpr ⟨lw_p79, fun _ h => absurd h List.not_mem_nil⟩⟩⟩⟩⟩⟩⟩⟩⟩⟩⟩⟩⟩⟩⟩⟩
theorem lw_p80 : lw_okq (⟨"HalfBoatsModel", "single", "()Z"⟩, 52) := ⟨⟨by decide +kernel, by decide +kernel⟩, List.mem_of_getElem? (i := 1343) (by decide +kernel), List.mem_of_getElem? (i := 1818) (by decide +kernel), List.mem_of_getElem? (i := 1819) (by decide +kernel)⟩
theorem lw_p81 : lw_okq (⟨"HalfBoatsModel", "readsFor", "(I)V"⟩, 52) := ⟨⟨by decide +kernel, by decide +kernel⟩, List.mem_of_getElem? (i := 1343) (by decide +kernel), List.mem_of_getElem? (i := 1830) (by decide +kernel), List.mem_of_getElem? (i := 1831) (by decide +kernel)⟩
theorem lw_p82 : lw_okq (⟨"HalfBoatsModel", "sumOf", "(III)I"⟩, 52) := ⟨⟨by decide +kernel, by decide +kernel⟩, List.mem_of_getElem? (i := 1343) (by decide +kernel), List.mem_of_getElem? (i := 1834) (by decide +kernel), List.mem_of_getElem? (i := 1835) (by decide +kernel)⟩
theorem lw_p83 : lw_okq (⟨"HalfBoatsModel", "freeRow", "()I"⟩, 52) := ⟨⟨by decide +kernel, by decide +kernel⟩, List.mem_of_getElem? (i := 1343) (by decide +kernel), List.mem_of_getElem? (i := 1864) (by decide +kernel), List.mem_of_getElem? (i := 1865) (by decide +kernel)⟩
theorem lw_p84 : lw_okq (⟨"HalfBoatsModel", "kindOn", "(I)I"⟩, 52) := ⟨⟨by decide +kernel, by decide +kernel⟩, List.mem_of_getElem? (i := 1343) (by decide +kernel), List.mem_of_getElem? (i := 1889) (by decide +kernel), List.mem_of_getElem? (i := 1890) (by decide +kernel)⟩
theorem lw_p85 : lw_okq (⟨"HalfBoatsModel", "fills", "(I)I"⟩, 52) := ⟨⟨by decide +kernel, by decide +kernel⟩, List.mem_of_getElem? (i := 1343) (by decide +kernel), List.mem_of_getElem? (i := 1897) (by decide +kernel), List.mem_of_getElem? (i := 1898) (by decide +kernel)⟩
theorem lw_p86 : lw_okq (⟨"HalfBoatsModel", "begins", "(I)V"⟩, 52) := ⟨⟨by decide +kernel, by decide +kernel⟩, List.mem_of_getElem? (i := 1343) (by decide +kernel), List.mem_of_getElem? (i := 1901) (by decide +kernel), List.mem_of_getElem? (i := 1902) (by decide +kernel)⟩
theorem lw_p87 : lw_okq (⟨"HalfBoatsModel", "thingFills", "(I)I"⟩, 52) := ⟨⟨by decide +kernel, by decide +kernel⟩, List.mem_of_getElem? (i := 1343) (by decide +kernel), List.mem_of_getElem? (i := 1905) (by decide +kernel), List.mem_of_getElem? (i := 1906) (by decide +kernel)⟩
theorem lw_p88 : lw_okq (⟨"HalfBoatsModel", "carries", "(I)I"⟩, 52) := ⟨⟨by decide +kernel, by decide +kernel⟩, List.mem_of_getElem? (i := 1343) (by decide +kernel), List.mem_of_getElem? (i := 1909) (by decide +kernel), List.mem_of_getElem? (i := 1910) (by decide +kernel)⟩
theorem lw_p89 : lw_okq (⟨"HalfBoatsModel", "thingCarries", "(I)I"⟩, 52) := ⟨⟨by decide +kernel, by decide +kernel⟩, List.mem_of_getElem? (i := 1343) (by decide +kernel), List.mem_of_getElem? (i := 1913) (by decide +kernel), List.mem_of_getElem? (i := 1914) (by decide +kernel)⟩
theorem lw_p90 : lw_okq (⟨"HalfBoatsModel", "fits", "(I)I"⟩, 52) := ⟨⟨by decide +kernel, by decide +kernel⟩, List.mem_of_getElem? (i := 1343) (by decide +kernel), List.mem_of_getElem? (i := 1917) (by decide +kernel), List.mem_of_getElem? (i := 1918) (by decide +kernel)⟩
theorem lw_p91 : lw_okq (⟨"HalfBoatsModel", "thingFits", "(I)I"⟩, 52) := ⟨⟨by decide +kernel, by decide +kernel⟩, List.mem_of_getElem? (i := 1343) (by decide +kernel), List.mem_of_getElem? (i := 1921) (by decide +kernel), List.mem_of_getElem? (i := 1922) (by decide +kernel)⟩
theorem lw_p92 : lw_okq (⟨"HalfBoatsModel", "tells", "(I)I"⟩, 52) := ⟨⟨by decide +kernel, by decide +kernel⟩, List.mem_of_getElem? (i := 1343) (by decide +kernel), List.mem_of_getElem? (i := 1925) (by decide +kernel), List.mem_of_getElem? (i := 1926) (by decide +kernel)⟩
theorem lw_p93 : lw_okq (⟨"HalfBoatsModel", "thingTells", "(I)I"⟩, 52) := ⟨⟨by decide +kernel, by decide +kernel⟩, List.mem_of_getElem? (i := 1343) (by decide +kernel), List.mem_of_getElem? (i := 1929) (by decide +kernel), List.mem_of_getElem? (i := 1930) (by decide +kernel)⟩
def lw_privs_6 : List (MethodName × Nat) := [(⟨"HalfBoatsModel", "single", "()Z"⟩, 52), (⟨"HalfBoatsModel", "readsFor", "(I)V"⟩, 52), (⟨"HalfBoatsModel", "sumOf", "(III)I"⟩, 52), (⟨"HalfBoatsModel", "freeRow", "()I"⟩, 52), (⟨"HalfBoatsModel", "kindOn", "(I)I"⟩, 52), (⟨"HalfBoatsModel", "fills", "(I)I"⟩, 52), (⟨"HalfBoatsModel", "begins", "(I)V"⟩, 52), (⟨"HalfBoatsModel", "thingFills", "(I)I"⟩, 52), (⟨"HalfBoatsModel", "carries", "(I)I"⟩, 52), (⟨"HalfBoatsModel", "thingCarries", "(I)I"⟩, 52), (⟨"HalfBoatsModel", "fits", "(I)I"⟩, 52), (⟨"HalfBoatsModel", "thingFits", "(I)I"⟩, 52), (⟨"HalfBoatsModel", "tells", "(I)I"⟩, 52), (⟨"HalfBoatsModel", "thingTells", "(I)I"⟩, 52)]
theorem lw_r6 : ∀ q ∈ lw_privs_6, lw_okq q := List.forall_mem_cons.mpr ⟨lw_p80, List.forall_mem_cons.mpr ⟨lw_p81, List.forall_mem_cons.mpr ⟨lw_p82, List.forall_mem_cons.mpr ⟨lw_p83, List.forall_mem_cons.mpr ⟨lw_p84, List.forall_mem_cons.mpr ⟨lw_p85, List.forall_mem_cons.mpr ⟨lw_p86, List.forall_mem_cons.mpr ⟨lw_p87, List.forall_mem_cons.mpr ⟨lw_p88, List.forall_mem_cons.mpr ⟨lw_p89, List.forall_mem_cons.mpr ⟨lw_p90, List.forall_mem_cons.mpr ⟨lw_p91, List.forall_mem_cons.mpr ⟨lw_p92, List.forall_mem_cons.mpr ⟨lw_p93, fun _ h => absurd h List.not_mem_nil⟩⟩⟩⟩⟩⟩⟩⟩⟩⟩⟩⟩⟩⟩
def lw_privs : List (MethodName × Nat) := lw_privs_1 ++ (lw_privs_2 ++ (lw_privs_3 ++ (lw_privs_4 ++ (lw_privs_5 ++ (lw_privs_6)))))
def lw_tbl : List Cond := k2_sels lw_privs ++ tables_1
theorem lw_privs_ok : ∀ q ∈ lw_privs, lw_okq q := by
  show ∀ q ∈ lw_privs_1 ++ (lw_privs_2 ++ (lw_privs_3 ++ (lw_privs_4 ++ (lw_privs_5 ++ (lw_privs_6))))), lw_okq q
  exact List.forall_mem_append.mpr ⟨lw_r1, List.forall_mem_append.mpr ⟨lw_r2, List.forall_mem_append.mpr ⟨lw_r3, List.forall_mem_append.mpr ⟨lw_r4, List.forall_mem_append.mpr ⟨lw_r5, lw_r6⟩⟩⟩⟩⟩
end
section
/-! A PURE MACHINE: cells, methods, one step, runs. A reference in it is a number: 0 the script, 1 + j and 17 + j the j-th text and its bytes, 33 a static, 64 + k the k-th cell that was made since the law's entry. -/
abbrev px_E : Type := List Int32 ⊕ (List Int64 ⊕ (Nat × List Value))
abbrev px_W : Type := List px_E
/-- a pool: fields (index, kind of object, field), calls (index, sort, method), made kinds (index, kind), ints, longs, texts, statics (0, 1), fields of texts (0 bytes, 1 coder) -/
abbrev px_L : Type := List (Nat × Nat × Nat) × List (Nat × Nat × Nat) × List (Nat × Nat) × List (Nat × Int32) × List (Nat × Int64) × List (Nat × Nat) × List (Nat × Nat) × List (Nat × Nat)
/-- a method's head: name, bytes, locals, what it returns, how many arguments beside the receiver -/
abbrev px_Hd : Type := MethodName × ByteArray × Nat × Option FieldType × Nat
abbrev px_M : Type := px_Hd × List (Nat × Instr × Nat) × px_L
abbrev px_N : Type := Nat × List (Nat × Value) × List Value × px_W × Nat × Nat
abbrev px_R : Type := px_N ⊕ (Option Value ⊕ (Nat × List Value × List Value))
def px_look {α : Type} : List (Nat × α) → Nat → Option α
  | [], _ => none
  | q :: r, k => if q.1 = k then some q.2 else px_look r k
theorem px_look_mem {α : Type} : ∀ {l : List (Nat × α)} {k : Nat} {a : α}, px_look l k = some a → (k, a) ∈ l
  | [], _, _, h => by cases h
  | q :: r, k, a, h => by
    unfold px_look at h
    split at h
    · rename_i e
      cases h
      subst e
      exact List.mem_cons_self
    · exact List.mem_cons_of_mem _ (px_look_mem h)
def px_or {α : Type} (a b : Option α) : Option α := match a with
  | some x => some x
  | none => b
theorem px_or_some {α : Type} {a b : Option α} {x : α} (h : px_or a b = some x) : a = some x ∨ b = some x := by
  cases a with
  | none => exact Or.inr h
  | some y => exact Or.inl h
def px_sto (lv : List (Nat × Value)) (i : Nat) (v : Value) : List (Nat × Value) := (i, v) :: lv.filter (fun q => !(q.1 == i) && !(q.1 + 1 == i && q.2.category == 2))
def px_ix (i : Int32) (n : Nat) : Bool := !(decide (i < 0)) && decide (i.toNatClampNeg < n)
theorem px_ix_in {i : Int32} {n : Nat} (h : px_ix i n = true) : vp_in i n ∧ i.toNatClampNeg < n := by
  unfold px_ix at h
  simp only [Bool.and_eq_true, Bool.not_eq_true', decide_eq_false_iff_not, decide_eq_true_eq] at h
  exact ⟨fun q => q.elim h.1 (fun z => by omega), h.2⟩
/-- int and int give an int -/
def px_bin (i : Instr) (x y : Int32) : Option Int32 := match i with
  | .iadd => some (x + y)
  | .isub => some (x - y)
  | .imul => some (x * y)
  | .iand => some (x &&& y)
  | .ior => some (x ||| y)
  | .ixor => some (x ^^^ y)
  | .ishl => some (x <<< (y &&& 31))
  | .ishr => some (x >>> (y &&& 31))
  | .iushr => some ((x.toUInt32 >>> (y.toUInt32 &&& Int32.toUInt32 31)).toInt32)
  | .idiv => if y = 0 then none else some (x / y)
  | .irem => if y = 0 then none else some (x - x / y * y)
  | _ => none
/-- a value gives a value -/
def px_un (i : Instr) (v : Value) : Option Value := match i, v with
  | .ineg, .int x => some (.int (-x))
  | .i2l, .int x => some (.long x.toInt64)
  | .i2b, .int x => some (.int x.toInt8.toInt32)
  | .i2s, .int x => some (.int x.toInt16.toInt32)
  | .i2c, .int x => some (.int (x.toUInt32 % 65536).toInt32)
  | .l2i, .long x => some (.int x.toInt32)
  | _, _ => none
def px_lb (i : Instr) (x : Int64) (v : Value) : Option Int64 := match i, v with
  | .land, .long y => some (x &&& y)
  | .lor, .long y => some (x ||| y)
  | .lshl, .int y => some (x <<< (y.toInt64 &&& 63))
  | .lshr, .int y => some (x >>> (y.toInt64 &&& 63))
  | _, _ => none
def px_cst (i : Instr) : Option (Value × Nat) := match i with
  | .iconst n => some (.int (Int32.ofInt n), 1)
  | .bipush n => some (.int (Int8.ofInt n).toInt32, 2)
  | .sipush n => some (.int (Int16.ofInt n).toInt32, 3)
  | .lconst n => some (.long (Int64.ofNat (n : Nat)), 1)
  | _ => none
/-- loads: place, length, sort (0 int, 1 long, 2 reference) -/
def px_ld (i : Instr) : Option (Nat × Nat × Nat) := match i with
  | .iload_n k => some ((k : Nat), 1, 0)
  | .iload k => some (k, 2, 0)
  | .lload_n k => some ((k : Nat), 1, 1)
  | .lload k => some (k, 2, 1)
  | .aload_n k => some ((k : Nat), 1, 2)
  | .aload k => some (k, 2, 2)
  | _ => none
def px_so (v : Value) : Nat := match v with
  | .int _ => 0
  | .long _ => 1
  | .ref _ => 2
  | _ => 3
def px_st (i : Instr) : Option (Nat × Nat × Nat) := match i with
  | .istore_n k => some ((k : Nat), 1, 0)
  | .istore k => some (k, 2, 0)
  | .astore_n k => some ((k : Nat), 1, 2)
  | .astore k => some (k, 2, 2)
  | _ => none
def px_stk (i : Instr) (st : List Value) : Option (List Value) := match i, st with
  | .dup, a :: r => if a.category = 1 then some (a :: a :: r) else none
  | .pop, a :: r => if a.category = 1 then some r else none
  | .dup_x1, a :: b :: r => if a.category = 1 ∧ b.category = 1 then some (a :: b :: a :: r) else none
  | .dup2, a :: b :: r => if a.category = 1 ∧ b.category = 1 then some (a :: b :: a :: b :: r) else none
  | _, _ => none
def px_cnd (k : Jvm.ClassFile.Cond) (x y : Int32) : Bool := match k with
  | .eq => decide (x = y)
  | .ne => decide (¬ x = y)
  | .lt => decide (x < y)
  | .ge => decide (y ≤ x)
  | .gt => decide (y < x)
  | .le => decide (x ≤ y)
def px_tgt (pc : Nat) (off : Int) : Option Nat := if 0 ≤ (pc : Int) + off then some ((pc : Int) + off).toNat else none
def px_br (i : Instr) (pc len : Nat) (st : List Value) : Option (Nat × List Value) := match i, st with
  | .goto off, r => if len = 3 then (px_tgt pc off).map (fun t => (t, r)) else none
  | .ifCond k off, .int x :: r => if len = 3 then (px_tgt pc off).map (fun t => (if px_cnd k x 0 = true then t else pc + 3, r)) else none
  | .if_icmp k off, .int y :: .int x :: r => if len = 3 then (px_tgt pc off).map (fun t => (if px_cnd k x y = true then t else pc + 3, r)) else none
  | .tableswitch dflt lo hi offs, .int x :: r => if x.toInt < lo ∨ hi < x.toInt then (px_tgt pc dflt).map (fun t => (t, r)) else (offs[(x.toInt - lo).toNat]?.bind (fun o => px_tgt pc o)).map (fun t => (t, r))
  | _, _ => none
/-- what needs neither cells nor the pool -/
def px_s1 (i : Instr) (len pc : Nat) (mx : Nat) (lv : List (Nat × Value)) (st : List Value) : Option (Nat × List (Nat × Value) × List Value) :=
  px_or (match st with
    | .int y :: .int x :: r => if len = 1 then (px_bin i x y).map (fun z => (pc + 1, lv, .int z :: r)) else none
    | _ => none)
  (px_or ((px_ld i).bind (fun q => (px_look lv q.1).bind (fun v => if len = q.2.1 ∧ px_so v = q.2.2 then some (pc + len, lv, v :: st) else none)))
  (px_or ((px_cst i).bind (fun q => if len = q.2 then some (pc + len, lv, q.1 :: st) else none))
  (px_or ((px_br i pc len st).map (fun q => (q.1, lv, q.2)))
  (px_or (match st with
    | v :: r => (px_st i).bind (fun q => if len = q.2.1 ∧ px_so v = q.2.2 ∧ q.1 < mx then some (pc + len, px_sto lv q.1 v, r) else none)
    | _ => none)
  (px_or (match i with
    | .iinc k n => (px_look lv k).bind (fun v => match v with
      | .int x => if len = 3 ∧ k < mx then some (pc + 3, px_sto lv k (.int (x + Int32.ofInt n)), st) else none
      | _ => none)
    | _ => none)
  (px_or (if len = 1 then (px_stk i st).map (fun r => (pc + 1, lv, r)) else none)
  (px_or (match st with
    | v :: r => if len = 1 then (px_un i v).map (fun z => (pc + 1, lv, z :: r)) else none
    | _ => none)
  (match st with
    | v :: .long x :: r => if len = 1 then (px_lb i x v).map (fun z => (pc + 1, lv, .long z :: r)) else none
    | _ => none))))))))
def px_ty (T : u_T) (k : Nat) : FieldType := (parseFieldDescriptor (T k).2.2.1).getD .int
def px_rt (t : FieldType) : Bool := match t with
  | .object _ => true
  | .array _ => true
  | _ => false
/-- may a value stand in a field of this type -/
def px_fit (t : FieldType) (v : Value) : Bool := match v with
  | .int x => decide (narrow t (.int x) = .int x) && fits t (.int x)
  | .ref _ => px_rt t
  | _ => false
def px_cpy (a b : List Int32) (sp dp n : Nat) : List Int32 := b.take dp ++ ((a.drop sp).take n ++ b.drop (dp + n))
/-- what reads and writes cells, or the pool: stack, cells, how many cells and slots are new -/
def px_s2 (cl : List vw_C) (lt : List (List Int32)) (i : Instr) (len : Nat) (scr : Option (List Int32)) (nm : String) (own : String) (L : px_L) (st : List Value) (w : px_W) : Option (List Value × px_W × Nat × Nat) := match i, st with
  | .getfield x, .ref a :: r => if len = 3 ∧ 64 ≤ a then (match px_look L.1 x, w[a - 64]? with
    | some q, some (.inr (.inr o)) => if q.1 = o.1 then (o.2[q.2]?).map (fun v => (v :: r, w, 0, 0)) else none
    | _, _ => none) else if len = 3 ∧ 1 ≤ a ∧ a ≤ 16 then (px_look L.2.2.2.2.2.2.2 x).bind (fun k => if k = 0 then some (.ref (a + 16) :: r, w, 0, 0) else if k = 1 then some (.int 0 :: r, w, 0, 0) else none) else none
  | .iaload, .int j :: .ref a :: r => if len = 1 then (if a = 0 then (match scr with
      | some xs => if px_ix j xs.length = true then some (.int (xs.getD j.toNatClampNeg 0) :: r, w, 0, 0) else none
      | none => none) else if 64 ≤ a then (match w[a - 64]? with
      | some (.inl l) => if px_ix j l.length = true then some (.int (l.getD j.toNatClampNeg 0) :: r, w, 0, 0) else none
      | _ => none) else none) else none
  | .iastore, .int z :: .int j :: .ref a :: r => if len = 1 ∧ 64 ≤ a then (match w[a - 64]? with
      | some (.inl l) => if px_ix j l.length = true then some (r, w.set (a - 64) (.inl (l.set j.toNatClampNeg z)), 0, 0) else none
      | _ => none) else none
  | .putfield x, v :: .ref a :: r => if len = 3 ∧ 64 ≤ a then (match px_look L.1 x, w[a - 64]? with
    | some q, some (.inr (.inr o)) => (match cl[q.1]? with
      | some k => if q.1 = o.1 ∧ q.2 < o.2.length ∧ px_fit (px_ty k.2.1 q.2) v = true ∧ ((k.2.1 q.2).2.2.2 = true → nm = "<init>" ∧ (k.2.1 q.2).1 = own) then some (r, w.set (a - 64) (.inr (.inr (o.1, o.2.set q.2 v))), 0, 0) else none
      | none => none)
    | _, _ => none) else none
  | .ldc x, r => if len = 2 then px_or ((px_look L.2.2.2.1 x).map (fun v => (.int v :: r, w, 0, 0))) ((px_look L.2.2.2.2.2.1 x).map (fun j => (.ref (1 + j) :: r, w, 0, 0))) else none
  | .getstatic x, r => if len = 3 then (px_look L.2.2.2.2.2.2.1 x).bind (fun k => if k = 0 then some (.int 1 :: r, w, 0, 0) else if k = 1 then some (.ref 33 :: r, w, 0, 0) else none) else none
  | .baload, .int j :: .ref a :: r => if len = 1 ∧ 17 ≤ a ∧ a ≤ 32 ∧ px_ix j ((lt.map List.length).getD (a - 17) 0) = true then some (.int ((lt.getD (a - 17) []).getD j.toNatClampNeg 0) :: r, w, 0, 0) else none
  | .ldc_w x, r => if len = 3 then (px_look L.2.2.2.1 x).map (fun v => (.int v :: r, w, 0, 0)) else none
  | .ldc2_w x, r => if len = 3 then (px_look L.2.2.2.2.1 x).map (fun v => (.long v :: r, w, 0, 0)) else none
  | .arraylength, .ref a :: r => if len = 1 then (if a = 0 then (match scr with
      | some xs => some (.int (Int32.ofNat xs.length) :: r, w, 0, 0)
      | none => none) else if 64 ≤ a then (match w[a - 64]? with
      | some (.inl l) => some (.int (Int32.ofNat l.length) :: r, w, 0, 0)
      | _ => none) else if 17 ≤ a ∧ a ≤ 32 then some (.int (Int32.ofNat ((lt.map List.length).getD (a - 17) 0)) :: r, w, 0, 0) else none) else none
  | .laload, .int j :: .ref a :: r => if len = 1 ∧ 64 ≤ a then (match w[a - 64]? with
      | some (.inr (.inl l)) => if px_ix j l.length = true then some (.long (l.getD j.toNatClampNeg 0) :: r, w, 0, 0) else none
      | _ => none) else none
  | .lastore, .long z :: .int j :: .ref a :: r => if len = 1 ∧ 64 ≤ a then (match w[a - 64]? with
      | some (.inr (.inl l)) => if px_ix j l.length = true then some (r, w.set (a - 64) (.inr (.inl (l.set j.toNatClampNeg z))), 0, 0) else none
      | _ => none) else none
  | .new x, r => if len = 3 then (px_look L.2.2.1 x).bind (fun ci => (cl[ci]?).map (fun k => (.ref (64 + w.length) :: r, w ++ [.inr (.inr (ci, (List.range k.2.2).map (fun j => defaultValue (px_ty k.2.1 j))))], 1, k.2.2))) else none
  | .newarray .int, .int n :: r => if len = 2 ∧ ¬ n < 0 ∧ n.toNatClampNeg ≤ 100000 then some (.ref (64 + w.length) :: r, w ++ [.inl (List.replicate n.toNatClampNeg 0)], 1, n.toNatClampNeg) else none
  | .newarray .long, .int n :: r => if len = 2 ∧ ¬ n < 0 ∧ n.toNatClampNeg ≤ 100000 then some (.ref (64 + w.length) :: r, w ++ [.inr (.inl (List.replicate n.toNatClampNeg 0))], 1, n.toNatClampNeg) else none
  | _, _ => none
/-- native and empty callees -/
def px_s3 (i : Instr) (len : Nat) (d : Nat) (L : px_L) (st : List Value) (w : px_W) : Option (List Value × px_W) := match i, st with
  | .invokestatic x, .int n :: .int dp :: .ref b :: .int sp :: .ref a :: r => if len = 3 ∧ 1 ≤ d ∧ 64 ≤ a ∧ 64 ≤ b ∧ ¬ sp < 0 ∧ ¬ dp < 0 ∧ ¬ n < 0 ∧ (r.map (fun v => v.category)).sum ≤ 8 then (match px_look L.2.1 x, w[a - 64]?, w[b - 64]? with
    | some q, some (.inl la), some (.inl lb) => if q.1 = 6 ∧ sp.toNatClampNeg + n.toNatClampNeg ≤ la.length ∧ dp.toNatClampNeg + n.toNatClampNeg ≤ lb.length then some (r, w.set (b - 64) (.inl (px_cpy la lb sp.toNatClampNeg dp.toNatClampNeg n.toNatClampNeg))) else none
    | _, _, _ => none) else none
  | .invokespecial x, .ref a :: r => if len = 3 ∧ 1 ≤ d ∧ 64 ≤ a ∧ (r.map (fun v => v.category)).sum ≤ 8 then (match px_look L.2.1 x with
    | some q => if q.1 = 7 then some (r, w) else none
    | none => none) else none
  | _, _ => none
/-- greatest, least, amount -/
def px_s6 (i : Instr) (len : Nat) (d : Nat) (L : px_L) (st : List Value) : Option (List Value) := match i with
  | .invokestatic x => if len = 3 ∧ 1 ≤ d then (px_look L.2.1 x).bind (fun q => match st with
    | .int y :: r => if q.1 = 10 then (if (r.map (fun v => v.category)).sum ≤ 8 then some (.int (if 0 ≤ y then y else 0 - y) :: r) else none) else (match r with
      | .int x :: r2 => if (r2.map (fun v => v.category)).sum ≤ 8 then (if q.1 = 8 then some (.int (if x < y then y else x) :: r2) else if q.1 = 9 then some (.int (if y < x then y else x) :: r2) else none) else none
      | _ => none)
    | _ => none) else none
  | _ => none
/-- an own callee: its number, its arguments, what stays on the stack -/
def px_s4 (cl : List vw_C) (P : List px_M) (i : Instr) (len : Nat) (L : px_L) (st : List Value) (w : px_W) : Option (Nat × List Value × List Value) := match i with
  | .invokevirtual x => if len = 3 then (px_look L.2.1 x).bind (fun q => (P[q.2]?).bind (fun M => match st.drop M.1.2.2.2.2 with
    | .ref b :: r => if q.1 = 0 ∧ M.1.2.2.2.2 ≤ st.length ∧ 64 ≤ b ∧ (r.map (fun v => v.category)).sum ≤ 8 then (match w[b - 64]? with
      | some (.inr (.inr o)) => (match cl[o.1]? with
        | some k => if k.1 = M.1.1.cls then some (q.2, .ref b :: (st.take M.1.2.2.2.2).reverse, r) else none
        | none => none)
      | _ => none) else if q.1 = 0 ∧ M.1.2.2.2.2 ≤ st.length ∧ 1 ≤ b ∧ b ≤ 16 ∧ M.1.1.cls = "java/lang/String" ∧ (r.map (fun v => v.category)).sum ≤ 8 then some (q.2, .ref b :: (st.take M.1.2.2.2.2).reverse, r) else none
    | _ => none)) else none
  | .invokestatic x => if len = 3 then (px_look L.2.1 x).bind (fun q => (P[q.2]?).bind (fun M => if (q.1 = 1 ∨ q.1 = 4) ∧ M.1.2.2.2.2 ≤ st.length ∧ ((st.drop M.1.2.2.2.2).map (fun v => v.category)).sum ≤ 8 then some (q.2, (st.take M.1.2.2.2.2).reverse, st.drop M.1.2.2.2.2) else none)) else none
  | .invokespecial x => if len = 3 then (px_look L.2.1 x).bind (fun q => (P[q.2]?).bind (fun M => match st.drop M.1.2.2.2.2 with
    | .ref b :: r => if (q.1 = 2 ∨ q.1 = 5) ∧ M.1.2.2.2.2 ≤ st.length ∧ 64 ≤ b ∧ (r.map (fun v => v.category)).sum ≤ 8 then some (q.2, .ref b :: (st.take M.1.2.2.2.2).reverse, r) else none
    | _ => none)) else none
  | _ => none
def px_s5 (i : Instr) (len : Nat) (ret : Option FieldType) (st : List Value) : Option (Option Value) := match i, st with
  | .ireturn, [.int x] => (match ret with
    | some t => if len = 1 ∧ narrow t (.int x) = .int x then some (some (.int x)) else none
    | none => none)
  | .lreturn, [.long x] => if len = 1 ∧ ret = some .long then some (some (.long x)) else none
  | .return_, [] => if len = 1 ∧ ret = none then some none else none
  | _, _ => none
def px_step (cl : List vw_C) (lt : List (List Int32)) (P : List px_M) (d : Nat) (scr : Option (List Int32)) (M : px_M) (pc : Nat) (lv : List (Nat × Value)) (st : List Value) (w : px_W) : Option px_R :=
  (px_look M.2.1 pc).bind (fun q =>
    px_or ((px_s1 q.1 q.2 pc M.1.2.2.1 lv st).map (fun z => .inl (z.1, z.2.1, z.2.2, w, 0, 0)))
    (px_or ((px_s2 cl lt q.1 q.2 scr M.1.1.name M.1.1.cls M.2.2 st w).map (fun z => .inl (pc + q.2, lv, z.1, z.2.1, z.2.2)))
    (px_or ((px_s5 q.1 q.2 M.1.2.2.2.1 st).map (fun z => .inr (.inl z)))
    (px_or ((px_s3 q.1 q.2 d M.2.2 st w).map (fun z => .inl (pc + 3, lv, z.1, z.2, 0, 0)))
    (px_or ((px_s6 q.1 q.2 d M.2.2 st).map (fun z => .inl (pc + 3, lv, z, w, 0, 0)))
    ((px_s4 cl P q.1 q.2 M.2.2 st w).map (fun z => .inr (.inr z))))))))
def px_exec (cl : List vw_C) (lt : List (List Int32)) (P : List px_M) : Nat → Nat → Option (List Int32) → px_M → Nat → List (Nat × Value) → List Value → px_W → Nat × Nat → Option (Option Value × px_W × (Nat × Nat))
  | 0, _, _, _, _, _, _, _, _ => none
  | n + 1, d, scr, M, pc, lv, st, w, b => match px_step cl lt P d scr M pc lv st w with
    | none => none
    | some (.inl z) => if z.2.2.2.2.1 ≤ b.1 ∧ z.2.2.2.2.2 ≤ b.2 then px_exec cl lt P n d scr M z.1 z.2.1 z.2.2.1 z.2.2.2.1 (b.1 - z.2.2.2.2.1, b.2 - z.2.2.2.2.2) else none
    | some (.inr (.inl v)) => some (v, w, b)
    | some (.inr (.inr q)) => match d, P[q.1]? with
      | d' + 1, some M' => if (lg_sl q.2.1).length ≤ M'.1.2.2.1 then (match px_exec cl lt P n d' none M' 0 (lv_args 0 q.2.1) [] w b with
        | none => none
        | some r => px_exec cl lt P n d scr M (pc + 3) lv (r.1.toList ++ q.2.2) r.2.1 r.2.2) else none
      | _, _ => none
theorem px_mono {cl : List vw_C} {lt : List (List Int32)} {P : List px_M} : ∀ (n d : Nat) (scr : Option (List Int32)) (M : px_M) (pc : Nat) (lv : List (Nat × Value)) (st : List Value) (w : px_W) (b : Nat × Nat) (r : Option Value × px_W × (Nat × Nat)), px_exec cl lt P n d scr M pc lv st w b = some r → r.2.2.1 ≤ b.1 ∧ r.2.2.2 ≤ b.2
  | 0, _, _, _, _, _, _, _, _, _, h => by simp [px_exec] at h
  | n + 1, d, scr, M, pc, lv, st, w, b, r, h => by
    unfold px_exec at h
    split at h
    · cases h
    · split at h
      · have := px_mono n d scr M _ _ _ _ _ r h
        simp only at this
        omega
      · cases h
    · cases h
      exact ⟨Nat.le_refl _, Nat.le_refl _⟩
    · split at h
      · split at h
        · split at h
          · cases h
          · rename_i r2 h2
            have h3 := px_mono n _ none _ _ _ _ _ _ r2 h2
            have h4 := px_mono n _ scr M _ _ _ _ _ r h
            omega
        · cases h
      · cases h
end
section
/-! THE MACHINE'S HEAP AND THE PURE CELLS -/
def px_tr (ad : Nat → Option Nat) (v : Value) : Value := match v with
  | .ref k => va_rf (ad k)
  | v => v
theorem px_tr_cat (ad : Nat → Option Nat) (v : Value) : (px_tr ad v).category = v.category := by
  cases v with
  | ref k =>
    show (va_rf (ad k)).category = 1
    cases ad k <;> rfl
  | _ => rfl
theorem px_tr_sum (ad : Nat → Option Nat) (l : List Value) : ((l.map (px_tr ad)).map fun v => v.category).sum = (l.map fun v => v.category).sum := by
  rw [List.map_map]
  congr 1
  exact List.map_congr_left (fun v _ => px_tr_cat ad v)
theorem px_tr_def (ad : Nat → Option Nat) (t : FieldType) : px_tr ad (defaultValue t) = defaultValue t := by cases t <;> rfl
def px_lv (ad : Nat → Option Nat) (lv : List (Nat × Value)) : List (Nat × Value) := lv.map (fun q => (q.1, px_tr ad q.2))
theorem px_sto_tr (ad : Nat → Option Nat) (lv : List (Nat × Value)) (i : Nat) (v : Value) : (i, px_tr ad v) :: (px_lv ad lv).filter (fun q => !(q.1 == i) && !(q.1 + 1 == i && q.2.category == 2)) = px_lv ad (px_sto lv i v) := by
  unfold px_lv px_sto
  rw [List.map_cons, List.filter_map]
  congr 2
  apply List.filter_congr
  intro q _
  show (!(q.1 == i) && !(q.1 + 1 == i && (px_tr ad q.2).category == 2)) = _
  rw [px_tr_cat]
theorem px_args_tr (ad : Nat → Option Nat) : ∀ (as : List Value) (i : Nat), lv_args i (as.map (px_tr ad)) = px_lv ad (lv_args i as)
  | [], _ => rfl
  | v :: vs, i => by
    show (i, px_tr ad v) :: lv_args (if (px_tr ad v).category = 2 then i + 2 else i + 1) (vs.map (px_tr ad)) = _
    rw [px_tr_cat, px_args_tr ad vs]
    rfl
theorem px_sl_tr (ad : Nat → Option Nat) : ∀ (as : List Value), (lg_sl (as.map (px_tr ad))).length = (lg_sl as).length
  | [] => rfl
  | v :: vs => by
    have ih := px_sl_tr ad vs
    unfold lg_sl at ih ⊢
    rw [List.map_cons, List.flatMap_cons, List.flatMap_cons, List.length_append, List.length_append, ih, px_tr_cat]
    congr 1
    split <;> rfl
def px_at (cl : List vw_C) (ad : Nat → Option Nat) (D : va_G) (cI cJ : ClassId) (a : Nat) (e : px_E) (H : Heap) : Prop := match e with
  | .inl l => H[a]? = some (vp_cell cI (l.length, .inl (fun j => l.getD j 0)))
  | .inr (.inl l) => H[a]? = some (vp_cell cJ (l.length, .inr (.inl (fun j => l.getD j 0))))
  | .inr (.inr o) => ∃ r : vw_C, cl[o.1]? = some r ∧ t_OB a (D.1 o.1) r.2.2 (D.2 o.1) H (vp_V (o.2.map (px_tr ad)))
def px_H (cl : List vw_C) (ad : Nat → Option Nat) (D : va_G) (cI cJ : ClassId) (B : Nat) (w : px_W) (H : Heap) : Prop := H.size = B + w.length ∧ ∀ (k : Nat) (e : px_E), w[k]? = some e → px_at cl ad D cI cJ (B + k) e H
theorem px_at.kept {cl : List vw_C} {ad : Nat → Option Nat} {D : va_G} {cI cJ : ClassId} {a : Nat} {e : px_E} {H H1 : Heap} (h : px_at cl ad D cI cJ a e H) (hq : H1[a]? = H[a]?) : px_at cl ad D cI cJ a e H1 := by
  match e, h with
  | .inl l, h => exact hq.trans h
  | .inr (.inl l), h => exact hq.trans h
  | .inr (.inr o), ⟨r, h1, h2⟩ => exact ⟨r, h1, h2.kept hq⟩
theorem px_H.set {cl : List vw_C} {ad : Nat → Option Nat} {D : va_G} {cI cJ : ClassId} {B k : Nat} {w : px_W} {e0 e : px_E} {H H1 : Heap} (h : px_H cl ad D cI cJ B w H) (hk : w[k]? = some e0) (hz : H1.size = H.size) (ho : ∀ q, q ≠ B + k → H1[q]? = H[q]?) (he : px_at cl ad D cI cJ (B + k) e H1) : px_H cl ad D cI cJ B (w.set k e) H1 := by
  have hl := (List.getElem?_eq_some_iff.mp hk).1
  refine ⟨by rw [hz, h.1, List.length_set], fun j x hj => ?_⟩
  by_cases hjk : j = k
  · subst hjk
    rw [List.getElem?_set_self hl] at hj
    cases hj
    exact he
  · rw [List.getElem?_set_ne (Ne.symm hjk)] at hj
    exact (h.2 j x hj).kept (ho _ (by omega))
theorem px_H.push {cl : List vw_C} {ad : Nat → Option Nat} {D : va_G} {cI cJ : ClassId} {B : Nat} {w : px_W} {e : px_E} {H H1 : Heap} (h : px_H cl ad D cI cJ B w H) (hz : H1.size = H.size + 1) (ho : ∀ q, q < H.size → H1[q]? = H[q]?) (he : px_at cl ad D cI cJ H.size e H1) : px_H cl ad D cI cJ B (w ++ [e]) H1 := by
  refine ⟨by rw [hz, h.1, List.length_append]; simp; omega, fun j x hj => ?_⟩
  by_cases hl : j < w.length
  · rw [List.getElem?_append_left hl] at hj
    exact (h.2 j x hj).kept (ho _ (by rw [h.1]; omega))
  · rw [List.getElem?_append_right (by omega)] at hj
    have hz0 : j - w.length < 1 := (List.getElem?_eq_some_iff.mp hj).1
    have hj0 : j = w.length := by omega
    subst hj0
    rw [Nat.sub_self] at hj
    cases hj
    rw [← h.1]
    exact he
theorem px_getD_set {α : Type} {l : List α} {k : Nat} {z d : α} (hk : k < l.length) (j : Nat) : (l.set k z).getD j d = if j = k then z else l.getD j d := by
  rw [List.getD_eq_getElem?_getD, List.getD_eq_getElem?_getD]
  by_cases h : j = k
  · subst h
    rw [if_pos rfl, List.getElem?_set_self hk]
    rfl
  · rw [if_neg h, List.getElem?_set_ne (Ne.symm h)]
theorem px_cell_set {cA : ClassId} {l : List Int32} {k : Nat} {z : Int32} (hk : k < l.length) : (vp_cell cA (l.length, .inl (fun j => l.getD j 0))).setSlot k (.int z) = vp_cell cA ((l.set k z).length, .inl (fun j => (l.set k z).getD j 0)) := by
  rw [vp_cell_i, vp_cell_i, arrV_store, List.length_set]
  congr 1
  funext j
  rw [px_getD_set hk]
  unfold updV
  split <;> rfl
theorem px_cell_setL {cA : ClassId} {l : List Int64} {k : Nat} {z : Int64} (hk : k < l.length) : (vp_cell cA (l.length, .inr (.inl (fun j => l.getD j 0)))).setSlot k (.long z) = vp_cell cA ((l.set k z).length, .inr (.inl (fun j => (l.set k z).getD j 0))) := by
  rw [vp_cell_l, vp_cell_l, arrV_store, List.length_set]
  congr 1
  funext j
  rw [px_getD_set hk]
  unfold updV
  split <;> rfl
theorem px_cpy_len {a b : List Int32} {sp dp n : Nat} (h1 : sp + n ≤ a.length) (h2 : dp + n ≤ b.length) : (px_cpy a b sp dp n).length = b.length := by
  unfold px_cpy
  simp only [List.length_append, List.length_take, List.length_drop]
  omega
theorem px_cpy_at {a b : List Int32} {sp dp n : Nat} (h1 : sp + n ≤ a.length) (h2 : dp + n ≤ b.length) (j : Nat) : (px_cpy a b sp dp n).getD j 0 = va_cpy (fun j => a.getD j 0) (fun j => b.getD j 0) sp dp n j := by
  unfold px_cpy va_cpy
  simp only [List.getD_eq_getElem?_getD]
  have l1 : (b.take dp).length = dp := by rw [List.length_take]; omega
  have l2 : ((a.drop sp).take n).length = n := by rw [List.length_take, List.length_drop]; omega
  by_cases c1 : j < dp
  · rw [List.getElem?_append_left (by omega), if_neg (by omega), List.getElem?_take_of_lt c1]
  · by_cases c2 : j < dp + n
    · rw [List.getElem?_append_right (by omega), l1, List.getElem?_append_left (by omega), if_pos (by omega), List.getElem?_take_of_lt (by omega), List.getElem?_drop]
    · rw [List.getElem?_append_right (by omega), l1, List.getElem?_append_right (by omega), l2, if_neg (by omega), List.getElem?_drop]
      congr 2
      omega
theorem px_fit_ok {t : FieldType} {v : Value} (ad : Nat → Option Nat) (h : px_fit t v = true) : narrow t (px_tr ad v) = px_tr ad v ∧ fits t (px_tr ad v) = true := by
  cases v with
  | int x =>
    unfold px_fit at h
    simp only [Bool.and_eq_true, decide_eq_true_eq] at h
    exact h
  | ref a =>
    unfold px_fit px_rt at h
    show narrow t (va_rf (ad a)) = va_rf (ad a) ∧ fits t (va_rf (ad a)) = true
    cases t <;> first | (cases ad a <;> exact ⟨rfl, rfl⟩) | simp at h
  | _ => simp [px_fit] at h
/-! what the tables must say of a program -/
def px_okK (Ts : List Cond) (r : vw_C) : Prop := (∀ w ∈ u_ws r.1 r.2.1 r.2.2, w ∈ Ts) ∧ (∀ k, k < r.2.2 → parseFieldDescriptor (r.2.1 k).2.2.1 = some (px_ty r.2.1 k)) ∧ (∀ a, a < r.2.2 → ∀ b, b < r.2.2 → a ≠ b → (r.2.1 a).2.1 ≠ (r.2.1 b).2.1) ∧ Cond.instantiable r.1 r.2.2 ∈ Ts ∧ Cond.initialized r.1 ∈ Ts
def px_okF (Ts : List Cond) (cl : List vw_C) (own : String) (q : Nat × Nat × Nat) : Prop := ∃ r : vw_C, cl[q.2.1]? = some r ∧ q.2.2 < r.2.2 ∧ Cond.fieldLink own q.1 (r.2.1 q.2.2).1 (r.2.1 q.2.2).2.1 (r.2.1 q.2.2).2.2.1 ∈ Ts
def px_okC (Ts Ns : List Cond) (P : List px_M) (own : String) (q : Nat × Nat × Nat) : Prop :=
  (q.2.1 = 6 → Cond.methodLink own q.1 arraycopyName ∈ Ts ∧ Cond.native arraycopyName ∈ Ts ∧ Cond.static arraycopyName ∈ Ts ∧ Cond.initialized "java/lang/System" ∈ Ts) ∧
  (q.2.1 = 7 → Cond.methodLink own q.1 objectInit ∈ Ts ∧ Cond.instanceMethod objectInit ∈ Ts ∧ Cond.code objectInit ⟨#[0xb1]⟩ 1 none ∈ Ts) ∧
  (∀ M : px_M, P[q.2.2]? = some M → (q.2.1 = 0 → Cond.methodLink own q.1 M.1.1 ∈ Ts ∧ Cond.instanceMethod M.1.1 ∈ Ts ∧ Cond.selects M.1.1.cls M.1.1 M.1.1 ∈ Ts) ∧
    (q.2.1 = 1 → Cond.methodLink own q.1 M.1.1 ∈ Ts ∧ Cond.static M.1.1 ∈ Ts) ∧
    (q.2.1 = 2 → Cond.methodLink own q.1 M.1.1 ∈ Ts ∧ M.1.1.name = "<init>" ∧ Cond.instanceMethod M.1.1 ∈ Ts ∧ M.1.2.2.2.1 = none) ∧
    (q.2.1 = 4 → Cond.methodLinkNest own q.1 M.1.1 "HalfBoats" ∈ Ns ∧ Cond.static M.1.1 ∈ Ts) ∧
    (q.2.1 = 5 → Cond.methodLinkNest own q.1 M.1.1 "HalfBoats" ∈ Ns ∧ M.1.1.name = "<init>" ∧ Cond.instanceMethod M.1.1 ∈ Ts ∧ M.1.2.2.2.1 = none)) ∧
  (q.2.1 = 8 → Cond.methodLink own q.1 Lib.Math.max.name ∈ Ts ∧ Cond.static Lib.Math.max.name ∈ Ts ∧ Cond.initialized "java/lang/Math" ∈ Ts ∧ Cond.code Lib.Math.max.name Lib.Math.max.code 2 (some .int) ∈ Ts) ∧
  (q.2.1 = 9 → Cond.methodLink own q.1 Lib.Math.min.name ∈ Ts ∧ Cond.static Lib.Math.min.name ∈ Ts ∧ Cond.initialized "java/lang/Math" ∈ Ts ∧ Cond.code Lib.Math.min.name Lib.Math.min.code 2 (some .int) ∈ Ts) ∧
  (q.2.1 = 10 → Cond.methodLink own q.1 Lib.Math.abs.name ∈ Ts ∧ Cond.static Lib.Math.abs.name ∈ Ts ∧ Cond.initialized "java/lang/Math" ∈ Ts ∧ Cond.code Lib.Math.abs.name Lib.Math.abs.code 1 (some .int) ∈ Ts)
def px_okL (Ts Ns : List Cond) (cl : List vw_C) (SL : List (String × Nat × Nat)) (P : List px_M) (own : String) (L : px_L) : Prop :=
  (∀ q ∈ L.1, px_okF Ts cl own q) ∧ (∀ q ∈ L.2.1, px_okC Ts Ns P own q) ∧ (∀ q ∈ L.2.2.1, ∃ r : vw_C, cl[q.2]? = some r ∧ Cond.classLink own q.1 r.1 ∈ Ts) ∧ (∀ q ∈ L.2.2.2.1, Cond.constant own q.1 q.2 ∈ Ts) ∧ (∀ q ∈ L.2.2.2.2.1, Cond.constantLong own q.1 q.2 ∈ Ts) ∧ (∀ q ∈ L.2.2.2.2.2.1, (own, q.1, q.2) ∈ SL) ∧
  (∀ q ∈ L.2.2.2.2.2.2.1, (q.2 = 0 → Cond.fieldLink own q.1 "java/lang/String" "COMPACT_STRINGS" "Z" ∈ Ts) ∧ (q.2 = 1 → Cond.fieldLink own q.1 "jdk/internal/util/Preconditions" "SIOOBE_FORMATTER" "Ljava/util/function/BiFunction;" ∈ Ts)) ∧
  ∀ q ∈ L.2.2.2.2.2.2.2, (q.2 = 0 → Cond.fieldLink own q.1 "java/lang/String" "value" "[B" ∈ Ts) ∧ (q.2 = 1 → Cond.fieldLink own q.1 "java/lang/String" "coder" "B" ∈ Ts)
def px_okM (Ts Ns : List Cond) (cl : List vw_C) (SL : List (String × Nat × Nat)) (P : List px_M) (M : px_M) : Prop :=
  (Cond.code M.1.1 M.1.2.1 M.1.2.2.1 M.1.2.2.2.1 ∈ Ts ∧ plainName M.1.1.cls = true ∧ Cond.initialized M.1.1.cls ∈ Ts ∧ (M.1.1.cls ≠ "java/lang/invoke/MethodHandle" ∧ M.1.1.cls ≠ "java/lang/invoke/VarHandle" ∧ (parseMethodDescriptor M.1.1.desc).map (fun d => d.parameters.length) = some M.1.2.2.2.2) ∧ M.1.2.2.1 ≤ 64) ∧
  (∀ q ∈ M.2.1, decode M.1.2.1 q.1 = .ok q.2) ∧ px_okL Ts Ns cl SL P M.1.1.cls M.2.2
def px_okP (Ts Ns : List Cond) (cl : List vw_C) (SL : List (String × Nat × Nat)) (P : List px_M) : Prop :=
  (∀ r ∈ cl, px_okK Ts r) ∧ (∀ M ∈ P, px_okM Ts Ns cl SL P M) ∧ Cond.arrayClass .int ∈ Ts ∧ Cond.arrayClass .long ∈ Ts ∧ (∀ w ∈ Ts, goodWord w = true) ∧ ∀ x ∈ Ns, ∃ (a : String) (i : Nat) (y : MethodName) (h : String), x = Cond.methodLinkNest a i y h
/-- what holds all through a method's body -/
def px_Env (Ts Ns : List Cond) (cl : List vw_C) (D : va_G) (cI cJ : ClassId) (h : px_Hd) (p : Program) (s : State) (m : MethodId) (args : Array Value) (meth : Method) (c : Code) : Prop :=
  p.tables.exec = Jvm.exec ∧ c.code = h.2.1 ∧ c.maxLocals = h.2.2.1 ∧ meth.sig.returnType = h.2.2.2.1 ∧ meth.locks = false ∧ (h.1.name = "<init>" → meth.name = "<init>") ∧ s.vm.findClass h.1.cls = some m.cls ∧ (∀ w ∈ Ts, w.before args s = true) ∧ va_K D cl [(cI, .int), (cJ, .long)] s ∧ ∀ x ∈ Ns, va_Nw x s
/-- texts and statics, which nobody writes -/
def px_X (lt : List (List Int32)) (SL : List (String × Nat × Nat)) (ad : Nat → Option Nat) (B : Nat) (U : State) (H : Heap) : Prop := ∃ (adK adV : Nat → Nat), (∀ j, j < 16 → ad (1 + j) = some (adK j) ∧ ad (17 + j) = some (adV j)) ∧ vk_S 16 (lt.map List.length) lt adK adV (fun q => B ≤ q) U H ∧ (∀ q ∈ SL, q.2.2 < 16 ∧ ∃ tx, vk_R q.1 q.2.1 tx (adK q.2.2) U) ∧ va_Z "java/lang/String" "COMPACT_STRINGS" "Z" (.int 1) (fun q => B ≤ q) U H ∧ va_Z "jdk/internal/util/Preconditions" "SIOOBE_FORMATTER" "Ljava/util/function/BiFunction;" (va_rf (ad 33)) (fun q => B ≤ q) U H
theorem px_X.to {lt : List (List Int32)} {SL : List (String × Nat × Nat)} {ad : Nat → Option Nat} {B : Nat} {u U : State} {H H1 : Heap} (hW : u.WarmedH U.vm) (hf : ∀ q, q < B → H1[q]? = H[q]?) (h : px_X lt SL ad B u H) : px_X lt SL ad B U H1 := by
  obtain ⟨adK, adV, h1, h2, h3, h4, h5⟩ := h
  have hk : ∀ a : Nat, a < H.size → ¬ B ≤ a → H1[a]? = H[a]? := fun a _ z => hf a (Nat.not_le.mp z)
  exact ⟨adK, adV, h1, (h2.moved hW.alike).kept hk, fun q hq => ⟨(h3 q hq).1, (h3 q hq).2.elim (fun tx z => ⟨tx, z.warm hW⟩)⟩, (h4.moved hW.alike).kept hk, (h5.moved hW.alike).kept hk⟩
theorem px_X.same {lt : List (List Int32)} {SL : List (String × Nat × Nat)} {ad : Nat → Option Nat} {B : Nat} {u U : State} {H : Heap} (hv : U.vm = u.vm) (h : px_X lt SL ad B u H) : px_X lt SL ad B U H := by
  obtain ⟨adK, adV, h1, h2, h3, h4, h5⟩ := h
  have ha : u.vm.Alike U.vm := by rw [hv]; exact Vm.Alike.refl _
  exact ⟨adK, adV, h1, h2.moved ha, fun q hq => ⟨(h3 q hq).1, (h3 q hq).2.elim (fun tx z => ⟨tx, z.same hv⟩)⟩, h4.moved ha, h5.moved ha⟩
end
section
/-! ROWS: what needs neither cells nor the pool -/
section PX1
variable {p : Program} {l : Launch} {e : Env} {R : Room} {s : State} {m : MethodId} {args : Array Value} {below : List Frame} {meth : Method} {c : Code} {H : Heap} {locs : List Loc} {cells slots : Nat} {Q : State → Prop}
variable {cc : ByteArray} {pc : Nat} {ls : Array Slot} {rest : List Value}
theorem px_bin_W (hx : p.tables.exec = Jvm.exec) (hb : c.code = cc) {i : Instr} {x y z : Int32} (hd : decode cc pc = .ok (i, 1)) (hz : px_bin i x y = some z)
    (k : W p l e R s m args below meth c H locs cells slots Q (F0 m (pc + 1) ls (.int z :: rest))) : W p l e R s m args below meth c H locs cells slots Q (F0 m pc ls (.int y :: .int x :: rest)) := by
  unfold px_bin at hz
  split at hz
  · cases hz; exact lv_iadd hx hb hd k
  · cases hz; exact lv_isub hx hb hd k
  · cases hz; exact lv_imul hx hb hd k
  · cases hz; exact lv_iand hx hb hd k
  · cases hz; exact lv_ior hx hb hd k
  · cases hz; exact lv_ixor hx hb hd k
  · cases hz; exact lv_ishl hx hb hd k
  · cases hz; exact lv_ishr hx hb hd k
  · cases hz; exact lv_iushr hx hb hd rfl k
  · split at hz
    · cases hz
    · rename_i hne
      cases hz; exact lv_idiv hx hb hd hne k
  · split at hz
    · cases hz
    · rename_i hne
      cases hz; exact lv_irem hx hb hd hne k
  · cases hz
theorem px_un_W (hx : p.tables.exec = Jvm.exec) (hb : c.code = cc) (ad : Nat → Option Nat) {i : Instr} {v z : Value} (hd : decode cc pc = .ok (i, 1)) (hz : px_un i v = some z)
    (k : W p l e R s m args below meth c H locs cells slots Q (F0 m (pc + 1) ls (px_tr ad z :: rest))) : W p l e R s m args below meth c H locs cells slots Q (F0 m pc ls (px_tr ad v :: rest)) := by
  unfold px_un at hz
  split at hz
  · cases hz; exact lv_ineg hx hb hd k
  · cases hz; exact lv_i2l hx hb hd rfl k
  · cases hz; exact lv_i2b hx hb hd rfl k
  · cases hz; exact lv_i2s hx hb hd rfl k
  · cases hz; exact lv_i2c hx hb hd rfl k
  · cases hz; exact lv_l2i hx hb hd rfl k
  · cases hz
theorem px_lb_W (hx : p.tables.exec = Jvm.exec) (hb : c.code = cc) (ad : Nat → Option Nat) {i : Instr} {x z : Int64} {v : Value} (hd : decode cc pc = .ok (i, 1)) (hz : px_lb i x v = some z)
    (k : W p l e R s m args below meth c H locs cells slots Q (F0 m (pc + 1) ls (.long z :: rest))) : W p l e R s m args below meth c H locs cells slots Q (F0 m pc ls (px_tr ad v :: .long x :: rest)) := by
  unfold px_lb at hz
  split at hz
  · cases hz; exact lv_land hx hb hd k
  · cases hz; exact lv_lor hx hb hd k
  · cases hz; exact lv_lshl hx hb hd rfl k
  · cases hz; exact lv_lshr hx hb hd rfl k
  · cases hz
theorem px_cst_W (hx : p.tables.exec = Jvm.exec) (hb : c.code = cc) (ad : Nat → Option Nat) {i : Instr} {q : Value × Nat} (hd : decode cc pc = .ok (i, q.2)) (hz : px_cst i = some q)
    (k : W p l e R s m args below meth c H locs cells slots Q (F0 m (pc + q.2) ls (px_tr ad q.1 :: rest))) : W p l e R s m args below meth c H locs cells slots Q (F0 m pc ls rest) := by
  unfold px_cst at hz
  split at hz
  · cases hz; exact lv_iconst hx hb hd rfl k
  · cases hz; exact lv_bipush hx hb hd rfl k
  · cases hz; exact lv_sipush hx hb hd rfl k
  · cases hz; exact lv_lconst hx hb hd rfl k
  · cases hz
theorem px_so_int {v : Value} (h : px_so v = 0) : ∃ x, v = .int x := by
  cases v with
  | int x => exact ⟨x, rfl⟩
  | _ => simp [px_so] at h
theorem px_so_long {v : Value} (h : px_so v = 1) : ∃ x, v = .long x := by
  cases v with
  | long x => exact ⟨x, rfl⟩
  | _ => simp [px_so] at h
theorem px_so_ref {v : Value} (h : px_so v = 2) : ∃ x, v = .ref x := by
  cases v with
  | ref x => exact ⟨x, rfl⟩
  | _ => simp [px_so] at h
theorem px_ld_W (hx : p.tables.exec = Jvm.exec) (hb : c.code = cc) (ad : Nat → Option Nat) {i : Instr} {q : Nat × Nat × Nat} {v : Value} (hd : decode cc pc = .ok (i, q.2.1)) (hz : px_ld i = some q) (hv : px_so v = q.2.2) (hl : ls[q.1]? = some (.val (px_tr ad v)))
    (k : W p l e R s m args below meth c H locs cells slots Q (F0 m (pc + q.2.1) ls (px_tr ad v :: rest))) : W p l e R s m args below meth c H locs cells slots Q (F0 m pc ls rest) := by
  unfold px_ld at hz
  split at hz
  · cases hz
    obtain ⟨x, rfl⟩ := px_so_int hv
    exact lv_iload_n hx hb hd rfl hl k
  · cases hz
    obtain ⟨x, rfl⟩ := px_so_int hv
    exact lv_iload hx hb hd hl k
  · cases hz
    obtain ⟨x, rfl⟩ := px_so_long hv
    exact lv_lload_n hx hb hd rfl hl k
  · cases hz
    obtain ⟨x, rfl⟩ := px_so_long hv
    exact lv_lload hx hb hd hl k
  · cases hz
    obtain ⟨x, rfl⟩ := px_so_ref hv
    simp only [px_tr] at hl k
    cases hx2 : ad x with
    | none => rw [hx2] at hl k; exact lv_aload_nN hx hb hd rfl hl k
    | some a => rw [hx2] at hl k; exact lv_aload_n hx hb hd rfl hl k
  · cases hz
    obtain ⟨x, rfl⟩ := px_so_ref hv
    simp only [px_tr] at hl k
    cases hx2 : ad x with
    | none => rw [hx2] at hl k; exact lv_aloadN hx hb hd hl k
    | some a => rw [hx2] at hl k; exact lv_aload hx hb hd hl k
  · cases hz
theorem px_st_W (hx : p.tables.exec = Jvm.exec) (hb : c.code = cc) (ad : Nat → Option Nat) {i : Instr} {q : Nat × Nat × Nat} {v : Value} {mx : Nat} {lv : List (Nat × Value)} (hd : decode cc pc = .ok (i, q.2.1)) (hz : px_st i = some q) (hv : px_so v = q.2.2) (hn : q.1 < mx) (hl : lv_has ls mx (px_lv ad lv))
    (k : ∀ ls' : Array Slot, lv_has ls' mx (px_lv ad (px_sto lv q.1 v)) → W p l e R s m args below meth c H locs cells slots Q (F0 m (pc + q.2.1) ls' rest)) : W p l e R s m args below meth c H locs cells slots Q (F0 m pc ls (px_tr ad v :: rest)) := by
  have hs := px_sto_tr ad lv q.1 v
  unfold px_st at hz
  split at hz
  · cases hz
    obtain ⟨x, rfl⟩ := px_so_int hv
    exact lv_istore_n hx hb hd rfl hl hn hs k
  · cases hz
    obtain ⟨x, rfl⟩ := px_so_int hv
    exact lv_istore hx hb hd hl hn hs k
  · cases hz
    obtain ⟨x, rfl⟩ := px_so_ref hv
    have e1 : px_tr ad (.ref x) = va_rf (ad x) := rfl
    rw [e1] at hs ⊢
    cases hx2 : ad x with
    | none => rw [hx2] at hs; exact lv_astore_nN hx hb hd rfl hl hn hs k
    | some a => rw [hx2] at hs; exact lv_astore_n hx hb hd rfl hl hn hs k
  · cases hz
    obtain ⟨x, rfl⟩ := px_so_ref hv
    have e1 : px_tr ad (.ref x) = va_rf (ad x) := rfl
    rw [e1] at hs ⊢
    cases hx2 : ad x with
    | none => rw [hx2] at hs; exact lv_astoreN hx hb hd hl hn hs k
    | some a => rw [hx2] at hs; exact lv_astore hx hb hd hl hn hs k
  · cases hz
theorem px_stk_W (hx : p.tables.exec = Jvm.exec) (hb : c.code = cc) (ad : Nat → Option Nat) {i : Instr} {st r : List Value} (hd : decode cc pc = .ok (i, 1)) (hz : px_stk i st = some r)
    (k : W p l e R s m args below meth c H locs cells slots Q (F0 m (pc + 1) ls (r.map (px_tr ad)))) : W p l e R s m args below meth c H locs cells slots Q (F0 m pc ls (st.map (px_tr ad))) := by
  unfold px_stk at hz
  split at hz
  · split at hz
    · rename_i h1
      cases hz; exact lv_dup hx hb hd ((px_tr_cat ad _).trans h1) k
    · cases hz
  · split at hz
    · rename_i h1
      cases hz; exact lv_pop hx hb hd ((px_tr_cat ad _).trans h1) k
    · cases hz
  · split at hz
    · rename_i h1
      cases hz; exact lv_dup_x1 hx hb hd ((px_tr_cat ad _).trans h1.1) ((px_tr_cat ad _).trans h1.2) k
    · cases hz
  · split at hz
    · rename_i h1
      cases hz; exact lv_dup2_11 hx hb hd ((px_tr_cat ad _).trans h1.1) ((px_tr_cat ad _).trans h1.2) k
    · cases hz
  · cases hz
theorem px_tgt_eq {pc t : Nat} {off : Int} (h : px_tgt pc off = some t) : (pc : Int) + off = (t : Int) := by
  unfold px_tgt at h
  split at h
  · cases h
    omega
  · cases h
theorem px_if_W (hx : p.tables.exec = Jvm.exec) (hb : c.code = cc) {k : Jvm.ClassFile.Cond} {x : Int32} {off : Int} {t : Nat} (hd : decode cc pc = .ok (.ifCond k off, 3)) (ht : (pc : Int) + off = (t : Int))
    (kk : W p l e R s m args below meth c H locs cells slots Q (F0 m (if px_cnd k x 0 = true then t else pc + 3) ls rest)) : W p l e R s m args below meth c H locs cells slots Q (F0 m pc ls (.int x :: rest)) := by
  have kt : px_cnd k x 0 = true → W p l e R s m args below meth c H locs cells slots Q (F0 m t ls rest) := fun h => by rw [if_pos h] at kk; exact kk
  have kf : ¬ px_cnd k x 0 = true → W p l e R s m args below meth c H locs cells slots Q (F0 m (pc + 3) ls rest) := fun h => by rw [if_neg h] at kk; exact kk
  cases k
  · exact lv_if_eq hx hb hd ht (fun h => kt (decide_eq_true h)) (fun h => kf (fun z => h (of_decide_eq_true z)))
  · exact lv_if_ne hx hb hd ht (fun h => kt (decide_eq_true h)) (fun h => kf (fun z => (of_decide_eq_true z : ¬ x = 0) h))
  · exact lv_if_lt hx hb hd ht (fun h => kt (decide_eq_true h)) (fun h => kf (fun z => h (of_decide_eq_true z)))
  · exact lv_if_ge hx hb hd ht (fun h => kt (decide_eq_true h)) (fun h => kf (fun z => h (of_decide_eq_true z)))
  · exact lv_if_gt hx hb hd ht (fun h => kt (decide_eq_true h)) (fun h => kf (fun z => h (of_decide_eq_true z)))
  · exact lv_if_le hx hb hd ht (fun h => kt (decide_eq_true h)) (fun h => kf (fun z => h (of_decide_eq_true z)))
theorem px_icmp_W (hx : p.tables.exec = Jvm.exec) (hb : c.code = cc) {k : Jvm.ClassFile.Cond} {x y : Int32} {off : Int} {t : Nat} (hd : decode cc pc = .ok (.if_icmp k off, 3)) (ht : (pc : Int) + off = (t : Int))
    (kk : W p l e R s m args below meth c H locs cells slots Q (F0 m (if px_cnd k x y = true then t else pc + 3) ls rest)) : W p l e R s m args below meth c H locs cells slots Q (F0 m pc ls (.int y :: .int x :: rest)) := by
  have kt : px_cnd k x y = true → W p l e R s m args below meth c H locs cells slots Q (F0 m t ls rest) := fun h => by rw [if_pos h] at kk; exact kk
  have kf : ¬ px_cnd k x y = true → W p l e R s m args below meth c H locs cells slots Q (F0 m (pc + 3) ls rest) := fun h => by rw [if_neg h] at kk; exact kk
  cases k
  · exact lv_icmp_eq hx hb hd ht (fun h => kt (decide_eq_true h)) (fun h => kf (fun z => h (of_decide_eq_true z)))
  · exact lv_icmp_ne hx hb hd ht (fun h => kt (decide_eq_true h)) (fun h => kf (fun z => (of_decide_eq_true z : ¬ x = y) h))
  · exact lv_icmp_lt hx hb hd ht (fun h => kt (decide_eq_true h)) (fun h => kf (fun z => h (of_decide_eq_true z)))
  · exact lv_icmp_ge hx hb hd ht (fun h => kt (decide_eq_true h)) (fun h => kf (fun z => h (of_decide_eq_true z)))
  · exact lv_icmp_gt hx hb hd ht (fun h => kt (decide_eq_true h)) (fun h => kf (fun z => h (of_decide_eq_true z)))
  · exact lv_icmp_le hx hb hd ht (fun h => kt (decide_eq_true h)) (fun h => kf (fun z => h (of_decide_eq_true z)))
theorem px_br_W (hx : p.tables.exec = Jvm.exec) (hb : c.code = cc) (ad : Nat → Option Nat) {i : Instr} {len : Nat} {st : List Value} {q : Nat × List Value} (hd : decode cc pc = .ok (i, len)) (hz : px_br i pc len st = some q)
    (k : W p l e R s m args below meth c H locs cells slots Q (F0 m q.1 ls (q.2.map (px_tr ad)))) : W p l e R s m args below meth c H locs cells slots Q (F0 m pc ls (st.map (px_tr ad))) := by
  unfold px_br at hz
  split at hz
  · split at hz
    · rename_i hl
      subst hl
      obtain ⟨t, ht, hq⟩ := Option.map_eq_some_iff.mp hz
      subst hq
      exact lv_goto hx hb hd (px_tgt_eq ht) k
    · cases hz
  · split at hz
    · rename_i hl
      subst hl
      obtain ⟨t, ht, hq⟩ := Option.map_eq_some_iff.mp hz
      subst hq
      exact px_if_W hx hb hd (px_tgt_eq ht) k
    · cases hz
  · split at hz
    · rename_i hl
      subst hl
      obtain ⟨t, ht, hq⟩ := Option.map_eq_some_iff.mp hz
      subst hq
      exact px_icmp_W hx hb hd (px_tgt_eq ht) k
    · cases hz
  · split at hz
    · rename_i hc
      obtain ⟨t, ht, hq⟩ := Option.map_eq_some_iff.mp hz
      subst hq
      exact lv_tableOut hx hb hd hc (px_tgt_eq ht) k
    · rename_i hc
      obtain ⟨t, ht, hq⟩ := Option.map_eq_some_iff.mp hz
      subst hq
      obtain ⟨o, ho, ht⟩ := Option.bind_eq_some_iff.mp ht
      exact lv_tableIn hx hb hd (fun z => hc (Or.inl z)) (fun z => hc (Or.inr z)) ho (px_tgt_eq ht) k
  · cases hz
theorem px_W1 (hx : p.tables.exec = Jvm.exec) (hb : c.code = cc) (ad : Nat → Option Nat) {i : Instr} {len mx : Nat} {lv : List (Nat × Value)} {st : List Value} {z : Nat × List (Nat × Value) × List Value} (hd : decode cc pc = .ok (i, len)) (hz : px_s1 i len pc mx lv st = some z) (hl : lv_has ls mx (px_lv ad lv))
    (k : ∀ ls' : Array Slot, lv_has ls' mx (px_lv ad z.2.1) → W p l e R s m args below meth c H locs cells slots Q (F0 m z.1 ls' (z.2.2.map (px_tr ad)))) : W p l e R s m args below meth c H locs cells slots Q (F0 m pc ls (st.map (px_tr ad))) := by
  have hat : ∀ (j : Nat) (v : Value), px_look lv j = some v → (j, px_tr ad v) ∈ px_lv ad lv := fun j v h => List.mem_map.mpr ⟨(j, v), px_look_mem h, rfl⟩
  unfold px_s1 at hz
  have hz1 := px_or_some hz
  clear hz
  rcases hz1 with h | hz
  · split at h
    · split at h
      · rename_i hl1
        rw [hl1] at hd
        obtain ⟨t, ht, hq⟩ := Option.map_eq_some_iff.mp h
        subst hq
        exact px_bin_W hx hb hd ht (k ls hl)
      · cases h
    · cases h
  have hz1 := px_or_some hz
  clear hz
  rcases hz1 with h | hz
  · obtain ⟨q, hq, h⟩ := Option.bind_eq_some_iff.mp h
    obtain ⟨v, hv, h⟩ := Option.bind_eq_some_iff.mp h
    split at h
    · rename_i hc
      cases h
      rw [hc.1] at hd k
      exact px_ld_W hx hb ad hd hq hc.2 (hl.2.2 _ (hat _ _ hv)) (k ls hl)
    · cases h
  have hz1 := px_or_some hz
  clear hz
  rcases hz1 with h | hz
  · obtain ⟨q, hq, h⟩ := Option.bind_eq_some_iff.mp h
    split at h
    · rename_i hc
      cases h
      rw [hc] at hd k
      exact px_cst_W hx hb ad hd hq (k ls hl)
    · cases h
  have hz1 := px_or_some hz
  clear hz
  rcases hz1 with h | hz
  · obtain ⟨q, hq, h⟩ := Option.map_eq_some_iff.mp h
    subst h
    exact px_br_W hx hb ad hd hq (k ls hl)
  have hz1 := px_or_some hz
  clear hz
  rcases hz1 with h | hz
  · split at h
    · obtain ⟨q, hq, h⟩ := Option.bind_eq_some_iff.mp h
      split at h
      · rename_i hc
        cases h
        rw [hc.1] at hd k
        exact px_st_W hx hb ad hd hq hc.2.1 hc.2.2 hl k
      · cases h
    · cases h
  have hz1 := px_or_some hz
  clear hz
  rcases hz1 with h | hz
  · split at h
    · obtain ⟨v, hv, h⟩ := Option.bind_eq_some_iff.mp h
      split at h
      · split at h
        · rename_i hc
          cases h
          rw [hc.1] at hd
          obtain ⟨j, hj⟩ := List.getElem?_of_mem (hat _ _ hv)
          exact lv_iinc hx hb hd hl hj rfl hc.2 (px_sto_tr ad lv _ (.int _)) k
        · cases h
      · cases h
    · cases h
  have hz1 := px_or_some hz
  clear hz
  rcases hz1 with h | hz
  · split at h
    · rename_i hc
      rw [hc] at hd
      obtain ⟨q, hq, h2⟩ := Option.map_eq_some_iff.mp h
      clear h
      subst h2
      exact px_stk_W hx hb ad hd hq (k ls hl)
    · cases h
  have hz1 := px_or_some hz
  clear hz
  rcases hz1 with h | h
  · split at h
    · split at h
      · rename_i hc
        rw [hc] at hd
        obtain ⟨q, hq, h2⟩ := Option.map_eq_some_iff.mp h
        clear h
        subst h2
        exact px_un_W hx hb ad hd hq (k ls hl)
      · cases h
    · cases h
  · split at h
    · split at h
      · rename_i hc
        rw [hc] at hd
        obtain ⟨q, hq, h2⟩ := Option.map_eq_some_iff.mp h
        clear h
        subst h2
        exact px_lb_W hx hb ad hd hq (k ls hl)
      · cases h
    · cases h
end PX1
end
section
/-! ROWS: cells and the pool -/
section PX2
variable {p : Program} {l : Launch} {e : Env} {R : Room} {s : State} {m : MethodId} {args : Array Value} {below : List Frame} {meth : Method} {c : Code} {H : Heap} {locs : List Loc} {cells slots : Nat} {Q : State → Prop}
variable {cc : ByteArray} {pc : Nat} {ls : Array Slot} {rest : List Value} {cl : List vw_C} {ad : Nat → Option Nat} {D : va_G} {cI cJ : ClassId} {B : Nat} {w : px_W} {tys : List (ClassId × FieldType)} {Ts : List Cond} {own : String}
theorem px_get_W (hx : p.tables.exec = Jvm.exec) (hb : c.code = cc) (hts : ∀ w ∈ Ts, w.before args s = true) (hown : s.vm.findClass own = some m.cls) (hK : va_K D cl tys s) {r : vw_C} {ci k index a : Nat} (hc : cl[ci]? = some r) (hr : px_okK Ts r) (hk : k < r.2.2) (hlink : Cond.fieldLink own index (r.2.1 k).1 (r.2.1 k).2.1 (r.2.1 k).2.2.1 ∈ Ts) {fs : List Value} (he : px_at cl ad D cI cJ a (.inr (.inr (ci, fs))) H) {v : Value} (hv : fs[k]? = some v) (hdg : decode cc pc = .ok (.getfield index, 3))
    (kk : W p l e R s m args below meth c H locs cells slots Q (F0 m (pc + 3) ls (px_tr ad v :: rest))) : W p l e R s m args below meth c H locs cells slots Q (F0 m pc ls (.ref a :: rest)) := by
  obtain ⟨r', h1, cell, q1, q2, q3, q4⟩ := he
  have hr' : r' = r := Option.some.inj (h1.symm.trans hc)
  subst hr'
  obtain ⟨hS, hfc, kC, hkC, hkind⟩ := hK.1 ci _ hc
  obtain ⟨cf, kf, fi, f, hi, hsl⟩ := hS k hk
  refine W.getf hx hb hown (hts _ hlink) hi (u_facts hfc hkC (u_lays hts hr.1 hk) hi).1 q1 (by rw [q3]; exact fun h => by cases h) (v := px_tr ad v) ?_ rfl rfl hdg kk
  rw [hsl, q4 k hk]
  simp [vp_V, hv]
theorem px_put_W (hx : p.tables.exec = Jvm.exec) (hb : c.code = cc) (hts : ∀ w ∈ Ts, w.before args s = true) (hown : s.vm.findClass own = some m.cls) (hK : va_K D cl tys s) {r : vw_C} {ci k index j : Nat} (hc : cl[ci]? = some r) (hr : px_okK Ts r) (hk : k < r.2.2) (hlink : Cond.fieldLink own index (r.2.1 k).1 (r.2.1 k).2.1 (r.2.1 k).2.2.1 ∈ Ts) {fs : List Value} (hH : px_H cl ad D cI cJ B w H) (he : w[j]? = some (.inr (.inr (ci, fs)))) {v : Value} (hl : k < fs.length) (hf : px_fit (px_ty r.2.1 k) v = true) (hfin : (r.2.1 k).2.2.2 = true → meth.name = "<init>" ∧ (r.2.1 k).1 = own) (hdg : decode cc pc = .ok (.putfield index, 3))
    (kk : ∀ (H1 : Heap) (f : Field), px_H cl ad D cI cJ B (w.set j (.inr (.inr (ci, fs.set k v)))) H1 → (∀ q, q < B → H1[q]? = H[q]?) → W p l e R s m args below meth c H1 (locs ++ [⟨B + j, f.slot⟩]) cells slots Q (F0 m (pc + 3) ls rest)) : W p l e R s m args below meth c H locs cells slots Q (F0 m pc ls (px_tr ad v :: .ref (B + j) :: rest)) := by
  obtain ⟨hn, hft⟩ := px_fit_ok ad hf
  have hap := va_apart (own := own) hts hr.1 (px_ty r.2.1) hr.2.1 hr.2.2.1 hK hc
  obtain ⟨r', h1, cell, q1, q2, q3, q4⟩ := hH.2 j _ he
  have hr' : r' = r := Option.some.inj (h1.symm.trans hc)
  subst hr'
  obtain ⟨hS, hfc, kC, hkC, hkind⟩ := hK.1 ci _ hc
  obtain ⟨cf, kf, fi, f, hi, hsl⟩ := hS k hk
  have hlay := hts _ (hr.1 _ (u_in_lay hk))
  have hst := (u_facts hfc hkC (u_lays hts hr.1 hk) hi).1
  have hd := hr.2.1 k hk
  have fin : ∀ H' : Heap, H'[B + j]? = some (cell.setSlot f.slot (px_tr ad v)) → H'.size = H.size → (∀ q, q ≠ B + j → H'[q]? = H[q]?) → W p l e R s m args below meth c H' (locs ++ [⟨B + j, f.slot⟩]) cells slots Q (F0 m (pc + 3) ls rest) := by
    intro H' e1 e2 e3
    refine kk H' f (hH.set he e2 e3 ⟨_, hc, ?_⟩) (fun q hq => e3 q (by omega))
    rw [hsl] at e1
    refine t_OB.to (V := updV (vp_V (fs.map (px_tr ad))) k (px_tr ad v)) ⟨_, e1, q2, q3, t_set q4 hap hk (px_tr ad v)⟩ (fun z _ => ?_)
    rw [vp_updV_set (by rw [List.length_map]; exact hl), List.map_set]
  unfold u_lay at hlay
  by_cases hf2 : (r'.2.1 k).2.2.2 = true
  · obtain ⟨hin2, hdecl⟩ := hfin hf2
    rw [if_pos hf2] at hlay
    have hcf : m.cls = cf := by
      obtain ⟨_, _, c', _, _, _, -, -, hf', -, -, -, hown2, -⟩ := Cond.laysFinal_spec hlay
      have e1 : c' = cf := by have := hi.symm.trans hf'; simp at this; exact this.1.symm
      rw [hdecl] at hown2
      rw [← e1]; exact Option.some.inj (hown.symm.trans hown2)
    have h6 := u_fits hfc hkC hkind (Or.inr hlay) hi hd hn hft
    exact W.putFinK hx hb hown (hts _ hlink) hi hst hcf hin2 (by rw [q2]; exact h6) q1 q3 (by rw [hsl]; exact k2_hasslot (q4 k hk)) rfl rfl hdg fin
  · rw [if_neg hf2] at hlay
    have h6 := u_store hfc hkC hkind hlay hi hd hn hft
    exact W.putK hx hb (f := f) ⟨hown, hts _ hlink, ⟨_, _, _, hi⟩, hst⟩ (by rw [q2]; exact h6) q1 q3 (by rw [hsl]; exact k2_hasslot (q4 k hk)) rfl rfl hdg fin
theorem px_iald_W (hx : p.tables.exec = Jvm.exec) (hb : c.code = cc) (hK : va_K D cl [(cI, .int), (cJ, .long)] s) {a : Nat} {ll : List Int32} (he : px_at cl ad D cI cJ a (.inl ll) H) {j : Int32} (hj : px_ix j ll.length = true) (hdg : decode cc pc = .ok (.iaload, 1))
    (kk : W p l e R s m args below meth c H locs cells slots Q (F0 m (pc + 1) ls (.int (ll.getD j.toNatClampNeg 0) :: rest))) : W p l e R s m args below meth c H locs cells slots Q (F0 m pc ls (.int j :: .ref a :: rest)) := by
  obtain ⟨hin, hlt⟩ := px_ix_in hj
  exact W.iald (v := .int (ll.getD j.toNatClampNeg 0)) hx hb he ((hK.2 0 _ rfl).1 ll.length (fun j => .int (ll.getD j 0))) (fun q => by cases q) (by show ¬ (j < 0 ∨ (arrV _ _ _).slots.size ≤ _); rw [arrV_size]; exact hin) (by show (arrV _ _ _).slots[_]? = _; rw [arrV_read _ _ hlt]) rfl rfl hdg kk
theorem px_lald_W (hx : p.tables.exec = Jvm.exec) (hb : c.code = cc) (hK : va_K D cl [(cI, .int), (cJ, .long)] s) {a : Nat} {ll : List Int64} (he : px_at cl ad D cI cJ a (.inr (.inl ll)) H) {j : Int32} (hj : px_ix j ll.length = true) (hdg : decode cc pc = .ok (.laload, 1))
    (kk : W p l e R s m args below meth c H locs cells slots Q (F0 m (pc + 1) ls (.long (ll.getD j.toNatClampNeg 0) :: rest))) : W p l e R s m args below meth c H locs cells slots Q (F0 m pc ls (.int j :: .ref a :: rest)) := by
  obtain ⟨hin, hlt⟩ := px_ix_in hj
  exact W.lald (v := .long (ll.getD j.toNatClampNeg 0)) hx hb he ((hK.2 1 _ rfl).1 ll.length (fun j => .long (ll.getD j 0))) (fun q => by cases q) (by show ¬ (j < 0 ∨ (arrV _ _ _).slots.size ≤ _); rw [arrV_size]; exact hin) (by show (arrV _ _ _).slots[_]? = _; rw [arrV_read _ _ hlt]) rfl rfl hdg kk
theorem px_iast_W (hx : p.tables.exec = Jvm.exec) (hb : c.code = cc) (hK : va_K D cl [(cI, .int), (cJ, .long)] s) (hH : px_H cl ad D cI cJ B w H) {k : Nat} {ll : List Int32} (he : w[k]? = some (.inl ll)) {j z : Int32} (hj : px_ix j ll.length = true) (hdg : decode cc pc = .ok (.iastore, 1))
    (kk : ∀ (H1 : Heap), px_H cl ad D cI cJ B (w.set k (.inl (ll.set j.toNatClampNeg z))) H1 → (∀ q, q < B → H1[q]? = H[q]?) → W p l e R s m args below meth c H1 (locs ++ [⟨B + k, j.toNatClampNeg⟩]) cells slots Q (F0 m (pc + 1) ls rest)) : W p l e R s m args below meth c H locs cells slots Q (F0 m pc ls (.int z :: .int j :: .ref (B + k) :: rest)) := by
  obtain ⟨hin, hlt⟩ := px_ix_in hj
  refine W.iast hx hb (hH.2 k _ he) ((hK.2 0 _ rfl).1 ll.length (fun j => .int (ll.getD j 0))) (fun q => by cases q) (by show ¬ (j < 0 ∨ (arrV _ _ _).slots.size ≤ _); rw [arrV_size]; exact hin) rfl rfl hdg fun H1 e1 z1 o1 => ?_
  refine kk H1 (hH.set he z1 o1 ?_) (fun q hq => o1 q (Nat.ne_of_lt (Nat.lt_of_lt_of_le hq (Nat.le_add_right B k))))
  show H1[B + k]? = some (vp_cell _ _)
  rw [e1, px_cell_set hlt]
theorem px_last_W (hx : p.tables.exec = Jvm.exec) (hb : c.code = cc) (hK : va_K D cl [(cI, .int), (cJ, .long)] s) (hH : px_H cl ad D cI cJ B w H) {k : Nat} {ll : List Int64} (he : w[k]? = some (.inr (.inl ll))) {j : Int32} {z : Int64} (hj : px_ix j ll.length = true) (hdg : decode cc pc = .ok (.lastore, 1))
    (kk : ∀ (H1 : Heap), px_H cl ad D cI cJ B (w.set k (.inr (.inl (ll.set j.toNatClampNeg z)))) H1 → (∀ q, q < B → H1[q]? = H[q]?) → W p l e R s m args below meth c H1 (locs ++ [⟨B + k, j.toNatClampNeg⟩]) cells slots Q (F0 m (pc + 1) ls rest)) : W p l e R s m args below meth c H locs cells slots Q (F0 m pc ls (.long z :: .int j :: .ref (B + k) :: rest)) := by
  obtain ⟨hin, hlt⟩ := px_ix_in hj
  refine W.last hx hb (hH.2 k _ he) ((hK.2 1 _ rfl).1 ll.length (fun j => .long (ll.getD j 0))) (fun q => by cases q) (by show ¬ (j < 0 ∨ (arrV _ _ _).slots.size ≤ _); rw [arrV_size]; exact hin) rfl rfl hdg fun H1 e1 z1 o1 => ?_
  refine kk H1 (hH.set he z1 o1 ?_) (fun q hq => o1 q (Nat.ne_of_lt (Nat.lt_of_lt_of_le hq (Nat.le_add_right B k))))
  show H1[B + k]? = some (vp_cell _ _)
  rw [e1, px_cell_setL hlt]
theorem px_alen_W (hx : p.tables.exec = Jvm.exec) (hb : c.code = cc) (hK : va_K D cl [(cI, .int), (cJ, .long)] s) {a : Nat} {ll : List Int32} (he : px_at cl ad D cI cJ a (.inl ll) H) (hdg : decode cc pc = .ok (.arraylength, 1))
    (kk : W p l e R s m args below meth c H locs cells slots Q (F0 m (pc + 1) ls (.int (Int32.ofNat ll.length) :: rest))) : W p l e R s m args below meth c H locs cells slots Q (F0 m pc ls (.ref a :: rest)) := by
  exact W.alen (n := Int32.ofNat ll.length) hx hb he ((hK.2 0 _ rfl).1 ll.length (fun j => .int (ll.getD j 0))) (by show (arrV _ _ _).slots.size.toInt32 = _; rw [arrV_size]) rfl rfl hdg kk
theorem px_new_W (hx : p.tables.exec = Jvm.exec) (hb : c.code = cc) (hts : ∀ w ∈ Ts, w.before args s = true) (hown : s.vm.findClass own = some m.cls) (hK : va_K D cl tys s) (hH : px_H cl ad D cI cJ B w H) {r : vw_C} {ci index : Nat} (hc : cl[ci]? = some r) (hr : px_okK Ts r) (hlink : Cond.classLink own index r.1 ∈ Ts) (hcells : cells + 1 ≤ R.cells) (hslots : slots + r.2.2 ≤ R.slots) (hdg : decode cc pc = .ok (.new index, 3))
    (kk : ∀ (H1 : Heap), px_H cl ad D cI cJ B (w ++ [.inr (.inr (ci, (List.range r.2.2).map (fun j => defaultValue (px_ty r.2.1 j))))]) H1 → (∀ q, q < B → H1[q]? = H[q]?) → W p l e R s m args below meth c H1 locs (cells + 1) (slots + r.2.2) Q (F0 m (pc + 3) ls (.ref (B + w.length) :: rest))) : W p l e R s m args below meth c H locs cells slots Q (F0 m pc ls rest) := by
  have hKn := hK.1 ci _ hc
  refine W.newcK hx hb hown (hts _ hlink) (hts _ hr.2.2.2.1) (hts _ hr.2.2.2.2) rfl hdg hcells hslots hKn.2.1 hH.1 fun H1 kC hkC e1 z1 o1 => ?_
  refine kk H1 (hH.push (by rw [z1, hH.1]) (fun q hq => o1 q (by rw [← hH.1]; exact hq)) ⟨r, hc, ?_⟩) (fun q hq => o1 q (by omega))
  rw [← hH.1] at e1
  refine (u_born (px_ty r.2.1) hts hr.1 hKn hkC e1 hr.2.1).to (fun z hz => ?_)
  have hzl : z < (List.range r.2.2).length := by rw [List.length_range]; exact hz
  simp [vp_V, px_tr_def, hz]
theorem px_newi_W (hx : p.tables.exec = Jvm.exec) (hb : c.code = cc) (harr : (Cond.arrayClass .int).before args s = true) (hK : va_K D cl [(cI, .int), (cJ, .long)] s) (hH : px_H cl ad D cI cJ B w H) {n : Int32} (hn : ¬ n < 0) (hle : n.toNatClampNeg ≤ 100000) (hcells : cells + 1 ≤ R.cells) (hslots : slots + n.toNatClampNeg ≤ R.slots) (hdg : decode cc pc = .ok (.newarray .int, 2))
    (kk : ∀ (H1 : Heap), px_H cl ad D cI cJ B (w ++ [.inl (List.replicate n.toNatClampNeg 0)]) H1 → (∀ q, q < B → H1[q]? = H[q]?) → W p l e R s m args below meth c H1 locs (cells + 1) (slots + n.toNatClampNeg) Q (F0 m (pc + 2) ls (.ref (B + w.length) :: rest))) : W p l e R s m args below meth c H locs cells slots Q (F0 m pc ls (.int n :: rest)) := by
  refine va_newaK (atype := .int) hx hb harr rfl hdg rfl hn rfl (by show n.toNatClampNeg * 4 ≤ _; omega) hcells hslots hH.1 fun H1 cA e1 z1 o1 _ hNm => ?_
  have hcA : cA = cI := Option.some.inj (hNm.symm.trans (hK.2 0 _ rfl).2)
  subst hcA
  refine kk H1 (hH.push (by rw [z1, hH.1]) (fun q hq => o1 q (by rw [← hH.1]; exact hq)) ?_) (fun q hq => o1 q (by omega))
  show H1[H.size]? = some (vp_cell _ _)
  rw [hH.1, e1, vp_cell_i, List.length_replicate]
  congr 2
  funext j
  rw [List.getD_eq_getElem?_getD, List.getElem?_replicate]
  split <;> rfl
theorem px_newl_W (hx : p.tables.exec = Jvm.exec) (hb : c.code = cc) (harr : (Cond.arrayClass .long).before args s = true) (hK : va_K D cl [(cI, .int), (cJ, .long)] s) (hH : px_H cl ad D cI cJ B w H) {n : Int32} (hn : ¬ n < 0) (hle : n.toNatClampNeg ≤ 100000) (hcells : cells + 1 ≤ R.cells) (hslots : slots + n.toNatClampNeg ≤ R.slots) (hdg : decode cc pc = .ok (.newarray .long, 2))
    (kk : ∀ (H1 : Heap), px_H cl ad D cI cJ B (w ++ [.inr (.inl (List.replicate n.toNatClampNeg 0))]) H1 → (∀ q, q < B → H1[q]? = H[q]?) → W p l e R s m args below meth c H1 locs (cells + 1) (slots + n.toNatClampNeg) Q (F0 m (pc + 2) ls (.ref (B + w.length) :: rest))) : W p l e R s m args below meth c H locs cells slots Q (F0 m pc ls (.int n :: rest)) := by
  refine va_newaK (atype := .long) hx hb harr rfl hdg rfl hn rfl (by show n.toNatClampNeg * 8 ≤ _; omega) hcells hslots hH.1 fun H1 cA e1 z1 o1 _ hNm => ?_
  have hcA : cA = cJ := Option.some.inj (hNm.symm.trans (hK.2 1 _ rfl).2)
  subst hcA
  refine kk H1 (hH.push (by rw [z1, hH.1]) (fun q hq => o1 q (by rw [← hH.1]; exact hq)) ?_) (fun q hq => o1 q (by omega))
  show H1[H.size]? = some (vp_cell _ _)
  rw [hH.1, e1, vp_cell_l, List.length_replicate]
  congr 2
  funext j
  rw [List.getD_eq_getElem?_getD, List.getElem?_replicate]
  split <;> rfl
theorem px_copy_W (hx : p.tables.exec = Jvm.exec) (hb : c.code = cc) (hml : c.maxLocals = ls.size) {index : Nat} (hown : s.vm.findClass own = some m.cls) (hlink : (Cond.methodLink own index arraycopyName).before args s = true) (hnat : (Cond.native arraycopyName).before args s = true) (hstat : (Cond.static arraycopyName).before args s = true) (hini : (Cond.initialized "java/lang/System").before args s = true)
    (hK : va_K D cl [(cI, .int), (cJ, .long)] s) (hH : px_H cl ad D cI cJ B w H) {k0 k1 : Nat} {la lb : List Int32} (ha0 : w[k0]? = some (.inl la)) (ha1 : w[k1]? = some (.inl lb)) {sp dp n : Int32} (h1 : ¬ sp < 0) (h2 : ¬ dp < 0) (h3 : ¬ n < 0) (h4 : sp.toNatClampNeg + n.toNatClampNeg ≤ la.length) (h5 : dp.toNatClampNeg + n.toNatClampNeg ≤ lb.length)
    (hframes : 1 ≤ R.frames) (hlocals : (rest.map fun v => v.category).sum + 18 ≤ R.locals) (hdg : decode cc pc = .ok (.invokestatic index, 3))
    (kk : ∀ (H1 : Heap) (locs1 : List Loc), px_H cl ad D cI cJ B (w.set k1 (.inl (px_cpy la lb sp.toNatClampNeg dp.toNatClampNeg n.toNatClampNeg))) H1 → (∀ q, q < B → H1[q]? = H[q]?) → (∀ q ∈ locs1, q ∈ locs ∨ q.base = B + k1) → W p l e R s m args below meth c H1 locs1 cells slots Q (F0 m (pc + 3) ls rest)) : W p l e R s m args below meth c H locs cells slots Q (F0 m pc ls (.int n :: .int dp :: .ref (B + k1) :: .int sp :: .ref (B + k0) :: rest)) := by
  have nn : ∀ z : Int32, ¬ z < 0 → z.toInt = (z.toNatClampNeg : Int) := by
    intro z hz
    have hz0 : (0 : Int) ≤ z.toInt := by
      have := Int32.not_lt.mp hz
      simpa using Int32.le_iff_toInt_le.mp this
    show z.toInt = ((z.toInt.toNat : Nat) : Int)
    omega
  have hnw : nativeFrameWords "java/lang/System" "arraycopy" 5 = 7 := by decide +kernel
  intro T hT X
  have hc0 : H[B + k0]? = some (vp_cell cI (la.length, .inl (fun j => la.getD j 0))) := hH.2 k0 _ ha0
  have hc1 : H[B + k1]? = some (vp_cell cI (lb.length, .inl (fun j => lb.getD j 0))) := hH.2 k1 _ ha1
  obtain ⟨-, k0', hk0, cm0, hkk0⟩ := (hK.2 0 _ rfl).1 la.length (fun j => .int (la.getD j 0))
  obtain ⟨-, k1', hk1, cm1, hkk1⟩ := (hK.2 0 _ rfl).1 lb.length (fun j => .int (lb.getD j 0))
  obtain ⟨vm', X', step⟩ := X.arraycopy hx hown hlink hnat hstat hini (src := B + k0) (dst := B + k1) (cs := vp_cell cI (la.length, .inl (fun j => la.getD j 0))) (cd := vp_cell cI (lb.length, .inl (fun j => lb.getD j 0))) (srcPos := sp) (destPos := dp) (n := n) (by rw [hT]; exact hc0) (by rw [hT]; exact hc1)
    (fun _ h => by cases h) (fun _ h => by cases h) (fun h => by cases h) (fun h => by cases h) hk0 hk1 hkk0 hkk1 (by simp [refKind]) h1 h2 h3
    (by rw [nn sp h1, nn n h3]; show ¬ _ > ((arrV cI la.length (fun j => .int (la.getD j 0))).slots.size : Int); rw [arrV_size]; omega)
    (by rw [nn dp h2, nn n h3]; show ¬ _ > ((arrV cI lb.length (fun j => .int (lb.getD j 0))).slots.size : Int); rw [arrV_size]; omega)
    (fun vm₁ _ i hi => by
      have e : (vp_cell cI (la.length, .inl (fun j => la.getD j 0))).slots.getD (sp.toNatClampNeg + i) .null = .int (la.getD (sp.toNatClampNeg + i) 0) := by
        show (arrV cI la.length (fun j => .int (la.getD j 0))).slots.getD _ _ = _
        rw [Array.getD_eq_getD_getElem?, arrV_read _ _ (by omega)]
        rfl
      refine ⟨?_, ?_⟩
      · rw [e]
        rfl
      · rw [e]
        exact trivial)
    (g := F0 m pc ls (.int n :: .int dp :: .ref (B + k1) :: .int sp :: .ref (B + k0) :: rest)) rfl (by rw [hml]) (rest := rest) rfl (by rw [hb]; exact hdg) hframes (by show 2 * 0 + _ + (nativeFrameWords "java/lang/System" "arraycopy" 5 + 11) ≤ _; rw [hnw]; omega)
  have e1 : copied (vp_cell cI (la.length, .inl (fun j => la.getD j 0))) (vp_cell cI (lb.length, .inl (fun j => lb.getD j 0))) sp dp n = vp_cell cI ((px_cpy la lb sp.toNatClampNeg dp.toNatClampNeg n.toNatClampNeg).length, .inl (fun j => (px_cpy la lb sp.toNatClampNeg dp.toNatClampNeg n.toNatClampNeg).getD j 0)) := by
    have e0 : copied (vp_cell cI (la.length, .inl (fun j => la.getD j 0))) (vp_cell cI (lb.length, .inl (fun j => lb.getD j 0))) sp dp n = vp_cell cI (lb.length, .inl (va_cpy (fun j => la.getD j 0) (fun j => lb.getD j 0) sp.toNatClampNeg dp.toNatClampNeg n.toNatClampNeg)) := va_copied (fun z => .int z) cI cI (fun j => la.getD j 0) (fun j => lb.getD j 0) h4
    rw [e0, px_cpy_len h4 h5]
    congr 3
    funext j
    exact (px_cpy_at h4 h5 j).symm
  rw [e1] at X' step
  have hl : B + k1 < H.size := (Array.getElem?_eq_some_iff.mp hc1).1
  generalize hcell : vp_cell cI ((px_cpy la lb sp.toNatClampNeg dp.toNatClampNeg n.toNatClampNeg).length, .inl (fun j => (px_cpy la lb sp.toNatClampNeg dp.toNatClampNeg n.toNatClampNeg).getD j 0)) = cell1 at X' step
  have hheap : ((T.setVm vm').setCell (B + k1) cell1).heap = H.setIfInBounds (B + k1) cell1 := by rw [← hT]; rfl
  have oq : ∀ q : Nat, q ≠ B + k1 → (H.setIfInBounds (B + k1) cell1)[q]? = H[q]? := fun q hq => by simp [Array.getElem?_setIfInBounds, Ne.symm hq]
  have self : (H.setIfInBounds (B + k1) cell1)[B + k1]? = some cell1 := by simp [Array.getElem?_setIfInBounds, hl]
  obtain ⟨t, a1, b1⟩ := kk _ _ (hH.set ha1 (by simp) oq (show (H.setIfInBounds (B + k1) cell1)[B + k1]? = some _ by rw [self, hcell])) (fun q hq => oq q (by omega)) (fun q hq => by
      rcases List.mem_append.mp hq with h | h
      · exact Or.inl h
      · obtain ⟨z, -, hz⟩ := List.mem_map.mp h
        rw [← hz]
        exact Or.inr rfl) _ hheap X'
  exact ⟨t, step t a1, b1⟩
end PX2
end
section
/-! THE MACHINE GOES AS THE PURE ONE -/
section PX3
variable {p : Program} {l : Launch} {e : Env} {R : Room} {s : State} {m : MethodId} {args : Array Value} {below : List Frame} {meth : Method} {c : Code} {H : Heap} {locs : List Loc} {cells slots : Nat} {Q : State → Prop}
variable {pc : Nat} {ls : Array Slot} {rest : List Value} {cl : List vw_C} {ad : Nat → Option Nat} {D : va_G} {cI cJ : ClassId} {B : Nat} {w : px_W} {Ts Ns : List Cond} {P : List px_M} {h : px_Hd} {L : px_L} {lt : List (List Int32)} {SL : List (String × Nat × Nat)}
theorem px_n1 (a : Nat) (h : 1 ≤ a ∧ a ≤ 16) : a - 1 < 16 ∧ 1 + (a - 1) = a ∧ 17 + (a - 1) = a + 16 := by omega
theorem px_n17 (a : Nat) (h : 17 ≤ a ∧ a ≤ 32) : a - 17 < 16 ∧ 17 + (a - 17) = a := by omega
theorem px_ad {a : Nat} (had : ∀ k, ad (64 + k) = some (B + k)) (ha : 64 ≤ a) : px_tr ad (.ref a) = .ref (B + (a - 64)) := by
  show va_rf (ad a) = _
  have h1 := had (a - 64)
  rw [show 64 + (a - 64) = a by omega] at h1
  rw [h1]
  rfl
theorem px_locs1 {k j : Nat} (hlocs : ∀ q ∈ locs, B ≤ q.base) : ∀ q ∈ locs ++ [(⟨B + k, j⟩ : Loc)], B ≤ q.base := by
  intro q hq
  rcases List.mem_append.mp hq with h | h
  · exact hlocs q h
  · rw [List.mem_singleton.mp h]
    exact Nat.le_add_right B k
set_option maxHeartbeats 2000000 in
theorem px_W2 (E : px_Env Ts Ns cl D cI cJ h p s m args meth c) (hcl : ∀ r ∈ cl, px_okK Ts r) (hL : px_okL Ts Ns cl SL P h.1.cls L) (hai : Cond.arrayClass .int ∈ Ts) (haj : Cond.arrayClass .long ∈ Ts) (had : ∀ k, ad (64 + k) = some (B + k)) {i : Instr} {len : Nat} {scr : Option (List Int32)} {st : List Value} {z : List Value × px_W × Nat × Nat}
    (hd : decode h.2.1 pc = .ok (i, len)) (hz : px_s2 cl lt i len scr h.1.name h.1.cls L st w = some z) (hH : px_H cl ad D cI cJ B w H) (hfr : ∀ q, q < B → H[q]? = s.heap[q]?) (hlocs : ∀ q ∈ locs, B ≤ q.base) (hcells : cells + z.2.2.1 ≤ R.cells) (hslots : slots + z.2.2.2 ≤ R.slots)
    (hscr : ∀ xs, scr = some xs → ∃ b0, ad 0 = some b0 ∧ va_X b0 xs.length (fun j => xs.getD j 0) s s.heap ∧ b0 < B) (hXX : px_X lt SL ad B s s.heap)
    (kk : ∀ (H1 : Heap) (locs1 : List Loc), px_H cl ad D cI cJ B z.2.1 H1 → (∀ q, q < B → H1[q]? = s.heap[q]?) → (∀ q ∈ locs1, B ≤ q.base) → W p l e R s m args below meth c H1 locs1 (cells + z.2.2.1) (slots + z.2.2.2) Q (F0 m (pc + len) ls (z.1.map (px_tr ad)))) : W p l e R s m args below meth c H locs cells slots Q (F0 m pc ls (st.map (px_tr ad))) := by
  obtain ⟨hx, hb, hml, hr, hlk, hnm, hown, hts, hK, hNs⟩ := E
  have hkf : ∀ a : Nat, a < s.heap.size → ¬ B ≤ a → H[a]? = s.heap[a]? := fun a _ z => hfr a (Nat.not_le.mp z)
  have hmem : ∀ {ci : Nat} {r : vw_C}, cl[ci]? = some r → px_okK Ts r := fun hc => hcl _ (List.mem_of_getElem? hc)
  unfold px_s2 at hz
  split at hz
  · split at hz
    · rename_i hc
      split at hz
      · rename_i q o hq ho
        split at hz
        · rename_i he
          obtain ⟨v, hv, h2⟩ := Option.map_eq_some_iff.mp hz
          clear hz
          subst h2
          rw [hc.1] at hd kk
          obtain ⟨r, g1, g2, g3⟩ := hL.1 _ (px_look_mem hq)
          have ho' : px_at cl ad D cI cJ (B + _) (.inr (.inr o)) H := hH.2 _ _ ho
          obtain ⟨o1, o2⟩ := o
          rw [List.map_cons, px_ad had hc.2]
          cases he
          exact px_get_W hx hb hts hown hK g1 (hmem g1) g2 g3 ho' hv hd (kk H locs hH hfr hlocs)
        · cases hz
      · cases hz
    · split at hz
      · rename_i hc
        obtain ⟨k, hk, h2⟩ := Option.bind_eq_some_iff.mp hz
        clear hz
        rw [hc.1] at hd kk
        obtain ⟨g0, g1⟩ := hL.2.2.2.2.2.2.2 _ (px_look_mem hk)
        obtain ⟨adK, adV, x1, x2, x3, x4, x5⟩ := hXX
        rename_i a r _
        obtain ⟨hj, hj1, hj2⟩ := px_n1 a hc.2
        have ea : ad a = some (adK (a - 1)) := by have := (x1 (a - 1) hj).1; rwa [hj1] at this
        have ev : ad (a + 16) = some (adV (a - 1)) := by have := (x1 (a - 1) hj).2; rwa [hj2] at this
        rw [List.map_cons, show px_tr ad (.ref a) = .ref (adK (a - 1)) by show va_rf (ad a) = _; rw [ea]; rfl]
        split at h2
        · rename_i hk0
          cases h2
          obtain ⟨cf, kf, fi, f, cell, f1, f2, f3, f4, f5, f6⟩ := ((x2.1 (a - 1) hj).2.2.1).kept hkf
          have k2 := kk H locs hH hfr hlocs
          rw [List.map_cons, show px_tr ad (.ref (a + 16)) = .ref (adV (a - 1)) by show va_rf (ad (a + 16)) = _; rw [ev]; rfl] at k2
          exact W.getf hx hb hown (hts _ (g0 hk0)) f1 f2 f3 f4 f5 rfl rfl hd k2
        · split at h2
          · rename_i hk1
            cases h2
            obtain ⟨cf, kf, fi, f, cell, f1, f2, f3, f4, f5, f6⟩ := ((x2.1 (a - 1) hj).2.1).kept hkf
            exact W.getf hx hb hown (hts _ (g1 hk1)) f1 f2 f3 f4 f5 rfl rfl hd (kk H locs hH hfr hlocs)
          · cases h2
      · cases hz
  · split at hz
    · rename_i hc
      rw [hc] at hd kk
      split at hz
      · rename_i ha
        split at hz
        · rename_i xs
          split at hz
          · rename_i hj
            cases hz
            obtain ⟨b0, e0, hX, hlt⟩ := hscr xs rfl
            obtain ⟨cell, h1, h2, h3, h4, h5⟩ := hX
            obtain ⟨hin, hjl⟩ := px_ix_in hj
            subst ha
            rw [List.map_cons, List.map_cons, show px_tr ad (.ref 0) = .ref b0 by show va_rf (ad 0) = _; rw [e0]; rfl]
            exact W.iald (a := b0) (v := .int (xs.getD _ 0)) hx hb (by rw [hfr _ hlt]; exact h1) h2 h3 (by rw [h4]; exact hin) (h5 _ hjl) rfl rfl hd (kk H locs hH hfr hlocs)
          · cases hz
        · cases hz
      · split at hz
        · rename_i ha
          split at hz
          · rename_i ll hw
            split at hz
            · rename_i hj
              cases hz
              rw [List.map_cons, List.map_cons, px_ad had ha]
              exact px_iald_W hx hb hK (hH.2 _ _ hw) hj hd (kk H locs hH hfr hlocs)
            · cases hz
          · cases hz
        · cases hz
    · cases hz
  · split at hz
    · rename_i hc
      rw [hc.1] at hd kk
      split at hz
      · rename_i ll hw
        split at hz
        · rename_i hj
          cases hz
          rw [List.map_cons, List.map_cons, List.map_cons, px_ad had hc.2]
          exact px_iast_W hx hb hK hH hw hj hd (fun H1 a1 a2 => kk H1 _ a1 (fun q hq => (a2 q hq).trans (hfr q hq)) (px_locs1 hlocs))
        · cases hz
      · cases hz
    · cases hz
  · split at hz
    · rename_i hc
      rw [hc.1] at hd kk
      split at hz
      · rename_i q o hq ho
        split at hz
        · rename_i r hr2
          split at hz
          · rename_i he
            cases hz
            obtain ⟨he1, he2, he3, he4⟩ := he
            obtain ⟨r', g1, g2, g3⟩ := hL.1 _ (px_look_mem hq)
            obtain ⟨o1, o2⟩ := o
            cases he1
            have hrr : r' = r := Option.some.inj (g1.symm.trans hr2)
            subst hrr
            rw [List.map_cons, List.map_cons, px_ad had hc.2]
            exact px_put_W hx hb hts hown hK g1 (hmem g1) g2 g3 hH ho he2 he3 (fun z => ⟨hnm (he4 z).1, (he4 z).2⟩) hd (fun H1 f a1 a2 => kk H1 _ a1 (fun q hq => (a2 q hq).trans (hfr q hq)) (px_locs1 hlocs))
          · cases hz
        · cases hz
      · cases hz
    · cases hz
  · split at hz
    · rename_i hc
      rw [hc] at hd kk
      have hz1 := px_or_some hz
      clear hz
      rcases hz1 with hz | hz
      · obtain ⟨v, hv, h2⟩ := Option.map_eq_some_iff.mp hz
        clear hz
        subst h2
        exact lv_ldc hx hb hown (hts _ (hL.2.2.2.1 _ (px_look_mem hv))) hd (kk H locs hH hfr hlocs)
      · obtain ⟨j, hv, h2⟩ := Option.map_eq_some_iff.mp hz
        clear hz
        subst h2
        obtain ⟨adK, adV, x1, x2, x3, x4, x5⟩ := hXX
        obtain ⟨hj, tx, hR⟩ := x3 _ (hL.2.2.2.2.2.1 _ (px_look_mem hv))
        have k2 := kk H locs hH hfr hlocs
        rw [List.map_cons, show px_tr ad (.ref (1 + j)) = .ref (adK j) by show va_rf (ad (1 + j)) = _; rw [(x1 j hj).1]; rfl] at k2
        exact va_ldcS hx hb hown hR hd k2
    · cases hz
  · split at hz
    · rename_i hc
      rw [hc] at hd kk
      obtain ⟨k, hk, h2⟩ := Option.bind_eq_some_iff.mp hz
      clear hz
      obtain ⟨g0, g1⟩ := hL.2.2.2.2.2.2.1 _ (px_look_mem hk)
      obtain ⟨adK, adV, x1, x2, x3, x4, x5⟩ := hXX
      split at h2
      · rename_i hk0
        cases h2
        obtain ⟨cf, kf, fi, f, a, cell, f1, f2, f3, f4, f5, f6, f7, f8⟩ := x4.kept hkf
        exact W.gets hx hb hown (hts _ (g0 hk0)) f1 f2 f3 f4 f5 (fun e => by rw [e] at f6; cases f6) f7 rfl hd (kk H locs hH hfr hlocs)
      · split at h2
        · rename_i hk1
          cases h2
          obtain ⟨cf, kf, fi, f, a, cell, f1, f2, f3, f4, f5, f6, f7, f8⟩ := x5.kept hkf
          exact W.gets hx hb hown (hts _ (g1 hk1)) f1 f2 f3 f4 f5 (fun e => by rw [e] at f6; cases f6) f7 rfl hd (kk H locs hH hfr hlocs)
        · cases h2
    · cases hz
  · split at hz
    · rename_i hc
      cases hz
      rw [hc.1] at hd kk
      obtain ⟨adK, adV, x1, x2, x3, x4, x5⟩ := hXX
      rename_i j a r
      obtain ⟨hj, hj1⟩ := px_n17 a ⟨hc.2.1, hc.2.2.1⟩
      have ev : ad a = some (adV (a - 17)) := by have := (x1 (a - 17) hj).2; rwa [hj1] at this
      rw [List.map_cons, List.map_cons, show px_tr ad (.ref a) = .ref (adV (a - 17)) by show va_rf (ad a) = _; rw [ev]; rfl]
      obtain ⟨cell, h1, h2, h3, h4, h5, h6, h7⟩ := ((x2.1 (a - 17) hj).2.2.2).kept hkf
      obtain ⟨hin, hjl⟩ := px_ix_in hc.2.2.2
      refine W.bald (a := adV (a - 17)) (v := .int ((lt.getD (a - 17) []).getD j.toNatClampNeg 0)) hx hb h1 h2 h3 (fun q => ?_) (h6 _ hjl) rfl rfl hd (kk H locs hH hfr hlocs)
      rcases q with q | q
      · exact hin (Or.inl q)
      · omega
    · cases hz
  · split at hz
    · rename_i hc
      rw [hc] at hd kk
      obtain ⟨v, hv, h2⟩ := Option.map_eq_some_iff.mp hz
      clear hz
      subst h2
      exact lv_ldcw hx hb hown (hts _ (hL.2.2.2.1 _ (px_look_mem hv))) hd (kk H locs hH hfr hlocs)
    · cases hz
  · split at hz
    · rename_i hc
      rw [hc] at hd kk
      obtain ⟨v, hv, h2⟩ := Option.map_eq_some_iff.mp hz
      clear hz
      subst h2
      exact lv_ldc2 hx hb hown (hts _ (hL.2.2.2.2.1 _ (px_look_mem hv))) hd (kk H locs hH hfr hlocs)
    · cases hz
  · split at hz
    · rename_i hc
      rw [hc] at hd kk
      split at hz
      · rename_i ha
        split at hz
        · rename_i xs
          cases hz
          obtain ⟨b0, e0, hX, hlt⟩ := hscr xs rfl
          obtain ⟨cell, h1, h2, h3, h4, h5⟩ := hX
          subst ha
          rw [List.map_cons, show px_tr ad (.ref 0) = .ref b0 by show va_rf (ad 0) = _; rw [e0]; rfl]
          exact W.alen (a := b0) (n := Int32.ofNat xs.length) hx hb (by rw [hfr _ hlt]; exact h1) h2 (by rw [h4] <;> rfl) rfl rfl hd (kk H locs hH hfr hlocs)
        · cases hz
      · split at hz
        · rename_i ha
          split at hz
          · rename_i ll hw
            cases hz
            rw [List.map_cons, px_ad had ha]
            exact px_alen_W hx hb hK (hH.2 _ _ hw) hd (kk H locs hH hfr hlocs)
          · cases hz
        · split at hz
          · rename_i hc2
            cases hz
            obtain ⟨adK, adV, x1, x2, x3, x4, x5⟩ := hXX
            rename_i a r _ _
            obtain ⟨hj, hj1⟩ := px_n17 a hc2
            have ev : ad a = some (adV (a - 17)) := by have := (x1 (a - 17) hj).2; rwa [hj1] at this
            rw [List.map_cons, show px_tr ad (.ref a) = .ref (adV (a - 17)) by show va_rf (ad a) = _; rw [ev]; rfl]
            obtain ⟨cell, h1, h2, h3, h4, h5, h6, h7⟩ := ((x2.1 (a - 17) hj).2.2.2).kept hkf
            exact W.alen (n := Int32.ofNat ((lt.map List.length).getD (a - 17) 0)) hx hb h1 h2 h5 rfl rfl hd (kk H locs hH hfr hlocs)
          · cases hz
    · cases hz
  · split at hz
    · rename_i hc
      rw [hc.1] at hd kk
      split at hz
      · rename_i ll hw
        split at hz
        · rename_i hj
          cases hz
          rw [List.map_cons, List.map_cons, px_ad had hc.2]
          exact px_lald_W hx hb hK (hH.2 _ _ hw) hj hd (kk H locs hH hfr hlocs)
        · cases hz
      · cases hz
    · cases hz
  · split at hz
    · rename_i hc
      rw [hc.1] at hd kk
      split at hz
      · rename_i ll hw
        split at hz
        · rename_i hj
          cases hz
          rw [List.map_cons, List.map_cons, List.map_cons, px_ad had hc.2]
          exact px_last_W hx hb hK hH hw hj hd (fun H1 a1 a2 => kk H1 _ a1 (fun q hq => (a2 q hq).trans (hfr q hq)) (px_locs1 hlocs))
        · cases hz
      · cases hz
    · cases hz
  · split at hz
    · rename_i hc
      rw [hc] at hd kk
      obtain ⟨ci, hci, h2⟩ := Option.bind_eq_some_iff.mp hz
      clear hz
      obtain ⟨r, hr2, h3⟩ := Option.map_eq_some_iff.mp h2
      clear h2
      subst h3
      obtain ⟨r', g1, g2⟩ := hL.2.2.1 _ (px_look_mem hci)
      have hrr : r' = r := Option.some.inj (g1.symm.trans hr2)
      subst hrr
      refine px_new_W hx hb hts hown hK hH g1 (hmem g1) g2 hcells hslots hd (fun H1 a1 a2 => ?_)
      have k2 := kk H1 locs a1 (fun q hq => (a2 q hq).trans (hfr q hq)) hlocs
      rw [List.map_cons, px_ad had (by omega), show 64 + w.length - 64 = w.length by omega] at k2
      exact k2
    · cases hz
  · split at hz
    · rename_i hc
      cases hz
      rw [hc.1] at hd kk
      rw [List.map_cons]
      refine px_newi_W hx hb (hts _ hai) hK hH hc.2.1 hc.2.2 hcells hslots hd (fun H1 a1 a2 => ?_)
      have k2 := kk H1 locs a1 (fun q hq => (a2 q hq).trans (hfr q hq)) hlocs
      rw [List.map_cons, px_ad had (by omega), show 64 + w.length - 64 = w.length by omega] at k2
      exact k2
    · cases hz
  · split at hz
    · rename_i hc
      cases hz
      rw [hc.1] at hd kk
      rw [List.map_cons]
      refine px_newl_W hx hb (hts _ haj) hK hH hc.2.1 hc.2.2 hcells hslots hd (fun H1 a1 a2 => ?_)
      have k2 := kk H1 locs a1 (fun q hq => (a2 q hq).trans (hfr q hq)) hlocs
      rw [List.map_cons, px_ad had (by omega), show 64 + w.length - 64 = w.length by omega] at k2
      exact k2
    · cases hz
  · cases hz
theorem px_W3 (E : px_Env Ts Ns cl D cI cJ h p s m args meth c) (hL : px_okL Ts Ns cl SL P h.1.cls L) (had : ∀ k, ad (64 + k) = some (B + k)) {i : Instr} {len d : Nat} {st : List Value} {z : List Value × px_W} {lv : List (Nat × Value)}
    (hl : lv_has ls h.2.2.1 lv) (hd : decode h.2.1 pc = .ok (i, len)) (hz : px_s3 i len d L st w = some z) (hH : px_H cl ad D cI cJ B w H) (hfr : ∀ q, q < B → H[q]? = s.heap[q]?) (hlocs : ∀ q ∈ locs, B ≤ q.base) (hdf : d ≤ R.frames) (hdl : 100 * d ≤ R.locals)
    (kk : ∀ (H1 : Heap) (locs1 : List Loc), px_H cl ad D cI cJ B z.2 H1 → (∀ q, q < B → H1[q]? = s.heap[q]?) → (∀ q ∈ locs1, B ≤ q.base) → W p l e R s m args below meth c H1 locs1 cells slots Q (F0 m (pc + 3) ls (z.1.map (px_tr ad)))) : W p l e R s m args below meth c H locs cells slots Q (F0 m pc ls (st.map (px_tr ad))) := by
  obtain ⟨hx, hb, hml, hr, hlk, hnm, hown, hts, hK, hNs⟩ := E
  unfold px_s3 at hz
  split at hz
  · split at hz
    · rename_i hc
      obtain ⟨c1, c2, c3, c4, c5, c6, c7, c8⟩ := hc
      rw [c1] at hd
      split at hz
      · rename_i q la lb hq ha hb2
        split at hz
        · rename_i he
          cases hz
          obtain ⟨g6, -⟩ := hL.2.1 _ (px_look_mem hq)
          obtain ⟨g1, g2, g3, g4⟩ := g6 he.1
          rw [List.map_cons, List.map_cons, List.map_cons, List.map_cons, List.map_cons, px_ad had c3, px_ad had c4]
          exact px_copy_W hx hb (by rw [hml]; exact hl.1.symm) hown (hts _ g1) (hts _ g2) (hts _ g3) (hts _ g4) hK hH ha hb2 c5 c6 c7 he.2.1 he.2.2 (by omega) (by rw [px_tr_sum]; omega) hd (fun H1 locs1 a1 a2 a3 => kk H1 locs1 a1 (fun q hq => (a2 q hq).trans (hfr q hq)) (fun q hq => (a3 q hq).elim (hlocs q) (fun e => by rw [e]; exact Nat.le_add_right _ _)))
        · cases hz
      · cases hz
    · cases hz
  · split at hz
    · rename_i hc
      rw [hc.1] at hd
      split at hz
      · rename_i q hq
        split at hz
        · rename_i he
          cases hz
          obtain ⟨-, g7, -⟩ := hL.2.1 _ (px_look_mem hq)
          obtain ⟨g1, g2, g3⟩ := g7 he
          rw [List.map_cons, px_ad had hc.2.2.1]
          exact W.objInit hx hb hown (hts _ g1) (hts _ g2) (hts _ g3) rfl (by rw [hml]; exact hl.1) rfl hd (by omega) (by show 2 * 0 + _ + 12 ≤ _; rw [px_tr_sum]; omega) (kk H locs hH hfr hlocs)
        · cases hz
      · cases hz
    · cases hz
  · cases hz
theorem px_W6 (E : px_Env Ts Ns cl D cI cJ h p s m args meth c) (hL : px_okL Ts Ns cl SL P h.1.cls L) {i : Instr} {len d : Nat} {st : List Value} {z : List Value} {lv : List (Nat × Value)}
    (hl : lv_has ls h.2.2.1 lv) (hd : decode h.2.1 pc = .ok (i, len)) (hz : px_s6 i len d L st = some z) (hdf : d ≤ R.frames) (hdl : 100 * d ≤ R.locals) (hcc : cells ≤ R.cells) (hss : slots ≤ R.slots)
    (kk : W p l e R s m args below meth c H locs cells slots Q (F0 m (pc + 3) ls (z.map (px_tr ad)))) : W p l e R s m args below meth c H locs cells slots Q (F0 m pc ls (st.map (px_tr ad))) := by
  obtain ⟨hx, hb, hml, hr, hlk, hnm, hown, hts, hK, hNs⟩ := E
  have hml2 : c.maxLocals = ls.size := by rw [hml]; exact hl.1.symm
  unfold px_s6 at hz
  split at hz
  · split at hz
    · rename_i hc
      rw [hc.1] at hd
      obtain ⟨q, hq, hz1⟩ := Option.bind_eq_some_iff.mp hz
      clear hz
      obtain ⟨-, -, -, g8, g9, g10⟩ := hL.2.1 _ (px_look_mem hq)
      split at hz1
      · split at hz1
        · rename_i he
          split at hz1
          · rename_i hs2
            cases hz1
            obtain ⟨a1, a2, a3, a4⟩ := g10 he
            exact va_mabs hx hb hml2 hown (hts _ a1) (hts _ a2) (hts _ a3) (hts _ a4) (by omega) (by rw [px_tr_sum]; omega) hcc hss hd kk
          · cases hz1
        · split at hz1
          · split at hz1
            · rename_i hs2
              split at hz1
              · rename_i he
                cases hz1
                obtain ⟨a1, a2, a3, a4⟩ := g8 he
                exact va_mmax hx hb hml2 hown (hts _ a1) (hts _ a2) (hts _ a3) (hts _ a4) (by omega) (by rw [px_tr_sum]; omega) hcc hss hd kk
              · split at hz1
                · rename_i he
                  cases hz1
                  obtain ⟨a1, a2, a3, a4⟩ := g9 he
                  exact va_mmin hx hb hml2 hown (hts _ a1) (hts _ a2) (hts _ a3) (hts _ a4) (by omega) (by rw [px_tr_sum]; omega) hcc hss hd kk
                · cases hz1
            · cases hz1
          · cases hz1
      · cases hz1
    · cases hz
  · cases hz
def px_Qc (cl : List vw_C) (ad : Nat → Option Nat) (D : va_G) (cI cJ : ClassId) (B : Nat) (v : Option Value) (w' : px_W) : Array Value → State → Outcome → State → Prop := fun _ st o t => o = .returned (v.map (px_tr ad)) ∧ px_H cl ad D cI cJ B w' t.heap ∧ ∀ q, q < B → t.heap[q]? = st.heap[q]?
def px_Pc (Ns : List Cond) (cl : List vw_C) (lt : List (List Int32)) (SL : List (String × Nat × Nat)) (ad : Nat → Option Nat) (D : va_G) (cI cJ : ClassId) (B : Nat) (as : List Value) (w : px_W) : Array Value → State → Prop := fun a U => a = (as.map (px_tr ad)).toArray ∧ px_H cl ad D cI cJ B w U.heap ∧ va_K D cl [(cI, .int), (cJ, .long)] U ∧ (∀ x ∈ Ns, va_Nw x U) ∧ px_X lt SL ad B U U.heap
theorem px_Pc_blind (hN : ∀ x ∈ Ns, ∃ (a : String) (i : Nat) (y : MethodName) (h : String), x = Cond.methodLinkNest a i y h) {as : List Value} : FrameBlind (px_Pc Ns cl lt SL ad D cI cJ B as w) := by
  intro a U g mk q
  obtain ⟨q1, q2, q3, q4, q5⟩ := q
  refine ⟨q1, q2, va_K.moved (u := U) (U := U.calling g mk a) (Vm.Alike.refl U.vm) q3, fun x hx => ?_, px_X.same (u := U) (U := U.calling g mk a) rfl q5⟩
  obtain ⟨b, i, y, h, rfl⟩ := hN x hx
  exact va_Nw.same rfl (u := U) (U := U.calling g mk a) rfl (q4 _ hx)
theorem px_after {v : Option Value} {w' : px_W} {a : Array Value} {mc ms : Nat} {st0 rest' : List Value} (hr : va_Run p l e R s m args below meth c H locs cells slots mc ms (F0 m pc ls st0) rest' (px_Qc cl ad D cI cJ B v w' a) (fun q => B ≤ q)) (hfr : ∀ q, q < B → H[q]? = s.heap[q]?) (hlocs : ∀ q ∈ locs, B ≤ q.base)
    (kk : ∀ (H1 : Heap) (locs1 : List Loc), px_H cl ad D cI cJ B w' H1 → (∀ q, q < B → H1[q]? = s.heap[q]?) → (∀ q ∈ locs1, B ≤ q.base) → W p l e R s m args below meth c H1 locs1 (cells + mc) (slots + ms) Q (F0 m (pc + 3) ls ((v.map (px_tr ad)).toList ++ rest'))) : W p l e R s m args below meth c H locs cells slots Q (F0 m pc ls st0) := by
  intro T hT X
  obtain ⟨v2, st₀, t, T', L2, h0, X', hL2, e1, e2, ⟨hv, hh, hf⟩, st⟩ := hr T hT X
  cases hv
  obtain ⟨t2, a1, b1⟩ := kk T'.heap (locs ++ L2) (by rw [e1]; exact hh) (fun q hq => by rw [e1, hf q hq, h0]; exact hfr q hq) (fun q hq => (List.mem_append.mp hq).elim (hlocs q) (hL2 q)) T' rfl X'
  exact ⟨t2, st t2 a1, b1⟩
end PX3
end
section
/-! CALLS, AND RUNS -/
section PX4
variable {p : Program} {l : Launch} {e : Env} {R : Room} {s : State} {m : MethodId} {args : Array Value} {below : List Frame} {meth : Method} {c : Code} {H : Heap} {locs : List Loc} {cells slots : Nat} {Q : State → Prop}
variable {pc : Nat} {ls : Array Slot} {rest : List Value} {cl : List vw_C} {ad : Nat → Option Nat} {D : va_G} {cI cJ : ClassId} {B : Nat} {w : px_W} {Ts Ns : List Cond} {P : List px_M} {h : px_Hd} {L : px_L} {lt : List (List Int32)} {SL : List (String × Nat × Nat)}
theorem px_good (hg : ∀ w ∈ Ts, goodWord w = true) {x : Cond} (hx : x ∈ Ts) : GoodIn Ts (x :: Ts) := fun w hw => (List.mem_cons.mp hw).elim (fun e => by subst e; exact ⟨hx, good_of_word (hg _ hx)⟩) (fun q => ⟨q, good_of_word (hg _ q)⟩)
theorem px_stack {st r : List Value} {b n : Nat} (hdr : st.drop n = .ref b :: r) : st.map (px_tr ad) = (((st.take n).reverse).map (px_tr ad)).reverse ++ px_tr ad (.ref b) :: r.map (px_tr ad) := by
  rw [← List.map_reverse, List.reverse_reverse, ← List.map_cons, ← List.map_append, ← hdr, List.take_append_drop]
theorem px_stackS (st : List Value) (n : Nat) : st.map (px_tr ad) = (((st.take n).reverse).map (px_tr ad)).reverse ++ (st.drop n).map (px_tr ad) := by
  rw [← List.map_reverse, List.reverse_reverse, ← List.map_append, List.take_append_drop]
theorem px_W4 (E : px_Env Ts Ns cl D cI cJ h p s m args meth c) (hO : px_okP Ts Ns cl SL P) (hL : px_okL Ts Ns cl SL P h.1.cls L) (had : ∀ k, ad (64 + k) = some (B + k)) {i : Instr} {len d : Nat} {st : List Value} {lv : List (Nat × Value)}
    (hl : lv_has ls h.2.2.1 lv) (hd : decode h.2.1 pc = .ok (i, len)) {q : Nat × List Value × List Value} (hz : px_s4 cl P i len L st w = some q) {M' : px_M} (hM' : P[q.1]? = some M') {mc ms : Nat} {v : Option Value} {w' : px_W}
    (hMet : Met l M'.1.1 (Cond.code M'.1.1 M'.1.2.1 M'.1.2.2.1 M'.1.2.2.2.1 :: Ts) { frames := d, cells := mc, slots := ms, locals := 100 * d } (px_Pc Ns cl lt SL ad D cI cJ B q.2.1 w) (px_Qc cl ad D cI cJ B v w') mc ms (fun a => B ≤ a))
    (hH : px_H cl ad D cI cJ B w H) (hfr : ∀ q, q < B → H[q]? = s.heap[q]?) (hlocs : ∀ q ∈ locs, B ≤ q.base) (hXX : px_X lt SL ad B s s.heap) (hdf : d + 1 ≤ R.frames) (hdl : 100 * (d + 1) ≤ R.locals) (hcc : cells + mc ≤ R.cells) (hss : slots + ms ≤ R.slots)
    (kk : ∀ (H1 : Heap) (locs1 : List Loc), px_H cl ad D cI cJ B w' H1 → (∀ q, q < B → H1[q]? = s.heap[q]?) → (∀ q ∈ locs1, B ≤ q.base) → W p l e R s m args below meth c H1 locs1 (cells + mc) (slots + ms) Q (F0 m (pc + 3) ls ((v.map (px_tr ad)).toList ++ q.2.2.map (px_tr ad)))) : W p l e R s m args below meth c H locs cells slots Q (F0 m pc ls (st.map (px_tr ad))) := by
  obtain ⟨hx, hb, hml, hr, hlk, hnm, hown, hts, hK, hNs⟩ := E
  have hMP : M' ∈ P := List.mem_of_getElem? hM'
  obtain ⟨⟨o1, o2, o3, o4, o5⟩, -, -⟩ := hO.2.1 M' hMP
  have hG := px_good hO.2.2.2.2.1 o1
  have hbl : ∀ as : List Value, FrameBlind (px_Pc Ns cl lt SL ad D cI cJ B as w) := fun as => px_Pc_blind hO.2.2.2.2.2
  have hR : d + 1 ≤ R.frames ∧ 8 + (M'.1.2.2.1 + 11) + 100 * d ≤ R.locals := ⟨hdf, by omega⟩
  have hNw : ∀ (U : State), s.WarmedH U.vm → ∀ x ∈ Ns, va_Nw x U := fun U hW x hx => by
    obtain ⟨b, j, y, hh, rfl⟩ := hO.2.2.2.2.2 x hx
    exact va_Nw.warmM hW (hNs _ hx)
  have hPc : ∀ (as : List Value) (U : State), U.heap = H → s.WarmedH U.vm → px_Pc Ns cl lt SL ad D cI cJ B as w (as.map (px_tr ad)).toArray U := fun as U hU hW => ⟨rfl, by rw [hU]; exact hH, va_K.moved hW.alike hK, hNw U hW, hXX.to hW (fun q hq => by rw [hU]; exact hfr q hq)⟩
  have S : CallFix p m c h.2.1 h.2.2.1 s args Ts h.1.cls := ⟨hx, hb, hml, hown, hts⟩
  unfold px_s4 at hz
  split at hz
  · split at hz
    · rename_i hc
      rw [hc] at hd
      obtain ⟨k, hk, hz1⟩ := Option.bind_eq_some_iff.mp hz
      clear hz
      obtain ⟨M2, hM2, hz⟩ := Option.bind_eq_some_iff.mp hz1
      clear hz1
      split at hz
      · rename_i b r hdr
        split at hz
        · rename_i hcs
          split at hz
          · rename_i o ho
            split at hz
            · rename_i kc hkc
              split at hz
              · rename_i hcn
                cases hz
                have e2 : M2 = M' := Option.some.inj (hM2.symm.trans hM')
                subst e2
                obtain ⟨g0, -⟩ := (hL.2.1 _ (px_look_mem hk)).2.2.1 M2 hM2
                obtain ⟨g1, g2, g3⟩ := g0 hcs.1
                obtain ⟨r2, k1, cell, k2, k3, k4, -⟩ := hH.2 _ _ ho
                have hrr : r2 = kc := Option.some.inj (k1.symm.trans hkc)
                subst hrr
                rw [px_stack hdr, px_ad had hcs.2.2.1]
                have hfc : s.vm.findClass M2.1.1.cls = some cell.cls := by rw [← hcn, k3]; exact (hK.1 _ _ k1).2.1
                have hPre := hPc (.ref b :: (st.take M2.1.2.2.2.2).reverse)
                rw [List.map_cons, px_ad had hcs.2.2.1] at hPre
                exact px_after (va_runV (As := ((st.take M2.1.2.2.2.2).reverse).map (px_tr ad)) (C := M2.1.1.cls) S hMet ⟨callB_of M2.1.2.2.2.2 hts hG rfl rfl rfl (hts _ o3) (hts _ g1) o4 hR, hts _ g2, hts _ g3⟩ ⟨hbl _, ⟨cell, k2, by rw [k4]; rfl, hfc⟩, hPre⟩ rfl (by simp; omega) hl.1 rfl (lv_room (by rw [px_tr_sum]; exact hcs.2.2.2)) hd ⟨hcc, hss⟩) hfr hlocs kk
              · cases hz
            · cases hz
          · cases hz
        · split at hz
          · rename_i hcs
            cases hz
            have e2 : M2 = M' := Option.some.inj (hM2.symm.trans hM')
            subst e2
            obtain ⟨g0, -⟩ := (hL.2.1 _ (px_look_mem hk)).2.2.1 M2 hM2
            obtain ⟨g1, g2, g3⟩ := g0 hcs.1
            obtain ⟨adK, adV, x1, x2, x3, x4, x5⟩ := id hXX
            obtain ⟨hj, hj1, hj2⟩ := px_n1 b ⟨hcs.2.2.1, hcs.2.2.2.1⟩
            have ea : ad b = some (adK (b - 1)) := by have := (x1 (b - 1) hj).1; rwa [hj1] at this
            have eb : px_tr ad (.ref b) = .ref (adK (b - 1)) := by show va_rf (ad b) = _; rw [ea]; rfl
            obtain ⟨cell, k2, k4, k3, -⟩ := ((x2.1 (b - 1) hj).1).kept (H1 := H) (fun a _ z => hfr a (Nat.not_le.mp z))
            rw [px_stack hdr, eb]
            have hPre := hPc (.ref b :: (st.take M2.1.2.2.2.2).reverse)
            rw [List.map_cons, eb] at hPre
            exact px_after (va_runV (As := ((st.take M2.1.2.2.2.2).reverse).map (px_tr ad)) (C := M2.1.1.cls) S hMet ⟨callB_of M2.1.2.2.2.2 hts hG rfl rfl rfl (hts _ o3) (hts _ g1) o4 hR, hts _ g2, hts _ g3⟩ ⟨hbl _, ⟨cell, k2, k4, by rw [hcs.2.2.2.2.1]; exact k3⟩, hPre⟩ rfl (by simp; omega) hl.1 rfl (lv_room (by rw [px_tr_sum]; exact hcs.2.2.2.2.2)) hd ⟨hcc, hss⟩) hfr hlocs kk
          · cases hz
      · cases hz
    · cases hz
  · split at hz
    · rename_i hc
      rw [hc] at hd
      obtain ⟨k, hk, hz1⟩ := Option.bind_eq_some_iff.mp hz
      clear hz
      obtain ⟨M2, hM2, hz⟩ := Option.bind_eq_some_iff.mp hz1
      clear hz1
      split at hz
      · rename_i hcs
        cases hz
        have e2 : M2 = M' := Option.some.inj (hM2.symm.trans hM')
        subst e2
        obtain ⟨-, g1, -, g4, -⟩ := (hL.2.1 _ (px_look_mem hk)).2.2.1 M2 hM2
        rw [px_stackS st M2.1.2.2.2.2]
        rcases hcs.1 with hk1 | hk1
        · obtain ⟨g1, g2⟩ := g1 hk1
          exact px_after (va_runS (As := ((st.take M2.1.2.2.2.2).reverse).map (px_tr ad)) S hMet ⟨callB_of M2.1.2.2.2.2 hts hG rfl rfl rfl (hts _ o3) (hts _ g1) o4 hR, hts _ g2⟩ ⟨hbl _, hPc _⟩ rfl (by simp; omega) hl.1 rfl (lv_room (by rw [px_tr_sum]; exact hcs.2.2)) hd ⟨hcc, hss⟩) hfr hlocs kk
        · obtain ⟨g1, g2⟩ := g4 hk1
          exact px_after (va_runSN (As := ((st.take M2.1.2.2.2.2).reverse).map (px_tr ad)) S hMet ⟨va_cnB M2.1.2.2.2.2 hts hG rfl rfl rfl (hNs _ g1) (hts _ o3) o4 hR, hts _ g2, trivial⟩ ⟨hbl _, hPc _⟩ rfl (by simp; omega) hl.1 rfl (lv_room (by rw [px_tr_sum]; exact hcs.2.2)) hd ⟨hcc, hss⟩) hfr hlocs kk
      · cases hz
    · cases hz
  · split at hz
    · rename_i hc
      rw [hc] at hd
      obtain ⟨k, hk, hz1⟩ := Option.bind_eq_some_iff.mp hz
      clear hz
      obtain ⟨M2, hM2, hz⟩ := Option.bind_eq_some_iff.mp hz1
      clear hz1
      split at hz
      · rename_i b r hdr
        split at hz
        · rename_i hcs
          cases hz
          have e2 : M2 = M' := Option.some.inj (hM2.symm.trans hM')
          subst e2
          obtain ⟨-, -, g2, -, g5⟩ := (hL.2.1 _ (px_look_mem hk)).2.2.1 M2 hM2
          have hPre := hPc (.ref b :: (st.take M2.1.2.2.2.2).reverse)
          rw [List.map_cons, px_ad had hcs.2.2.1] at hPre
          rw [px_stack hdr, px_ad had hcs.2.2.1]
          obtain ⟨⟨y2, cc2, mx2, ret2, n2⟩, co2, L2⟩ := M2
          have hn2 : n2 ≤ st.length := hcs.2.1
          rcases hcs.1 with hk1 | hk1
          · obtain ⟨g1, g2, g3, g4⟩ := g2 hk1
            cases g4
            exact px_after (va_runI (As := ((st.take n2).reverse).map (px_tr ad)) S hMet ⟨callB_of n2 hts hG rfl rfl rfl (hts _ o3) (hts _ g1) o4 hR, g2, hts _ g3⟩ ⟨hbl _, hPre⟩ rfl (by simp; omega) hl.1 rfl (lv_room (by rw [px_tr_sum]; exact hcs.2.2.2)) hd ⟨hcc, hss⟩) hfr hlocs kk
          · obtain ⟨g1, g2, g3, g4⟩ := g5 hk1
            cases g4
            exact px_after (va_runIN (As := ((st.take n2).reverse).map (px_tr ad)) S hMet ⟨va_cnB n2 hts hG rfl rfl rfl (hNs _ g1) (hts _ o3) o4 hR, g2, hts _ g3⟩ ⟨hbl _, hPre⟩ rfl (by simp; omega) hl.1 rfl (lv_room (by rw [px_tr_sum]; exact hcs.2.2.2)) hd ⟨hcc, hss⟩) hfr hlocs kk
        · cases hz
      · cases hz
    · cases hz
  · cases hz
theorem px_s5_st {i : Instr} {len : Nat} {ret : Option FieldType} {st : List Value} {v : Option Value} (hz : px_s5 i len ret st = some v) : st = v.toList := by
  unfold px_s5 at hz
  split at hz
  · split at hz
    · split at hz
      · cases hz; rfl
      · cases hz
    · cases hz
  · split at hz
    · cases hz; rfl
    · cases hz
  · split at hz
    · cases hz; rfl
    · cases hz
  · cases hz
theorem px_ret_W (hx : p.tables.exec = Jvm.exec) {cc : ByteArray} (hb : c.code = cc) {ret : Option FieldType} (hr : meth.sig.returnType = ret) (hlocks : meth.locks = false) {Qc : Array Value → State → Outcome → State → Prop} {free : Addr → Prop} {i : Instr} {len : Nat} {v : Option Value} (hd : decode cc pc = .ok (i, len)) (hz : px_s5 i len ret v.toList = some v) (hq : ∀ t : State, t.heap = H → s.WarmedH t.vm → Qc args s (.returned (v.map (px_tr ad))) t) (hf : ∀ q ∈ locs, free q.base) :
    W p l e R s m args below meth c H locs cells slots (MQ below Qc args s cells slots free) (F0 m pc ls (v.toList.map (px_tr ad))) := by
  generalize hst : v.toList = st at hz
  unfold px_s5 at hz
  split at hz
  · split at hz
    · split at hz
      · rename_i hc
        cases hz
        rw [hc.1] at hd
        exact W.zret hx hb hr hc.2 hq hf hd hlocks
      · cases hz
    · cases hz
  · split at hz
    · rename_i hc
      cases hz
      rw [hc.1] at hd
      rw [hc.2] at hr
      exact W.lret hx hb hr hq hf hd hlocks
    · cases hz
  · split at hz
    · rename_i hc
      cases hz
      rw [hc.1] at hd
      rw [hc.2] at hr
      exact W.vret hx hb hr hq hf hd hlocks
    · cases hz
  · cases hz
end PX4
def px_Goal (Ts Ns : List Cond) (cl : List vw_C) (lt : List (List Int32)) (SL : List (String × Nat × Nat)) (P : List px_M) (n : Nat) : Prop :=
  ∀ (d : Nat) (scr : Option (List Int32)) (M : px_M) (pc : Nat) (lv : List (Nat × Value)) (st : List Value) (w : px_W) (b : Nat × Nat) (r : Option Value × px_W × (Nat × Nat)), px_exec cl lt P n d scr M pc lv st w b = some r → (∀ q ∈ M.2.1, decode M.1.2.1 q.1 = .ok q.2) ∧ px_okL Ts Ns cl SL P M.1.1.cls M.2.2 →
  ∀ (D : va_G) (cI cJ : ClassId) (B : Nat) (ad : Nat → Option Nat) (p : Program) (l : Launch) (e : Env) (R : Room) (s : State) (m : MethodId) (args : Array Value) (below : List Frame) (meth : Method) (c : Code) (H : Heap) (locs : List Loc) (cells slots : Nat) (Q : State → Prop) (ls : Array Slot),
  (∀ k, ad (64 + k) = some (B + k)) → px_Env Ts Ns cl D cI cJ M.1 p s m args meth c → lv_has ls M.1.2.2.1 (px_lv ad lv) → px_H cl ad D cI cJ B w H → (∀ q, q < B → H[q]? = s.heap[q]?) → (∀ q ∈ locs, B ≤ q.base) → d ≤ R.frames → 100 * d ≤ R.locals → cells + (b.1 - r.2.2.1) ≤ R.cells → slots + (b.2 - r.2.2.2) ≤ R.slots →
  (∀ xs, scr = some xs → ∃ b0, ad 0 = some b0 ∧ va_X b0 xs.length (fun j => xs.getD j 0) s s.heap ∧ b0 < B) → px_X lt SL ad B s s.heap →
  (∀ (H1 : Heap) (ls1 : Array Slot) (pc1 : Nat) (i1 : Instr) (len1 : Nat) (locs1 : List Loc) (cells1 slots1 : Nat), px_H cl ad D cI cJ B r.2.1 H1 → (∀ q, q < B → H1[q]? = s.heap[q]?) → (∀ q ∈ locs1, B ≤ q.base) → decode M.1.2.1 pc1 = .ok (i1, len1) → px_s5 i1 len1 M.1.2.2.2.1 r.1.toList = some r.1 → cells1 ≤ cells + (b.1 - r.2.2.1) → slots1 ≤ slots + (b.2 - r.2.2.2) → W p l e R s m args below meth c H1 locs1 cells1 slots1 Q (F0 m pc1 ls1 (r.1.toList.map (px_tr ad)))) →
  W p l e R s m args below meth c H locs cells slots Q (F0 m pc ls (st.map (px_tr ad)))
theorem px_met {Ts Ns : List Cond} {cl : List vw_C} {lt : List (List Int32)} {SL : List (String × Nat × Nat)} {P : List px_M} (hO : px_okP Ts Ns cl SL P) {n : Nat} (IH : px_Goal Ts Ns cl lt SL P n) {d : Nat} {M : px_M} {as : List Value} {w : px_W} {b : Nat × Nat} {r : Option Value × px_W × (Nat × Nat)} (hex : px_exec cl lt P n d none M 0 (lv_args 0 as) [] w b = some r) (hM : M ∈ P) (hfit : (lg_sl as).length ≤ M.1.2.2.1)
    (l : Launch) (D : va_G) (cI cJ : ClassId) (B : Nat) (ad : Nat → Option Nat) (had : ∀ k, ad (64 + k) = some (B + k)) : Met l M.1.1 (Cond.code M.1.1 M.1.2.1 M.1.2.2.1 M.1.2.2.2.1 :: Ts) { frames := d, cells := b.1 - r.2.2.1, slots := b.2 - r.2.2.2, locals := 100 * d } (px_Pc Ns cl lt SL ad D cI cJ B as w) (px_Qc cl ad D cI cJ B r.1 r.2.1) (b.1 - r.2.2.1) (b.2 - r.2.2.2) (fun a => B ≤ a) := by
  obtain ⟨⟨o1, o2, o3, o4, o5⟩, -, -⟩ := hO.2.1 M hM
  refine Met.ofW (cc := M.1.2.1) (maxL := M.1.2.2.1) (ret := M.1.2.2.2.1) o2 rfl ?_
  intro p e s m args below meth c s₁ Bd hml hv
  obtain ⟨rfl, hH, hK, hN, hXX⟩ := hv
  have hts0 := atoms_spec (ws := Cond.code M.1.1 M.1.2.1 M.1.2.2.1 M.1.2.2.2.1 :: Ts) Bd.pre
  have hts : ∀ x ∈ Ts, x.before _ s = true := fun x hx => hts0 x (List.mem_cons_of_mem _ hx)
  have hown : s.vm.findClass M.1.1.cls = some m.cls := findClass_of_methodNamed Bd.named
  have hnm : M.1.1.name = "<init>" → meth.name = "<init>" := fun z => (name_of_methodNamed Bd.named Bd.method).1.trans z
  have hl := lv_entry (as.map (px_tr ad)) (n := M.1.2.2.1) (by rw [px_sl_tr]; exact hfit)
  rw [px_args_tr] at hl
  rw [lg_entry_eq]
  refine IH d none M 0 _ [] w b r hex (hO.2.1 M hM).2 D cI cJ B ad p l e _ s m _ below meth c s.heap [] 0 0 _ _ had ⟨Bd.exec, Bd.bytes, hml, Bd.returns, Bd.notSynchronized, hnm, hown, hts, hK, hN⟩ hl hH (fun _ _ => rfl) (fun _ z => by cases z) (Nat.le_refl _) (Nat.le_refl _) (by show 0 + (b.1 - r.2.2.1) ≤ b.1 - r.2.2.1; omega) (by show 0 + (b.2 - r.2.2.2) ≤ b.2 - r.2.2.2; omega) (fun _ z => by cases z) hXX ?_
  intro H1 ls1 pc1 i1 len1 locs1 cells1 slots1 a1 a2 a3 a4 a5 a6 a7
  refine W.widen (k := b.1 - r.2.2.1) (n := b.2 - r.2.2.2) (by omega) (by omega) ?_
  exact px_ret_W Bd.exec Bd.bytes Bd.returns Bd.notSynchronized a4 a5 (fun t ht _ => ⟨rfl, by rw [ht]; exact a1, fun q hq => by rw [ht]; exact a2 q hq⟩) a3
theorem px_sim {Ts Ns : List Cond} {cl : List vw_C} {lt : List (List Int32)} {SL : List (String × Nat × Nat)} {P : List px_M} (hO : px_okP Ts Ns cl SL P) : ∀ n, px_Goal Ts Ns cl lt SL P n := by
  intro n
  induction n with
  | zero =>
    intro d scr M pc lv st w b r hex
    simp [px_exec] at hex
  | succ n IH =>
    intro d scr M pc lv st w b r hex hM D cI cJ B ad p l e R s m args below meth c H locs cells slots Q ls had E hl hH hfr hlocs hdf hdl hcc hss hscr hXX hret
    obtain ⟨hdec, hL⟩ := id hM
    unfold px_exec at hex
    split at hex
    · cases hex
    · rename_i z hst
      split at hex
      · rename_i hbud
        have hmo := px_mono _ _ _ _ _ _ _ _ _ _ hex
        simp only at hmo
        unfold px_step at hst
        obtain ⟨q, hq, hs⟩ := Option.bind_eq_some_iff.mp hst
        clear hst
        have hd := hdec _ (px_look_mem hq)
        have hs1 := px_or_some hs
        clear hs
        rcases hs1 with hs | hs
        · obtain ⟨y, hy, hs2⟩ := Option.map_eq_some_iff.mp hs
          cases hs2
          refine px_W1 E.1 E.2.1 ad hd hy hl (fun ls' hl' => ?_)
          exact IH d scr M _ _ _ w _ r hex hM D cI cJ B ad p l e R s m args below meth c H locs cells slots Q ls' had E hl' hH hfr hlocs hdf hdl hcc hss hscr hXX hret
        have hs1 := px_or_some hs
        clear hs
        rcases hs1 with hs | hs
        · obtain ⟨y, hy, hs2⟩ := Option.map_eq_some_iff.mp hs
          cases hs2
          simp only at hbud hmo hex
          refine px_W2 E hO.1 hL hO.2.2.1 hO.2.2.2.1 had hd hy hH hfr hlocs (by omega) (by omega) hscr hXX (fun H1 locs1 a1 a2 a3 => ?_)
          exact IH d scr M _ _ _ _ _ r hex hM D cI cJ B ad p l e R s m args below meth c H1 locs1 _ _ Q ls had E hl a1 a2 a3 hdf hdl (by simp only; omega) (by simp only; omega) hscr hXX (fun H2 ls2 pc2 i2 len2 locs2 cells2 slots2 b1 b2 b3 b4 b5 b6 b7 => hret H2 ls2 pc2 i2 len2 locs2 cells2 slots2 b1 b2 b3 b4 b5 (by simp only at b6; omega) (by simp only at b7; omega))
        have hs1 := px_or_some hs
        clear hs
        rcases hs1 with hs | hs
        · obtain ⟨y, hy, hs2⟩ := Option.map_eq_some_iff.mp hs
          cases hs2
        have hs1 := px_or_some hs
        clear hs
        rcases hs1 with hs | hs
        · obtain ⟨y, hy, hs2⟩ := Option.map_eq_some_iff.mp hs
          cases hs2
          refine px_W3 E hL had hl hd hy hH hfr hlocs hdf hdl (fun H1 locs1 a1 a2 a3 => ?_)
          exact IH d scr M _ _ _ _ _ r hex hM D cI cJ B ad p l e R s m args below meth c H1 locs1 cells slots Q ls had E hl a1 a2 a3 hdf hdl hcc hss hscr hXX hret
        have hs1 := px_or_some hs
        clear hs
        rcases hs1 with hs | hs
        · obtain ⟨y, hy, hs2⟩ := Option.map_eq_some_iff.mp hs
          cases hs2
          refine px_W6 E hL hl hd hy hdf hdl (by omega) (by omega) ?_
          exact IH d scr M _ _ _ _ _ r hex hM D cI cJ B ad p l e R s m args below meth c H locs cells slots Q ls had E hl hH hfr hlocs hdf hdl hcc hss hscr hXX hret
        · obtain ⟨y, hy, hs2⟩ := Option.map_eq_some_iff.mp hs
          cases hs2
      · cases hex
    · rename_i v hst
      cases hex
      unfold px_step at hst
      obtain ⟨q, hq, hs⟩ := Option.bind_eq_some_iff.mp hst
      clear hst
      have hd := hdec _ (px_look_mem hq)
      have hs1 := px_or_some hs
      clear hs
      rcases hs1 with hs | hs
      · obtain ⟨y, hy, hs2⟩ := Option.map_eq_some_iff.mp hs
        cases hs2
      have hs1 := px_or_some hs
      clear hs
      rcases hs1 with hs | hs
      · obtain ⟨y, hy, hs2⟩ := Option.map_eq_some_iff.mp hs
        cases hs2
      have hs1 := px_or_some hs
      clear hs
      rcases hs1 with hs | hs
      · obtain ⟨y, hy, hs2⟩ := Option.map_eq_some_iff.mp hs
        cases hs2
        have hst := px_s5_st hy
        subst hst
        exact hret H ls pc _ _ locs cells slots hH hfr hlocs hd hy (by omega) (by omega)
      have hs1 := px_or_some hs
      clear hs
      rcases hs1 with hs | hs
      · obtain ⟨y, hy, hs2⟩ := Option.map_eq_some_iff.mp hs
        cases hs2
      have hs1 := px_or_some hs
      clear hs
      rcases hs1 with hs | hs
      · obtain ⟨y, hy, hs2⟩ := Option.map_eq_some_iff.mp hs
        cases hs2
      · obtain ⟨y, hy, hs2⟩ := Option.map_eq_some_iff.mp hs
        cases hs2
    · rename_i k hst
      split at hex
      · rename_i d' M' hM'
        split at hex
        · rename_i hfit
          split at hex
          · cases hex
          · rename_i r2 hex2
            have hm1 := px_mono _ _ _ _ _ _ _ _ _ _ hex2
            have hm2 := px_mono _ _ _ _ _ _ _ _ _ _ hex
            unfold px_step at hst
            obtain ⟨q, hq, hs⟩ := Option.bind_eq_some_iff.mp hst
            clear hst
            have hd := hdec _ (px_look_mem hq)
            have hs1 := px_or_some hs
            clear hs
            rcases hs1 with hs | hs
            · obtain ⟨y, hy, hs2⟩ := Option.map_eq_some_iff.mp hs
              cases hs2
            have hs1 := px_or_some hs
            clear hs
            rcases hs1 with hs | hs
            · obtain ⟨y, hy, hs2⟩ := Option.map_eq_some_iff.mp hs
              cases hs2
            have hs1 := px_or_some hs
            clear hs
            rcases hs1 with hs | hs
            · obtain ⟨y, hy, hs2⟩ := Option.map_eq_some_iff.mp hs
              cases hs2
            have hs1 := px_or_some hs
            clear hs
            rcases hs1 with hs | hs
            · obtain ⟨y, hy, hs2⟩ := Option.map_eq_some_iff.mp hs
              cases hs2
            have hs1 := px_or_some hs
            clear hs
            rcases hs1 with hs | hs
            · obtain ⟨y, hy, hs2⟩ := Option.map_eq_some_iff.mp hs
              cases hs2
            · obtain ⟨y, hy, hs2⟩ := Option.map_eq_some_iff.mp hs
              cases hs2
              have hMet := px_met hO IH hex2 (List.mem_of_getElem? hM') hfit l D cI cJ B ad had
              refine px_W4 E hO hL had hl hd hy hM' hMet hH hfr hlocs hXX hdf hdl (by omega) (by omega) (fun H1 locs1 a1 a2 a3 => ?_)
              have e2 : (r2.1.map (px_tr ad)).toList ++ k.2.2.map (px_tr ad) = (r2.1.toList ++ k.2.2).map (px_tr ad) := by
                rw [List.map_append]
                cases r2.1 <;> rfl
              rw [e2]
              exact IH _ scr M _ _ _ _ _ r hex hM D cI cJ B ad p l e R s m args below meth c H1 locs1 _ _ Q ls had E hl a1 a2 a3 hdf hdl (by omega) (by omega) hscr hXX (fun H2 ls2 pc2 i2 len2 locs2 cells2 slots2 b1 b2 b3 b4 b5 b6 b7 => hret H2 ls2 pc2 i2 len2 locs2 cells2 slots2 b1 b2 b3 b4 b5 (by omega) (by omega))
        · cases hex
      · cases hex
end
section
/-! CHECKS BY PROGRAM of what the tables must say -/
def px_T (l : List (String × String × String × Bool)) : u_T := fun k => l.getD k ("", "", "", false)
def px_Ts : List Cond := lw_tbl.filter goodWord
def px_isN (w : Cond) : Bool := match w with
  | .methodLinkNest _ _ _ _ => true
  | _ => false
def px_Ns : List Cond := tables_1.filter px_isN
theorem px_Ns_ok : ∀ x ∈ px_Ns, ∃ (a : String) (i : Nat) (y : MethodName) (h : String), x = Cond.methodLinkNest a i y h := by
  intro x hx
  have h := (List.mem_filter.mp hx).2
  unfold px_isN at h
  split at h
  · exact ⟨_, _, _, _, rfl⟩
  · cases h
theorem px_Ts_good : ∀ w ∈ px_Ts, goodWord w = true := fun w hw => (List.mem_filter.mp hw).2
def px_wd (k : Nat) (w : Cond) : Bool := goodWord w && decide (lw_tbl[k]? = some w)
theorem px_wd_in {k : Nat} {w : Cond} (h : px_wd k w = true) : w ∈ px_Ts := by
  unfold px_wd at h
  simp only [Bool.and_eq_true, decide_eq_true_eq] at h
  exact List.mem_filter.mpr ⟨List.mem_of_getElem? h.2, h.1⟩
def px_wn (k : Nat) (w : Cond) : Bool := decide (px_Ns[k]? = some w)
theorem px_wn_in {k : Nat} {w : Cond} (h : px_wn k w = true) : w ∈ px_Ns := List.mem_of_getElem? (of_decide_eq_true h)
def px_all2 {α β : Type} (f : α → β → Bool) : List α → List β → Bool
  | [], _ => true
  | a :: l, b :: m => f a b && px_all2 f l m
  | _ :: _, [] => false
theorem px_all2_mem {α β : Type} {f : α → β → Bool} : ∀ {l : List α} {m : List β}, px_all2 f l m = true → ∀ a ∈ l, ∃ b, f a b = true
  | [], _, _, _, ha => absurd ha List.not_mem_nil
  | x :: l, [], h, _, _ => by simp [px_all2] at h
  | x :: l, b :: m, h, a, ha => by
    simp only [px_all2, Bool.and_eq_true] at h
    rcases List.mem_cons.mp ha with e | e
    · subst e; exact ⟨b, h.1⟩
    · exact px_all2_mem h.2 a e
def px_bK (r : vw_C) (hs : List Nat) (ki kn : Nat) : Bool :=
  (List.range r.2.2).all (fun k => px_wd (hs.getD k 0) (u_lay r.1 r.2.1 k)) && ((List.range r.2.2).all (fun k => (parseFieldDescriptor (r.2.1 k).2.2.1).isSome) && ((List.range r.2.2).all (fun a => (List.range r.2.2).all (fun b => a == b || !(decide ((r.2.1 a).2.1 = (r.2.1 b).2.1)))) && (px_wd ki (.instantiable r.1 r.2.2) && px_wd kn (.initialized r.1))))
theorem px_bK_ok {r : vw_C} {hs : List Nat} {ki kn : Nat} (h : px_bK r hs ki kn = true) : px_okK px_Ts r := by
  unfold px_bK at h
  simp only [Bool.and_eq_true] at h
  obtain ⟨h1, h2, h3, h4, h5⟩ := h
  refine ⟨fun w hw => ?_, fun k hk => ?_, fun a ha b hb hab => ?_, px_wd_in h4, px_wd_in h5⟩
  · obtain ⟨k, hk, rfl⟩ := List.mem_map.mp hw
    exact px_wd_in (List.all_eq_true.mp h1 k hk)
  · have h6 := List.all_eq_true.mp h2 k (List.mem_range.mpr hk)
    unfold px_ty
    cases hp : parseFieldDescriptor (r.2.1 k).2.2.1 with
    | none => rw [hp] at h6; cases h6
    | some t => rfl
  · have h6 := List.all_eq_true.mp (List.all_eq_true.mp h3 a (List.mem_range.mpr ha)) b (List.mem_range.mpr hb)
    simp only [Bool.or_eq_true, beq_iff_eq, Bool.not_eq_true', decide_eq_false_iff_not] at h6
    exact h6.elim (fun e => absurd e hab) id
def px_bF (cl : List vw_C) (own : String) (q : Nat × Nat × Nat) (k : Nat) : Bool := match cl[q.2.1]? with
  | some r => decide (q.2.2 < r.2.2) && px_wd k (.fieldLink own q.1 (r.2.1 q.2.2).1 (r.2.1 q.2.2).2.1 (r.2.1 q.2.2).2.2.1)
  | none => false
def px_bC (P : List px_M) (own : String) (q : Nat × Nat × Nat) (h : List Nat) : Bool :=
  if q.2.1 = 6 then px_wd (h.getD 0 0) (.methodLink own q.1 arraycopyName) && (px_wd (h.getD 1 0) (.native arraycopyName) && (px_wd (h.getD 2 0) (.static arraycopyName) && px_wd (h.getD 3 0) (.initialized "java/lang/System")))
  else if q.2.1 = 7 then px_wd (h.getD 0 0) (.methodLink own q.1 objectInit) && (px_wd (h.getD 1 0) (.instanceMethod objectInit) && px_wd (h.getD 2 0) (.code objectInit ⟨#[0xb1]⟩ 1 none))
  else if q.2.1 = 8 then px_wd (h.getD 0 0) (.methodLink own q.1 Lib.Math.max.name) && (px_wd (h.getD 1 0) (.static Lib.Math.max.name) && (px_wd (h.getD 2 0) (.initialized "java/lang/Math") && px_wd (h.getD 3 0) (.code Lib.Math.max.name Lib.Math.max.code 2 (some .int))))
  else if q.2.1 = 9 then px_wd (h.getD 0 0) (.methodLink own q.1 Lib.Math.min.name) && (px_wd (h.getD 1 0) (.static Lib.Math.min.name) && (px_wd (h.getD 2 0) (.initialized "java/lang/Math") && px_wd (h.getD 3 0) (.code Lib.Math.min.name Lib.Math.min.code 2 (some .int))))
  else if q.2.1 = 10 then px_wd (h.getD 0 0) (.methodLink own q.1 Lib.Math.abs.name) && (px_wd (h.getD 1 0) (.static Lib.Math.abs.name) && (px_wd (h.getD 2 0) (.initialized "java/lang/Math") && px_wd (h.getD 3 0) (.code Lib.Math.abs.name Lib.Math.abs.code 1 (some .int))))
  else match P[q.2.2]? with
  | none => false
  | some M => if q.2.1 = 0 then px_wd (h.getD 0 0) (.methodLink own q.1 M.1.1) && (px_wd (h.getD 1 0) (.instanceMethod M.1.1) && px_wd (h.getD 2 0) (.selects M.1.1.cls M.1.1 M.1.1))
    else if q.2.1 = 1 then px_wd (h.getD 0 0) (.methodLink own q.1 M.1.1) && px_wd (h.getD 1 0) (.static M.1.1)
    else if q.2.1 = 2 then px_wd (h.getD 0 0) (.methodLink own q.1 M.1.1) && (decide (M.1.1.name = "<init>") && (px_wd (h.getD 1 0) (.instanceMethod M.1.1) && M.1.2.2.2.1.isNone))
    else if q.2.1 = 4 then px_wn (h.getD 0 0) (.methodLinkNest own q.1 M.1.1 "HalfBoats") && px_wd (h.getD 1 0) (.static M.1.1)
    else if q.2.1 = 5 then px_wn (h.getD 0 0) (.methodLinkNest own q.1 M.1.1 "HalfBoats") && (decide (M.1.1.name = "<init>") && (px_wd (h.getD 1 0) (.instanceMethod M.1.1) && M.1.2.2.2.1.isNone))
    else false
theorem px_bC_ok {P : List px_M} {own : String} {q : Nat × Nat × Nat} {h : List Nat} (hb : px_bC P own q h = true) : px_okC px_Ts px_Ns P own q := by
  unfold px_bC at hb
  refine ⟨fun e => ?_, fun e => ?_, fun M hM => ⟨fun e => ?_, fun e => ?_, fun e => ?_, fun e => ?_, fun e => ?_⟩, fun e => ?_, fun e => ?_, fun e => ?_⟩
  · rw [if_pos e] at hb
    simp only [Bool.and_eq_true] at hb
    exact ⟨px_wd_in hb.1, px_wd_in hb.2.1, px_wd_in hb.2.2.1, px_wd_in hb.2.2.2⟩
  · rw [if_neg (by omega), if_pos e] at hb
    simp only [Bool.and_eq_true] at hb
    exact ⟨px_wd_in hb.1, px_wd_in hb.2.1, px_wd_in hb.2.2⟩
  · rw [if_neg (by omega), if_neg (by omega), if_neg (by omega), if_neg (by omega), if_neg (by omega), hM] at hb
    simp only [if_pos e, Bool.and_eq_true] at hb
    exact ⟨px_wd_in hb.1, px_wd_in hb.2.1, px_wd_in hb.2.2⟩
  · rw [if_neg (by omega), if_neg (by omega), if_neg (by omega), if_neg (by omega), if_neg (by omega), hM] at hb
    dsimp only at hb
    rw [if_neg (by omega), if_pos e] at hb
    simp only [Bool.and_eq_true] at hb
    exact ⟨px_wd_in hb.1, px_wd_in hb.2⟩
  · rw [if_neg (by omega), if_neg (by omega), if_neg (by omega), if_neg (by omega), if_neg (by omega), hM] at hb
    dsimp only at hb
    rw [if_neg (by omega), if_neg (by omega), if_pos e] at hb
    simp only [Bool.and_eq_true, decide_eq_true_eq, Option.isNone_iff_eq_none] at hb
    exact ⟨px_wd_in hb.1, hb.2.1, px_wd_in hb.2.2.1, hb.2.2.2⟩
  · rw [if_neg (by omega), if_neg (by omega), if_neg (by omega), if_neg (by omega), if_neg (by omega), hM] at hb
    dsimp only at hb
    rw [if_neg (by omega), if_neg (by omega), if_neg (by omega), if_pos e] at hb
    simp only [Bool.and_eq_true] at hb
    exact ⟨px_wn_in hb.1, px_wd_in hb.2⟩
  · rw [if_neg (by omega), if_neg (by omega), if_neg (by omega), if_neg (by omega), if_neg (by omega), hM] at hb
    dsimp only at hb
    rw [if_neg (by omega), if_neg (by omega), if_neg (by omega), if_neg (by omega), if_pos e] at hb
    simp only [Bool.and_eq_true, decide_eq_true_eq, Option.isNone_iff_eq_none] at hb
    exact ⟨px_wn_in hb.1, hb.2.1, px_wd_in hb.2.2.1, hb.2.2.2⟩
  · rw [if_neg (by omega), if_neg (by omega), if_pos e] at hb
    simp only [Bool.and_eq_true] at hb
    exact ⟨px_wd_in hb.1, px_wd_in hb.2.1, px_wd_in hb.2.2.1, px_wd_in hb.2.2.2⟩
  · rw [if_neg (by omega), if_neg (by omega), if_neg (by omega), if_pos e] at hb
    simp only [Bool.and_eq_true] at hb
    exact ⟨px_wd_in hb.1, px_wd_in hb.2.1, px_wd_in hb.2.2.1, px_wd_in hb.2.2.2⟩
  · rw [if_neg (by omega), if_neg (by omega), if_neg (by omega), if_neg (by omega), if_pos e] at hb
    simp only [Bool.and_eq_true] at hb
    exact ⟨px_wd_in hb.1, px_wd_in hb.2.1, px_wd_in hb.2.2.1, px_wd_in hb.2.2.2⟩
def px_bKl (cl : List vw_C) (own : String) (q : Nat × Nat) (k : Nat) : Bool := match cl[q.2]? with
  | some r => px_wd k (.classLink own q.1 r.1)
  | none => false
def px_bS (own : String) (q : Nat × Nat) (k : Nat) : Bool := if q.2 = 0 then px_wd k (.fieldLink own q.1 "java/lang/String" "COMPACT_STRINGS" "Z") else if q.2 = 1 then px_wd k (.fieldLink own q.1 "jdk/internal/util/Preconditions" "SIOOBE_FORMATTER" "Ljava/util/function/BiFunction;") else false
def px_bX (own : String) (q : Nat × Nat) (k : Nat) : Bool := if q.2 = 0 then px_wd k (.fieldLink own q.1 "java/lang/String" "value" "[B") else if q.2 = 1 then px_wd k (.fieldLink own q.1 "java/lang/String" "coder" "B") else false
def px_bL (cl : List vw_C) (SL : List (String × Nat × Nat)) (P : List px_M) (own : String) (L : px_L) (h : List Nat × List (List Nat) × List Nat × List Nat × List Nat × List Nat × List Nat) : Bool :=
  px_all2 (px_bF cl own) L.1 h.1 && (px_all2 (px_bC P own) L.2.1 h.2.1 && (px_all2 (px_bKl cl own) L.2.2.1 h.2.2.1 && (px_all2 (fun q k => px_wd k (.constant own q.1 q.2)) L.2.2.2.1 h.2.2.2.1 && (px_all2 (fun q k => px_wd k (.constantLong own q.1 q.2)) L.2.2.2.2.1 h.2.2.2.2.1 && (L.2.2.2.2.2.1.all (fun q => decide ((own, q.1, q.2) ∈ SL)) && (px_all2 (px_bS own) L.2.2.2.2.2.2.1 h.2.2.2.2.2.1 && px_all2 (px_bX own) L.2.2.2.2.2.2.2 h.2.2.2.2.2.2))))))
theorem px_bL_ok {cl : List vw_C} {SL : List (String × Nat × Nat)} {P : List px_M} {own : String} {L : px_L} {h : List Nat × List (List Nat) × List Nat × List Nat × List Nat × List Nat × List Nat} (hb : px_bL cl SL P own L h = true) : px_okL px_Ts px_Ns cl SL P own L := by
  unfold px_bL at hb
  simp only [Bool.and_eq_true] at hb
  obtain ⟨h1, h2, h3, h4, h5, h6, h7, h8⟩ := hb
  refine ⟨fun q hq => ?_, fun q hq => ?_, fun q hq => ?_, fun q hq => ?_, fun q hq => ?_, fun q hq => ?_, fun q hq => ?_, fun q hq => ?_⟩
  · obtain ⟨k, hk⟩ := px_all2_mem h1 q hq
    unfold px_bF at hk
    split at hk
    · rename_i r hr
      simp only [Bool.and_eq_true, decide_eq_true_eq] at hk
      exact ⟨r, hr, hk.1, px_wd_in hk.2⟩
    · cases hk
  · obtain ⟨k, hk⟩ := px_all2_mem h2 q hq
    exact px_bC_ok hk
  · obtain ⟨k, hk⟩ := px_all2_mem h3 q hq
    unfold px_bKl at hk
    split at hk
    · rename_i r hr
      exact ⟨r, hr, px_wd_in hk⟩
    · cases hk
  · obtain ⟨k, hk⟩ := px_all2_mem h4 q hq
    exact px_wd_in hk
  · obtain ⟨k, hk⟩ := px_all2_mem h5 q hq
    exact px_wd_in hk
  · exact of_decide_eq_true (List.all_eq_true.mp h6 q hq)
  · obtain ⟨k, hk⟩ := px_all2_mem h7 q hq
    unfold px_bS at hk
    refine ⟨fun e => ?_, fun e => ?_⟩
    · rw [if_pos e] at hk; exact px_wd_in hk
    · rw [if_neg (by omega), if_pos e] at hk; exact px_wd_in hk
  · obtain ⟨k, hk⟩ := px_all2_mem h8 q hq
    unfold px_bX at hk
    refine ⟨fun e => ?_, fun e => ?_⟩
    · rw [if_pos e] at hk; exact px_wd_in hk
    · rw [if_neg (by omega), if_pos e] at hk; exact px_wd_in hk
theorem px_code_in {k : Nat} {y : MethodName} {cc : ByteArray} {mx : Nat} {rt : Option FieldType} (h : lw_tbl[k]? = some (Cond.code y cc mx rt)) : Cond.code y cc mx rt ∈ px_Ts := List.mem_filter.mpr ⟨List.mem_of_getElem? h, rfl⟩
def px_bM (h : px_Hd) (ki : Nat) : Bool := plainName h.1.cls && (px_wd ki (.initialized h.1.cls) && (decide (h.1.cls ≠ "java/lang/invoke/MethodHandle") && (decide (h.1.cls ≠ "java/lang/invoke/VarHandle") && (decide ((parseMethodDescriptor h.1.desc).map (fun d => d.parameters.length) = some h.2.2.2.2) && decide (h.2.2.1 ≤ 64)))))
theorem px_bM_ok {h : px_Hd} {k ki : Nat} (hw : lw_tbl[k]? = some (Cond.code h.1 h.2.1 h.2.2.1 h.2.2.2.1)) (hb : px_bM h ki = true) : Cond.code h.1 h.2.1 h.2.2.1 h.2.2.2.1 ∈ px_Ts ∧ plainName h.1.cls = true ∧ Cond.initialized h.1.cls ∈ px_Ts ∧ (h.1.cls ≠ "java/lang/invoke/MethodHandle" ∧ h.1.cls ≠ "java/lang/invoke/VarHandle" ∧ (parseMethodDescriptor h.1.desc).map (fun d => d.parameters.length) = some h.2.2.2.2) ∧ h.2.2.1 ≤ 64 := by
  unfold px_bM at hb
  simp only [Bool.and_eq_true, decide_eq_true_eq] at hb
  exact ⟨px_code_in hw, hb.1, px_wd_in hb.2.1, ⟨hb.2.2.1, hb.2.2.2.1, hb.2.2.2.2.1⟩, hb.2.2.2.2.2⟩
end
