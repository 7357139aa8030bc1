section
-- ===== PART A: goes FIRST, ahead of the names: the tables' words, and 'selects' of the private methods out of them =====
/-- a private method of a class that the tables say can be made, by its rows of tables_1 -/
def lw_okq (q : MethodName × Nat) : Prop := (q.1.cls ≠ "java/lang/invoke/MethodHandle" ∧ q.1.cls ≠ "java/lang/invoke/VarHandle") ∧ Cond.instantiable q.1.cls q.2 ∈ tables_1 ∧ Cond.privateMethod q.1 ∈ tables_1 ∧ Cond.instanceMethod q.1 ∈ tables_1
theorem lw_p0 : lw_okq (⟨"HalfBoats$Hull", "findGains", "()V"⟩, 12) := ⟨⟨by decide +kernel, by decide +kernel⟩, List.mem_of_getElem? (i := 30) (by decide +kernel), List.mem_of_getElem? (i := 570) (by decide +kernel), List.mem_of_getElem? (i := 571) (by decide +kernel)⟩
theorem lw_p1 : lw_okq (⟨"HalfBoats$Hull", "passWall", "(I)V"⟩, 12) := ⟨⟨by decide +kernel, by decide +kernel⟩, List.mem_of_getElem? (i := 30) (by decide +kernel), List.mem_of_getElem? (i := 588) (by decide +kernel), List.mem_of_getElem? (i := 589) (by decide +kernel)⟩
theorem lw_p2 : lw_okq (⟨"HalfBoats$Hull", "takeGains", "()Z"⟩, 12) := ⟨⟨by decide +kernel, by decide +kernel⟩, List.mem_of_getElem? (i := 30) (by decide +kernel), List.mem_of_getElem? (i := 592) (by decide +kernel), List.mem_of_getElem? (i := 593) (by decide +kernel)⟩
theorem lw_p3 : lw_okq (⟨"HalfBoats$Hull", "weigh", "()V"⟩, 12) := ⟨⟨by decide +kernel, by decide +kernel⟩, List.mem_of_getElem? (i := 30) (by decide +kernel), List.mem_of_getElem? (i := 596) (by decide +kernel), List.mem_of_getElem? (i := 597) (by decide +kernel)⟩
theorem lw_p4 : lw_okq (⟨"HalfBoats$Soundings", "holds", "(LHalfBoats$Hull;II)Z"⟩, 8) := ⟨⟨by decide +kernel, by decide +kernel⟩, List.mem_of_getElem? (i := 82) (by decide +kernel), List.mem_of_getElem? (i := 672) (by decide +kernel), List.mem_of_getElem? (i := 673) (by decide +kernel)⟩
theorem lw_p5 : lw_okq (⟨"HalfBoats$Crowd", "walk", "(III)Z"⟩, 16) := ⟨⟨by decide +kernel, by decide +kernel⟩, List.mem_of_getElem? (i := 116) (by decide +kernel), List.mem_of_getElem? (i := 713) (by decide +kernel), List.mem_of_getElem? (i := 714) (by decide +kernel)⟩
theorem lw_p6 : lw_okq (⟨"HalfBoats$Seating", "findBoats", "()V"⟩, 17) := ⟨⟨by decide +kernel, by decide +kernel⟩, List.mem_of_getElem? (i := 345) (by decide +kernel), List.mem_of_getElem? (i := 738) (by decide +kernel), List.mem_of_getElem? (i := 739) (by decide +kernel)⟩
theorem lw_p7 : lw_okq (⟨"HalfBoats$Seating", "mostOfPair", "(III)I"⟩, 17) := ⟨⟨by decide +kernel, by decide +kernel⟩, List.mem_of_getElem? (i := 345) (by decide +kernel), List.mem_of_getElem? (i := 760) (by decide +kernel), List.mem_of_getElem? (i := 761) (by decide +kernel)⟩
theorem lw_p8 : lw_okq (⟨"HalfBoats$Seating", "takePair", "(III)V"⟩, 17) := ⟨⟨by decide +kernel, by decide +kernel⟩, List.mem_of_getElem? (i := 345) (by decide +kernel), List.mem_of_getElem? (i := 764) (by decide +kernel), List.mem_of_getElem? (i := 765) (by decide +kernel)⟩
theorem lw_p9 : lw_okq (⟨"HalfBoats$Seating", "isRight", "(I)Z"⟩, 17) := ⟨⟨by decide +kernel, by decide +kernel⟩, List.mem_of_getElem? (i := 345) (by decide +kernel), List.mem_of_getElem? (i := 784) (by decide +kernel), List.mem_of_getElem? (i := 785) (by decide +kernel)⟩
theorem lw_p10 : lw_okq (⟨"HalfBoats$Seating", "pickNext", "(II)V"⟩, 17) := ⟨⟨by decide +kernel, by decide +kernel⟩, List.mem_of_getElem? (i := 345) (by decide +kernel), List.mem_of_getElem? (i := 799) (by decide +kernel), List.mem_of_getElem? (i := 800) (by decide +kernel)⟩
theorem lw_p11 : lw_okq (⟨"HalfBoats$Sea", "isHeard", "(II)Z"⟩, 13) := ⟨⟨by decide +kernel, by decide +kernel⟩, List.mem_of_getElem? (i := 186) (by decide +kernel), List.mem_of_getElem? (i := 838) (by decide +kernel), List.mem_of_getElem? (i := 839) (by decide +kernel)⟩
theorem lw_p12 : lw_okq (⟨"HalfBoats$Sea", "farAt", "(II)I"⟩, 13) := ⟨⟨by decide +kernel, by decide +kernel⟩, List.mem_of_getElem? (i := 186) (by decide +kernel), List.mem_of_getElem? (i := 871) (by decide +kernel), List.mem_of_getElem? (i := 872) (by decide +kernel)⟩
theorem lw_p13 : lw_okq (⟨"HalfBoats$Reader", "scan", "()V"⟩, 8) := ⟨⟨by decide +kernel, by decide +kernel⟩, List.mem_of_getElem? (i := 408) (by decide +kernel), List.mem_of_getElem? (i := 936) (by decide +kernel), List.mem_of_getElem? (i := 937) (by decide +kernel)⟩
theorem lw_p14 : lw_okq (⟨"HalfBoats$Reader", "wordAt", "(II)I"⟩, 8) := ⟨⟨by decide +kernel, by decide +kernel⟩, List.mem_of_getElem? (i := 408) (by decide +kernel), List.mem_of_getElem? (i := 943) (by decide +kernel), List.mem_of_getElem? (i := 944) (by decide +kernel)⟩
theorem lw_p15 : lw_okq (⟨"HalfBoats$Reader", "is", "(Ljava/lang/String;I)Z"⟩, 8) := ⟨⟨by decide +kernel, by decide +kernel⟩, List.mem_of_getElem? (i := 408) (by decide +kernel), List.mem_of_getElem? (i := 948) (by decide +kernel), List.mem_of_getElem? (i := 949) (by decide +kernel)⟩
def lw_privs_1 : List (MethodName × Nat) := [(⟨"HalfBoats$Hull", "findGains", "()V"⟩, 12), (⟨"HalfBoats$Hull", "passWall", "(I)V"⟩, 12), (⟨"HalfBoats$Hull", "takeGains", "()Z"⟩, 12), (⟨"HalfBoats$Hull", "weigh", "()V"⟩, 12), (⟨"HalfBoats$Soundings", "holds", "(LHalfBoats$Hull;II)Z"⟩, 8), (⟨"HalfBoats$Crowd", "walk", "(III)Z"⟩, 16), (⟨"HalfBoats$Seating", "findBoats", "()V"⟩, 17), (⟨"HalfBoats$Seating", "mostOfPair", "(III)I"⟩, 17), (⟨"HalfBoats$Seating", "takePair", "(III)V"⟩, 17), (⟨"HalfBoats$Seating", "isRight", "(I)Z"⟩, 17), (⟨"HalfBoats$Seating", "pickNext", "(II)V"⟩, 17), (⟨"HalfBoats$Sea", "isHeard", "(II)Z"⟩, 13), (⟨"HalfBoats$Sea", "farAt", "(II)I"⟩, 13), (⟨"HalfBoats$Reader", "scan", "()V"⟩, 8), (⟨"HalfBoats$Reader", "wordAt", "(II)I"⟩, 8), (⟨"HalfBoats$Reader", "is", "(Ljava/lang/String;I)Z"⟩, 8)]
theorem lw_r1 : ∀ q ∈ lw_privs_1, lw_okq q := List.forall_mem_cons.mpr ⟨lw_p0, List.forall_mem_cons.mpr ⟨lw_p1, List.forall_mem_cons.mpr ⟨lw_p2, List.forall_mem_cons.mpr ⟨lw_p3, List.forall_mem_cons.mpr ⟨lw_p4, List.forall_mem_cons.mpr ⟨lw_p5, List.forall_mem_cons.mpr ⟨lw_p6, List.forall_mem_cons.mpr ⟨lw_p7, List.forall_mem_cons.mpr ⟨lw_p8, List.forall_mem_cons.mpr ⟨lw_p9, List.forall_mem_cons.mpr ⟨lw_p10, List.forall_mem_cons.mpr ⟨lw_p11, List.forall_mem_cons.mpr ⟨lw_p12, List.forall_mem_cons.mpr ⟨lw_p13, List.forall_mem_cons.mpr ⟨lw_p14, List.forall_mem_cons.mpr ⟨lw_p15, fun _ h => absurd h List.not_mem_nil⟩⟩⟩⟩⟩⟩⟩⟩⟩⟩⟩⟩⟩⟩⟩⟩
theorem lw_p16 : lw_okq (⟨"HalfBoats$Reader", "addToken", "(III)V"⟩, 8) := ⟨⟨by decide +kernel, by decide +kernel⟩, List.mem_of_getElem? (i := 408) (by decide +kernel), List.mem_of_getElem? (i := 1015) (by decide +kernel), List.mem_of_getElem? (i := 1016) (by decide +kernel)⟩
theorem lw_p17 : lw_okq (⟨"HalfBoats$Reader", "numberAt", "(II)I"⟩, 8) := ⟨⟨by decide +kernel, by decide +kernel⟩, List.mem_of_getElem? (i := 408) (by decide +kernel), List.mem_of_getElem? (i := 1022) (by decide +kernel), List.mem_of_getElem? (i := 1023) (by decide +kernel)⟩
theorem lw_p18 : lw_okq (⟨"HalfBoats$Reader", "readSeats", "(LHalfBoats$Rules;)V"⟩, 8) := ⟨⟨by decide +kernel, by decide +kernel⟩, List.mem_of_getElem? (i := 408) (by decide +kernel), List.mem_of_getElem? (i := 1030) (by decide +kernel), List.mem_of_getElem? (i := 1031) (by decide +kernel)⟩
theorem lw_p19 : lw_okq (⟨"HalfBoats$Reader", "takeNumber", "(I)I"⟩, 8) := ⟨⟨by decide +kernel, by decide +kernel⟩, List.mem_of_getElem? (i := 408) (by decide +kernel), List.mem_of_getElem? (i := 1034) (by decide +kernel), List.mem_of_getElem? (i := 1035) (by decide +kernel)⟩
theorem lw_p20 : lw_okq (⟨"HalfBoats$Reader", "takeToken", "(I)Z"⟩, 8) := ⟨⟨by decide +kernel, by decide +kernel⟩, List.mem_of_getElem? (i := 408) (by decide +kernel), List.mem_of_getElem? (i := 1038) (by decide +kernel), List.mem_of_getElem? (i := 1039) (by decide +kernel)⟩
theorem lw_p21 : lw_okq (⟨"HalfBoats$Reader", "readFirst", "(LHalfBoats$Rules;)V"⟩, 8) := ⟨⟨by decide +kernel, by decide +kernel⟩, List.mem_of_getElem? (i := 408) (by decide +kernel), List.mem_of_getElem? (i := 1046) (by decide +kernel), List.mem_of_getElem? (i := 1047) (by decide +kernel)⟩
theorem lw_p22 : lw_okq (⟨"HalfBoats$Reader", "failHere", "()Z"⟩, 8) := ⟨⟨by decide +kernel, by decide +kernel⟩, List.mem_of_getElem? (i := 408) (by decide +kernel), List.mem_of_getElem? (i := 1051) (by decide +kernel), List.mem_of_getElem? (i := 1052) (by decide +kernel)⟩
theorem lw_p23 : lw_okq (⟨"HalfBoats$Reader", "readCome", "(LHalfBoats$Rules;)V"⟩, 8) := ⟨⟨by decide +kernel, by decide +kernel⟩, List.mem_of_getElem? (i := 408) (by decide +kernel), List.mem_of_getElem? (i := 1055) (by decide +kernel), List.mem_of_getElem? (i := 1056) (by decide +kernel)⟩
theorem lw_p24 : lw_okq (⟨"HalfBoats$Reader", "readCondition", "(LHalfBoats$Rules;I)Z"⟩, 8) := ⟨⟨by decide +kernel, by decide +kernel⟩, List.mem_of_getElem? (i := 408) (by decide +kernel), List.mem_of_getElem? (i := 1063) (by decide +kernel), List.mem_of_getElem? (i := 1064) (by decide +kernel)⟩
theorem lw_p25 : lw_okq (⟨"HalfBoats$Reader", "readAll", "(LHalfBoats$Rules;I)Z"⟩, 8) := ⟨⟨by decide +kernel, by decide +kernel⟩, List.mem_of_getElem? (i := 408) (by decide +kernel), List.mem_of_getElem? (i := 1067) (by decide +kernel), List.mem_of_getElem? (i := 1068) (by decide +kernel)⟩
theorem lw_p26 : lw_okq (⟨"HalfBoats$Reader", "readOne", "(LHalfBoats$Rules;I)Z"⟩, 8) := ⟨⟨by decide +kernel, by decide +kernel⟩, List.mem_of_getElem? (i := 408) (by decide +kernel), List.mem_of_getElem? (i := 1071) (by decide +kernel), List.mem_of_getElem? (i := 1072) (by decide +kernel)⟩
theorem lw_p27 : lw_okq (⟨"HalfBoats$Reader", "readInside", "(LHalfBoats$Rules;I)Z"⟩, 8) := ⟨⟨by decide +kernel, by decide +kernel⟩, List.mem_of_getElem? (i := 408) (by decide +kernel), List.mem_of_getElem? (i := 1075) (by decide +kernel), List.mem_of_getElem? (i := 1076) (by decide +kernel)⟩
theorem lw_p28 : lw_okq (⟨"HalfBoats$Reader", "readTest", "(LHalfBoats$Rules;)Z"⟩, 8) := ⟨⟨by decide +kernel, by decide +kernel⟩, List.mem_of_getElem? (i := 408) (by decide +kernel), List.mem_of_getElem? (i := 1079) (by decide +kernel), List.mem_of_getElem? (i := 1080) (by decide +kernel)⟩
theorem lw_p29 : lw_okq (⟨"HalfBoats$Rules", "latestLine", "(II)I"⟩, 8) := ⟨⟨by decide +kernel, by decide +kernel⟩, List.mem_of_getElem? (i := 266) (by decide +kernel), List.mem_of_getElem? (i := 1108) (by decide +kernel), List.mem_of_getElem? (i := 1109) (by decide +kernel)⟩
theorem lw_p30 : lw_okq (⟨"HalfBoats$Rules", "versionAt", "(I)I"⟩, 8) := ⟨⟨by decide +kernel, by decide +kernel⟩, List.mem_of_getElem? (i := 266) (by decide +kernel), List.mem_of_getElem? (i := 1112) (by decide +kernel), List.mem_of_getElem? (i := 1113) (by decide +kernel)⟩
theorem lw_p31 : lw_okq (⟨"HalfBoats$Rules", "holds", "(IILHalfBoats$Sea;II)Z"⟩, 8) := ⟨⟨by decide +kernel, by decide +kernel⟩, List.mem_of_getElem? (i := 266) (by decide +kernel), List.mem_of_getElem? (i := 1137) (by decide +kernel), List.mem_of_getElem? (i := 1138) (by decide +kernel)⟩
def lw_privs_2 : List (MethodName × Nat) := [(⟨"HalfBoats$Reader", "addToken", "(III)V"⟩, 8), (⟨"HalfBoats$Reader", "numberAt", "(II)I"⟩, 8), (⟨"HalfBoats$Reader", "readSeats", "(LHalfBoats$Rules;)V"⟩, 8), (⟨"HalfBoats$Reader", "takeNumber", "(I)I"⟩, 8), (⟨"HalfBoats$Reader", "takeToken", "(I)Z"⟩, 8), (⟨"HalfBoats$Reader", "readFirst", "(LHalfBoats$Rules;)V"⟩, 8), (⟨"HalfBoats$Reader", "failHere", "()Z"⟩, 8), (⟨"HalfBoats$Reader", "readCome", "(LHalfBoats$Rules;)V"⟩, 8), (⟨"HalfBoats$Reader", "readCondition", "(LHalfBoats$Rules;I)Z"⟩, 8), (⟨"HalfBoats$Reader", "readAll", "(LHalfBoats$Rules;I)Z"⟩, 8), (⟨"HalfBoats$Reader", "readOne", "(LHalfBoats$Rules;I)Z"⟩, 8), (⟨"HalfBoats$Reader", "readInside", "(LHalfBoats$Rules;I)Z"⟩, 8), (⟨"HalfBoats$Reader", "readTest", "(LHalfBoats$Rules;)Z"⟩, 8), (⟨"HalfBoats$Rules", "latestLine", "(II)I"⟩, 8), (⟨"HalfBoats$Rules", "versionAt", "(I)I"⟩, 8), (⟨"HalfBoats$Rules", "holds", "(IILHalfBoats$Sea;II)Z"⟩, 8)]
theorem lw_r2 : ∀ q ∈ lw_privs_2, lw_okq q := List.forall_mem_cons.mpr ⟨lw_p16, List.forall_mem_cons.mpr ⟨lw_p17, List.forall_mem_cons.mpr ⟨lw_p18, List.forall_mem_cons.mpr ⟨lw_p19, List.forall_mem_cons.mpr ⟨lw_p20, List.forall_mem_cons.mpr ⟨lw_p21, List.forall_mem_cons.mpr ⟨lw_p22, List.forall_mem_cons.mpr ⟨lw_p23, List.forall_mem_cons.mpr ⟨lw_p24, List.forall_mem_cons.mpr ⟨lw_p25, List.forall_mem_cons.mpr ⟨lw_p26, List.forall_mem_cons.mpr ⟨lw_p27, List.forall_mem_cons.mpr ⟨lw_p28, List.forall_mem_cons.mpr ⟨lw_p29, List.forall_mem_cons.mpr ⟨lw_p30, List.forall_mem_cons.mpr ⟨lw_p31, fun _ h => absurd h List.not_mem_nil⟩⟩⟩⟩⟩⟩⟩⟩⟩⟩⟩⟩⟩⟩⟩⟩
theorem lw_p32 : lw_okq (⟨"HalfBoats$Passage", "minutesOf", "(II)I"⟩, 11) := ⟨⟨by decide +kernel, by decide +kernel⟩, List.mem_of_getElem? (i := 301) (by decide +kernel), List.mem_of_getElem? (i := 1161) (by decide +kernel), List.mem_of_getElem? (i := 1162) (by decide +kernel)⟩
theorem lw_p33 : lw_okq (⟨"HalfBoats$Passage", "riskOf", "(II)I"⟩, 11) := ⟨⟨by decide +kernel, by decide +kernel⟩, List.mem_of_getElem? (i := 301) (by decide +kernel), List.mem_of_getElem? (i := 1165) (by decide +kernel), List.mem_of_getElem? (i := 1166) (by decide +kernel)⟩
theorem lw_p34 : lw_okq (⟨"HalfBoats$Passage", "sail", "(III)V"⟩, 11) := ⟨⟨by decide +kernel, by decide +kernel⟩, List.mem_of_getElem? (i := 301) (by decide +kernel), List.mem_of_getElem? (i := 1169) (by decide +kernel), List.mem_of_getElem? (i := 1170) (by decide +kernel)⟩
theorem lw_p35 : lw_okq (⟨"HalfBoats", "howManyOf", "(I)I"⟩, 20) := ⟨⟨by decide +kernel, by decide +kernel⟩, List.mem_of_getElem? (i := 22) (by decide +kernel), List.mem_of_getElem? (i := 1221) (by decide +kernel), List.mem_of_getElem? (i := 1222) (by decide +kernel)⟩
theorem lw_p36 : lw_okq (⟨"HalfBoats", "kindOn", "(I)I"⟩, 20) := ⟨⟨by decide +kernel, by decide +kernel⟩, List.mem_of_getElem? (i := 22) (by decide +kernel), List.mem_of_getElem? (i := 1233) (by decide +kernel), List.mem_of_getElem? (i := 1234) (by decide +kernel)⟩
theorem lw_p37 : lw_okq (⟨"HalfBoats", "amountOf", "(II)I"⟩, 20) := ⟨⟨by decide +kernel, by decide +kernel⟩, List.mem_of_getElem? (i := 22) (by decide +kernel), List.mem_of_getElem? (i := 1248) (by decide +kernel), List.mem_of_getElem? (i := 1249) (by decide +kernel)⟩
theorem lw_p38 : lw_okq (⟨"HalfBoats", "answerOf", "(II)I"⟩, 20) := ⟨⟨by decide +kernel, by decide +kernel⟩, List.mem_of_getElem? (i := 22) (by decide +kernel), List.mem_of_getElem? (i := 1256) (by decide +kernel), List.mem_of_getElem? (i := 1257) (by decide +kernel)⟩
theorem lw_p39 : lw_okq (⟨"HalfBoats$Acts", "begin", "(I)V"⟩, 6) := ⟨⟨by decide +kernel, by decide +kernel⟩, List.mem_of_getElem? (i := 470) (by decide +kernel), List.mem_of_getElem? (i := 1264) (by decide +kernel), List.mem_of_getElem? (i := 1265) (by decide +kernel)⟩
theorem lw_p40 : lw_okq (⟨"HalfBoats$Acts", "thingCarries", "(I)I"⟩, 6) := ⟨⟨by decide +kernel, by decide +kernel⟩, List.mem_of_getElem? (i := 470) (by decide +kernel), List.mem_of_getElem? (i := 1272) (by decide +kernel), List.mem_of_getElem? (i := 1273) (by decide +kernel)⟩
theorem lw_p41 : lw_okq (⟨"HalfBoats$Acts", "thingFits", "(I)I"⟩, 6) := ⟨⟨by decide +kernel, by decide +kernel⟩, List.mem_of_getElem? (i := 470) (by decide +kernel), List.mem_of_getElem? (i := 1281) (by decide +kernel), List.mem_of_getElem? (i := 1282) (by decide +kernel)⟩
theorem lw_p42 : lw_okq (⟨"HalfBoats$Acts", "thingTells", "(I)I"⟩, 6) := ⟨⟨by decide +kernel, by decide +kernel⟩, List.mem_of_getElem? (i := 470) (by decide +kernel), List.mem_of_getElem? (i := 1289) (by decide +kernel), List.mem_of_getElem? (i := 1290) (by decide +kernel)⟩
theorem lw_p43 : lw_okq (⟨"HalfBoatsModel", "layOut", "()V"⟩, 52) := ⟨⟨by decide +kernel, by decide +kernel⟩, List.mem_of_getElem? (i := 1343) (by decide +kernel), List.mem_of_getElem? (i := 1513) (by decide +kernel), List.mem_of_getElem? (i := 1514) (by decide +kernel)⟩
theorem lw_p44 : lw_okq (⟨"HalfBoatsModel", "passes", "()Z"⟩, 52) := ⟨⟨by decide +kernel, by decide +kernel⟩, List.mem_of_getElem? (i := 1343) (by decide +kernel), List.mem_of_getElem? (i := 1517) (by decide +kernel), List.mem_of_getElem? (i := 1518) (by decide +kernel)⟩
theorem lw_p45 : lw_okq (⟨"HalfBoatsModel", "findTrim", "()V"⟩, 52) := ⟨⟨by decide +kernel, by decide +kernel⟩, List.mem_of_getElem? (i := 1343) (by decide +kernel), List.mem_of_getElem? (i := 1521) (by decide +kernel), List.mem_of_getElem? (i := 1522) (by decide +kernel)⟩
theorem lw_p46 : lw_okq (⟨"HalfBoatsModel", "outside", "(I)I"⟩, 52) := ⟨⟨by decide +kernel, by decide +kernel⟩, List.mem_of_getElem? (i := 1343) (by decide +kernel), List.mem_of_getElem? (i := 1525) (by decide +kernel), List.mem_of_getElem? (i := 1526) (by decide +kernel)⟩
theorem lw_p47 : lw_okq (⟨"HalfBoatsModel", "level", "(I)I"⟩, 52) := ⟨⟨by decide +kernel, by decide +kernel⟩, List.mem_of_getElem? (i := 1343) (by decide +kernel), List.mem_of_getElem? (i := 1532) (by decide +kernel), List.mem_of_getElem? (i := 1533) (by decide +kernel)⟩
def lw_privs_3 : List (MethodName × Nat) := [(⟨"HalfBoats$Passage", "minutesOf", "(II)I"⟩, 11), (⟨"HalfBoats$Passage", "riskOf", "(II)I"⟩, 11), (⟨"HalfBoats$Passage", "sail", "(III)V"⟩, 11), (⟨"HalfBoats", "howManyOf", "(I)I"⟩, 20), (⟨"HalfBoats", "kindOn", "(I)I"⟩, 20), (⟨"HalfBoats", "amountOf", "(II)I"⟩, 20), (⟨"HalfBoats", "answerOf", "(II)I"⟩, 20), (⟨"HalfBoats$Acts", "begin", "(I)V"⟩, 6), (⟨"HalfBoats$Acts", "thingCarries", "(I)I"⟩, 6), (⟨"HalfBoats$Acts", "thingFits", "(I)I"⟩, 6), (⟨"HalfBoats$Acts", "thingTells", "(I)I"⟩, 6), (⟨"HalfBoatsModel", "layOut", "()V"⟩, 52), (⟨"HalfBoatsModel", "passes", "()Z"⟩, 52), (⟨"HalfBoatsModel", "findTrim", "()V"⟩, 52), (⟨"HalfBoatsModel", "outside", "(I)I"⟩, 52), (⟨"HalfBoatsModel", "level", "(I)I"⟩, 52)]
theorem lw_r3 : ∀ q ∈ lw_privs_3, lw_okq q := List.forall_mem_cons.mpr ⟨lw_p32, List.forall_mem_cons.mpr ⟨lw_p33, List.forall_mem_cons.mpr ⟨lw_p34, List.forall_mem_cons.mpr ⟨lw_p35, List.forall_mem_cons.mpr ⟨lw_p36, List.forall_mem_cons.mpr ⟨lw_p37, List.forall_mem_cons.mpr ⟨lw_p38, List.forall_mem_cons.mpr ⟨lw_p39, List.forall_mem_cons.mpr ⟨lw_p40, List.forall_mem_cons.mpr ⟨lw_p41, List.forall_mem_cons.mpr ⟨lw_p42, List.forall_mem_cons.mpr ⟨lw_p43, List.forall_mem_cons.mpr ⟨lw_p44, List.forall_mem_cons.mpr ⟨lw_p45, List.forall_mem_cons.mpr ⟨lw_p46, List.forall_mem_cons.mpr ⟨lw_p47, fun _ h => absurd h List.not_mem_nil⟩⟩⟩⟩⟩⟩⟩⟩⟩⟩⟩⟩⟩⟩⟩⟩
theorem lw_p48 : lw_okq (⟨"HalfBoatsModel", "findExplanation", "()Z"⟩, 52) := ⟨⟨by decide +kernel, by decide +kernel⟩, List.mem_of_getElem? (i := 1343) (by decide +kernel), List.mem_of_getElem? (i := 1574) (by decide +kernel), List.mem_of_getElem? (i := 1575) (by decide +kernel)⟩
theorem lw_p49 : lw_okq (⟨"HalfBoatsModel", "explains", "(II)Z"⟩, 52) := ⟨⟨by decide +kernel, by decide +kernel⟩, List.mem_of_getElem? (i := 1343) (by decide +kernel), List.mem_of_getElem? (i := 1581) (by decide +kernel), List.mem_of_getElem? (i := 1582) (by decide +kernel)⟩
theorem lw_p50 : lw_okq (⟨"HalfBoatsModel", "holdsAt", "(I)Z"⟩, 52) := ⟨⟨by decide +kernel, by decide +kernel⟩, List.mem_of_getElem? (i := 1343) (by decide +kernel), List.mem_of_getElem? (i := 1585) (by decide +kernel), List.mem_of_getElem? (i := 1586) (by decide +kernel)⟩
theorem lw_p51 : lw_okq (⟨"HalfBoatsModel", "isGroup", "(I)Z"⟩, 52) := ⟨⟨by decide +kernel, by decide +kernel⟩, List.mem_of_getElem? (i := 1343) (by decide +kernel), List.mem_of_getElem? (i := 1607) (by decide +kernel), List.mem_of_getElem? (i := 1608) (by decide +kernel)⟩
theorem lw_p52 : lw_okq (⟨"HalfBoatsModel", "findReach", "(I)V"⟩, 52) := ⟨⟨by decide +kernel, by decide +kernel⟩, List.mem_of_getElem? (i := 1343) (by decide +kernel), List.mem_of_getElem? (i := 1611) (by decide +kernel), List.mem_of_getElem? (i := 1612) (by decide +kernel)⟩
theorem lw_p53 : lw_okq (⟨"HalfBoatsModel", "comes", "(IIII)V"⟩, 52) := ⟨⟨by decide +kernel, by decide +kernel⟩, List.mem_of_getElem? (i := 1343) (by decide +kernel), List.mem_of_getElem? (i := 1616) (by decide +kernel), List.mem_of_getElem? (i := 1617) (by decide +kernel)⟩
theorem lw_p54 : lw_okq (⟨"HalfBoatsModel", "layBoats", "()V"⟩, 52) := ⟨⟨by decide +kernel, by decide +kernel⟩, List.mem_of_getElem? (i := 1343) (by decide +kernel), List.mem_of_getElem? (i := 1628) (by decide +kernel), List.mem_of_getElem? (i := 1629) (by decide +kernel)⟩
theorem lw_p55 : lw_okq (⟨"HalfBoatsModel", "findCan", "()V"⟩, 52) := ⟨⟨by decide +kernel, by decide +kernel⟩, List.mem_of_getElem? (i := 1343) (by decide +kernel), List.mem_of_getElem? (i := 1632) (by decide +kernel), List.mem_of_getElem? (i := 1633) (by decide +kernel)⟩
theorem lw_p56 : lw_okq (⟨"HalfBoatsModel", "mostOf", "()I"⟩, 52) := ⟨⟨by decide +kernel, by decide +kernel⟩, List.mem_of_getElem? (i := 1343) (by decide +kernel), List.mem_of_getElem? (i := 1640) (by decide +kernel), List.mem_of_getElem? (i := 1641) (by decide +kernel)⟩
theorem lw_p57 : lw_okq (⟨"HalfBoatsModel", "mostIn", "(III)I"⟩, 52) := ⟨⟨by decide +kernel, by decide +kernel⟩, List.mem_of_getElem? (i := 1343) (by decide +kernel), List.mem_of_getElem? (i := 1648) (by decide +kernel), List.mem_of_getElem? (i := 1649) (by decide +kernel)⟩
theorem lw_p58 : lw_okq (⟨"HalfBoatsModel", "isRow", "(II)Z"⟩, 52) := ⟨⟨by decide +kernel, by decide +kernel⟩, List.mem_of_getElem? (i := 1343) (by decide +kernel), List.mem_of_getElem? (i := 1656) (by decide +kernel), List.mem_of_getElem? (i := 1657) (by decide +kernel)⟩
theorem lw_p59 : lw_okq (⟨"HalfBoatsModel", "isBoat", "(I)Z"⟩, 52) := ⟨⟨by decide +kernel, by decide +kernel⟩, List.mem_of_getElem? (i := 1343) (by decide +kernel), List.mem_of_getElem? (i := 1668) (by decide +kernel), List.mem_of_getElem? (i := 1669) (by decide +kernel)⟩
theorem lw_p60 : lw_okq (⟨"HalfBoatsModel", "findOrder", "(II)V"⟩, 52) := ⟨⟨by decide +kernel, by decide +kernel⟩, List.mem_of_getElem? (i := 1343) (by decide +kernel), List.mem_of_getElem? (i := 1676) (by decide +kernel), List.mem_of_getElem? (i := 1677) (by decide +kernel)⟩
theorem lw_p61 : lw_okq (⟨"HalfBoatsModel", "doesHear", "(II)Z"⟩, 52) := ⟨⟨by decide +kernel, by decide +kernel⟩, List.mem_of_getElem? (i := 1343) (by decide +kernel), List.mem_of_getElem? (i := 1697) (by decide +kernel), List.mem_of_getElem? (i := 1698) (by decide +kernel)⟩
theorem lw_p62 : lw_okq (⟨"HalfBoatsModel", "farOf", "(I)I"⟩, 52) := ⟨⟨by decide +kernel, by decide +kernel⟩, List.mem_of_getElem? (i := 1343) (by decide +kernel), List.mem_of_getElem? (i := 1701) (by decide +kernel), List.mem_of_getElem? (i := 1702) (by decide +kernel)⟩
theorem lw_p63 : lw_okq (⟨"HalfBoatsModel", "isShip", "(I)Z"⟩, 52) := ⟨⟨by decide +kernel, by decide +kernel⟩, List.mem_of_getElem? (i := 1343) (by decide +kernel), List.mem_of_getElem? (i := 1709) (by decide +kernel), List.mem_of_getElem? (i := 1710) (by decide +kernel)⟩
def lw_privs_4 : List (MethodName × Nat) := [(⟨"HalfBoatsModel", "findExplanation", "()Z"⟩, 52), (⟨"HalfBoatsModel", "explains", "(II)Z"⟩, 52), (⟨"HalfBoatsModel", "holdsAt", "(I)Z"⟩, 52), (⟨"HalfBoatsModel", "isGroup", "(I)Z"⟩, 52), (⟨"HalfBoatsModel", "findReach", "(I)V"⟩, 52), (⟨"HalfBoatsModel", "comes", "(IIII)V"⟩, 52), (⟨"HalfBoatsModel", "layBoats", "()V"⟩, 52), (⟨"HalfBoatsModel", "findCan", "()V"⟩, 52), (⟨"HalfBoatsModel", "mostOf", "()I"⟩, 52), (⟨"HalfBoatsModel", "mostIn", "(III)I"⟩, 52), (⟨"HalfBoatsModel", "isRow", "(II)Z"⟩, 52), (⟨"HalfBoatsModel", "isBoat", "(I)Z"⟩, 52), (⟨"HalfBoatsModel", "findOrder", "(II)V"⟩, 52), (⟨"HalfBoatsModel", "doesHear", "(II)Z"⟩, 52), (⟨"HalfBoatsModel", "farOf", "(I)I"⟩, 52), (⟨"HalfBoatsModel", "isShip", "(I)Z"⟩, 52)]
theorem lw_r4 : ∀ q ∈ lw_privs_4, lw_okq q := List.forall_mem_cons.mpr ⟨lw_p48, List.forall_mem_cons.mpr ⟨lw_p49, List.forall_mem_cons.mpr ⟨lw_p50, List.forall_mem_cons.mpr ⟨lw_p51, List.forall_mem_cons.mpr ⟨lw_p52, List.forall_mem_cons.mpr ⟨lw_p53, List.forall_mem_cons.mpr ⟨lw_p54, List.forall_mem_cons.mpr ⟨lw_p55, List.forall_mem_cons.mpr ⟨lw_p56, List.forall_mem_cons.mpr ⟨lw_p57, List.forall_mem_cons.mpr ⟨lw_p58, List.forall_mem_cons.mpr ⟨lw_p59, List.forall_mem_cons.mpr ⟨lw_p60, List.forall_mem_cons.mpr ⟨lw_p61, List.forall_mem_cons.mpr ⟨lw_p62, List.forall_mem_cons.mpr ⟨lw_p63, fun _ h => absurd h List.not_mem_nil⟩⟩⟩⟩⟩⟩⟩⟩⟩⟩⟩⟩⟩⟩⟩⟩
theorem lw_p64 : lw_okq (⟨"HalfBoatsModel", "earliest", "(I)I"⟩, 52) := ⟨⟨by decide +kernel, by decide +kernel⟩, List.mem_of_getElem? (i := 1343) (by decide +kernel), List.mem_of_getElem? (i := 1713) (by decide +kernel), List.mem_of_getElem? (i := 1714) (by decide +kernel)⟩
theorem lw_p65 : lw_okq (⟨"HalfBoatsModel", "isLight", "(I)Z"⟩, 52) := ⟨⟨by decide +kernel, by decide +kernel⟩, List.mem_of_getElem? (i := 1343) (by decide +kernel), List.mem_of_getElem? (i := 1725) (by decide +kernel), List.mem_of_getElem? (i := 1726) (by decide +kernel)⟩
theorem lw_p66 : lw_okq (⟨"HalfBoatsModel", "shipsOf", "(I)I"⟩, 52) := ⟨⟨by decide +kernel, by decide +kernel⟩, List.mem_of_getElem? (i := 1343) (by decide +kernel), List.mem_of_getElem? (i := 1729) (by decide +kernel), List.mem_of_getElem? (i := 1730) (by decide +kernel)⟩
theorem lw_p67 : lw_okq (⟨"HalfBoatsModel", "standingAt", "(I)I"⟩, 52) := ⟨⟨by decide +kernel, by decide +kernel⟩, List.mem_of_getElem? (i := 1343) (by decide +kernel), List.mem_of_getElem? (i := 1753) (by decide +kernel), List.mem_of_getElem? (i := 1754) (by decide +kernel)⟩
theorem lw_p68 : lw_okq (⟨"HalfBoatsModel", "reads", "(II)V"⟩, 52) := ⟨⟨by decide +kernel, by decide +kernel⟩, List.mem_of_getElem? (i := 1343) (by decide +kernel), List.mem_of_getElem? (i := 1770) (by decide +kernel), List.mem_of_getElem? (i := 1771) (by decide +kernel)⟩
theorem lw_p69 : lw_okq (⟨"HalfBoatsModel", "next", "()V"⟩, 52) := ⟨⟨by decide +kernel, by decide +kernel⟩, List.mem_of_getElem? (i := 1343) (by decide +kernel), List.mem_of_getElem? (i := 1774) (by decide +kernel), List.mem_of_getElem? (i := 1775) (by decide +kernel)⟩
theorem lw_p70 : lw_okq (⟨"HalfBoatsModel", "byteAt", "(I)I"⟩, 52) := ⟨⟨by decide +kernel, by decide +kernel⟩, List.mem_of_getElem? (i := 1343) (by decide +kernel), List.mem_of_getElem? (i := 1778) (by decide +kernel), List.mem_of_getElem? (i := 1779) (by decide +kernel)⟩
theorem lw_p71 : lw_okq (⟨"HalfBoatsModel", "word", "()V"⟩, 52) := ⟨⟨by decide +kernel, by decide +kernel⟩, List.mem_of_getElem? (i := 1343) (by decide +kernel), List.mem_of_getElem? (i := 1782) (by decide +kernel), List.mem_of_getElem? (i := 1783) (by decide +kernel)⟩
theorem lw_p72 : lw_okq (⟨"HalfBoatsModel", "isWord", "(II)Z"⟩, 52) := ⟨⟨by decide +kernel, by decide +kernel⟩, List.mem_of_getElem? (i := 1343) (by decide +kernel), List.mem_of_getElem? (i := 1786) (by decide +kernel), List.mem_of_getElem? (i := 1787) (by decide +kernel)⟩
theorem lw_p73 : lw_okq (⟨"HalfBoatsModel", "line", "()V"⟩, 52) := ⟨⟨by decide +kernel, by decide +kernel⟩, List.mem_of_getElem? (i := 1343) (by decide +kernel), List.mem_of_getElem? (i := 1790) (by decide +kernel), List.mem_of_getElem? (i := 1791) (by decide +kernel)⟩
theorem lw_p74 : lw_okq (⟨"HalfBoatsModel", "number", "(I)I"⟩, 52) := ⟨⟨by decide +kernel, by decide +kernel⟩, List.mem_of_getElem? (i := 1343) (by decide +kernel), List.mem_of_getElem? (i := 1794) (by decide +kernel), List.mem_of_getElem? (i := 1795) (by decide +kernel)⟩
theorem lw_p75 : lw_okq (⟨"HalfBoatsModel", "wrong", "()V"⟩, 52) := ⟨⟨by decide +kernel, by decide +kernel⟩, List.mem_of_getElem? (i := 1343) (by decide +kernel), List.mem_of_getElem? (i := 1798) (by decide +kernel), List.mem_of_getElem? (i := 1799) (by decide +kernel)⟩
theorem lw_p76 : lw_okq (⟨"HalfBoatsModel", "takes", "(I)V"⟩, 52) := ⟨⟨by decide +kernel, by decide +kernel⟩, List.mem_of_getElem? (i := 1343) (by decide +kernel), List.mem_of_getElem? (i := 1802) (by decide +kernel), List.mem_of_getElem? (i := 1803) (by decide +kernel)⟩
theorem lw_p77 : lw_okq (⟨"HalfBoatsModel", "first", "()V"⟩, 52) := ⟨⟨by decide +kernel, by decide +kernel⟩, List.mem_of_getElem? (i := 1343) (by decide +kernel), List.mem_of_getElem? (i := 1806) (by decide +kernel), List.mem_of_getElem? (i := 1807) (by decide +kernel)⟩
theorem lw_p78 : lw_okq (⟨"HalfBoatsModel", "cond", "()Z"⟩, 52) := ⟨⟨by decide +kernel, by decide +kernel⟩, List.mem_of_getElem? (i := 1343) (by decide +kernel), List.mem_of_getElem? (i := 1810) (by decide +kernel), List.mem_of_getElem? (i := 1811) (by decide +kernel)⟩
theorem lw_p79 : lw_okq (⟨"HalfBoatsModel", "every", "()Z"⟩, 52) := ⟨⟨by decide +kernel, by decide +kernel⟩, List.mem_of_getElem? (i := 1343) (by decide +kernel), List.mem_of_getElem? (i := 1814) (by decide +kernel), List.mem_of_getElem? (i := 1815) (by decide +kernel)⟩
def lw_privs_5 : List (MethodName × Nat) := [(⟨"HalfBoatsModel", "earliest", "(I)I"⟩, 52), (⟨"HalfBoatsModel", "isLight", "(I)Z"⟩, 52), (⟨"HalfBoatsModel", "shipsOf", "(I)I"⟩, 52), (⟨"HalfBoatsModel", "standingAt", "(I)I"⟩, 52), (⟨"HalfBoatsModel", "reads", "(II)V"⟩, 52), (⟨"HalfBoatsModel", "next", "()V"⟩, 52), (⟨"HalfBoatsModel", "byteAt", "(I)I"⟩, 52), (⟨"HalfBoatsModel", "word", "()V"⟩, 52), (⟨"HalfBoatsModel", "isWord", "(II)Z"⟩, 52), (⟨"HalfBoatsModel", "line", "()V"⟩, 52), (⟨"HalfBoatsModel", "number", "(I)I"⟩, 52), (⟨"HalfBoatsModel", "wrong", "()V"⟩, 52), (⟨"HalfBoatsModel", "takes", "(I)V"⟩, 52), (⟨"HalfBoatsModel", "first", "()V"⟩, 52), (⟨"HalfBoatsModel", "cond", "()Z"⟩, 52), (⟨"HalfBoatsModel", "every", "()Z"⟩, 52)]
theorem lw_r5 : ∀ q ∈ lw_privs_5, lw_okq q := List.forall_mem_cons.mpr ⟨lw_p64, List.forall_mem_cons.mpr ⟨lw_p65, List.forall_mem_cons.mpr ⟨lw_p66, List.forall_mem_cons.mpr ⟨lw_p67, List.forall_mem_cons.mpr ⟨lw_p68, List.forall_mem_cons.mpr ⟨lw_p69, List.forall_mem_cons.mpr ⟨lw_p70, List.forall_mem_cons.mpr ⟨lw_p71, List.forall_mem_cons.mpr ⟨lw_p72, List.forall_mem_cons.mpr ⟨lw_p73, List.forall_mem_cons.mpr ⟨lw_p74, List.forall_mem_cons.mpr ⟨lw_p75, List.forall_mem_cons.mpr ⟨lw_p76, List.forall_mem_cons.mpr ⟨lw_p77, List.forall_mem_cons.mpr ⟨lw_p78, List.forall_mem_cons.mpr ⟨lw_p79, fun _ h => absurd h List.not_mem_nil⟩⟩⟩⟩⟩⟩⟩⟩⟩⟩⟩⟩⟩⟩⟩⟩
theorem lw_p80 : lw_okq (⟨"HalfBoatsModel", "single", "()Z"⟩, 52) := ⟨⟨by decide +kernel, by decide +kernel⟩, List.mem_of_getElem? (i := 1343) (by decide +kernel), List.mem_of_getElem? (i := 1818) (by decide +kernel), List.mem_of_getElem? (i := 1819) (by decide +kernel)⟩
theorem lw_p81 : lw_okq (⟨"HalfBoatsModel", "readsFor", "(I)V"⟩, 52) := ⟨⟨by decide +kernel, by decide +kernel⟩, List.mem_of_getElem? (i := 1343) (by decide +kernel), List.mem_of_getElem? (i := 1830) (by decide +kernel), List.mem_of_getElem? (i := 1831) (by decide +kernel)⟩
theorem lw_p82 : lw_okq (⟨"HalfBoatsModel", "sumOf", "(III)I"⟩, 52) := ⟨⟨by decide +kernel, by decide +kernel⟩, List.mem_of_getElem? (i := 1343) (by decide +kernel), List.mem_of_getElem? (i := 1834) (by decide +kernel), List.mem_of_getElem? (i := 1835) (by decide +kernel)⟩
theorem lw_p83 : lw_okq (⟨"HalfBoatsModel", "freeRow", "()I"⟩, 52) := ⟨⟨by decide +kernel, by decide +kernel⟩, List.mem_of_getElem? (i := 1343) (by decide +kernel), List.mem_of_getElem? (i := 1864) (by decide +kernel), List.mem_of_getElem? (i := 1865) (by decide +kernel)⟩
theorem lw_p84 : lw_okq (⟨"HalfBoatsModel", "kindOn", "(I)I"⟩, 52) := ⟨⟨by decide +kernel, by decide +kernel⟩, List.mem_of_getElem? (i := 1343) (by decide +kernel), List.mem_of_getElem? (i := 1889) (by decide +kernel), List.mem_of_getElem? (i := 1890) (by decide +kernel)⟩
theorem lw_p85 : lw_okq (⟨"HalfBoatsModel", "fills", "(I)I"⟩, 52) := ⟨⟨by decide +kernel, by decide +kernel⟩, List.mem_of_getElem? (i := 1343) (by decide +kernel), List.mem_of_getElem? (i := 1897) (by decide +kernel), List.mem_of_getElem? (i := 1898) (by decide +kernel)⟩
theorem lw_p86 : lw_okq (⟨"HalfBoatsModel", "begins", "(I)V"⟩, 52) := ⟨⟨by decide +kernel, by decide +kernel⟩, List.mem_of_getElem? (i := 1343) (by decide +kernel), List.mem_of_getElem? (i := 1901) (by decide +kernel), List.mem_of_getElem? (i := 1902) (by decide +kernel)⟩
theorem lw_p87 : lw_okq (⟨"HalfBoatsModel", "thingFills", "(I)I"⟩, 52) := ⟨⟨by decide +kernel, by decide +kernel⟩, List.mem_of_getElem? (i := 1343) (by decide +kernel), List.mem_of_getElem? (i := 1905) (by decide +kernel), List.mem_of_getElem? (i := 1906) (by decide +kernel)⟩
theorem lw_p88 : lw_okq (⟨"HalfBoatsModel", "carries", "(I)I"⟩, 52) := ⟨⟨by decide +kernel, by decide +kernel⟩, List.mem_of_getElem? (i := 1343) (by decide +kernel), List.mem_of_getElem? (i := 1909) (by decide +kernel), List.mem_of_getElem? (i := 1910) (by decide +kernel)⟩
theorem lw_p89 : lw_okq (⟨"HalfBoatsModel", "thingCarries", "(I)I"⟩, 52) := ⟨⟨by decide +kernel, by decide +kernel⟩, List.mem_of_getElem? (i := 1343) (by decide +kernel), List.mem_of_getElem? (i := 1913) (by decide +kernel), List.mem_of_getElem? (i := 1914) (by decide +kernel)⟩
theorem lw_p90 : lw_okq (⟨"HalfBoatsModel", "fits", "(I)I"⟩, 52) := ⟨⟨by decide +kernel, by decide +kernel⟩, List.mem_of_getElem? (i := 1343) (by decide +kernel), List.mem_of_getElem? (i := 1917) (by decide +kernel), List.mem_of_getElem? (i := 1918) (by decide +kernel)⟩
theorem lw_p91 : lw_okq (⟨"HalfBoatsModel", "thingFits", "(I)I"⟩, 52) := ⟨⟨by decide +kernel, by decide +kernel⟩, List.mem_of_getElem? (i := 1343) (by decide +kernel), List.mem_of_getElem? (i := 1921) (by decide +kernel), List.mem_of_getElem? (i := 1922) (by decide +kernel)⟩
theorem lw_p92 : lw_okq (⟨"HalfBoatsModel", "tells", "(I)I"⟩, 52) := ⟨⟨by decide +kernel, by decide +kernel⟩, List.mem_of_getElem? (i := 1343) (by decide +kernel), List.mem_of_getElem? (i := 1925) (by decide +kernel), List.mem_of_getElem? (i := 1926) (by decide +kernel)⟩
theorem lw_p93 : lw_okq (⟨"HalfBoatsModel", "thingTells", "(I)I"⟩, 52) := ⟨⟨by decide +kernel, by decide +kernel⟩, List.mem_of_getElem? (i := 1343) (by decide +kernel), List.mem_of_getElem? (i := 1929) (by decide +kernel), List.mem_of_getElem? (i := 1930) (by decide +kernel)⟩
def lw_privs_6 : List (MethodName × Nat) := [(⟨"HalfBoatsModel", "single", "()Z"⟩, 52), (⟨"HalfBoatsModel", "readsFor", "(I)V"⟩, 52), (⟨"HalfBoatsModel", "sumOf", "(III)I"⟩, 52), (⟨"HalfBoatsModel", "freeRow", "()I"⟩, 52), (⟨"HalfBoatsModel", "kindOn", "(I)I"⟩, 52), (⟨"HalfBoatsModel", "fills", "(I)I"⟩, 52), (⟨"HalfBoatsModel", "begins", "(I)V"⟩, 52), (⟨"HalfBoatsModel", "thingFills", "(I)I"⟩, 52), (⟨"HalfBoatsModel", "carries", "(I)I"⟩, 52), (⟨"HalfBoatsModel", "thingCarries", "(I)I"⟩, 52), (⟨"HalfBoatsModel", "fits", "(I)I"⟩, 52), (⟨"HalfBoatsModel", "thingFits", "(I)I"⟩, 52), (⟨"HalfBoatsModel", "tells", "(I)I"⟩, 52), (⟨"HalfBoatsModel", "thingTells", "(I)I"⟩, 52)]
theorem lw_r6 : ∀ q ∈ lw_privs_6, lw_okq q := List.forall_mem_cons.mpr ⟨lw_p80, List.forall_mem_cons.mpr ⟨lw_p81, List.forall_mem_cons.mpr ⟨lw_p82, List.forall_mem_cons.mpr ⟨lw_p83, List.forall_mem_cons.mpr ⟨lw_p84, List.forall_mem_cons.mpr ⟨lw_p85, List.forall_mem_cons.mpr ⟨lw_p86, List.forall_mem_cons.mpr ⟨lw_p87, List.forall_mem_cons.mpr ⟨lw_p88, List.forall_mem_cons.mpr ⟨lw_p89, List.forall_mem_cons.mpr ⟨lw_p90, List.forall_mem_cons.mpr ⟨lw_p91, List.forall_mem_cons.mpr ⟨lw_p92, List.forall_mem_cons.mpr ⟨lw_p93, fun _ h => absurd h List.not_mem_nil⟩⟩⟩⟩⟩⟩⟩⟩⟩⟩⟩⟩⟩⟩
def lw_privs : List (MethodName × Nat) := lw_privs_1 ++ (lw_privs_2 ++ (lw_privs_3 ++ (lw_privs_4 ++ (lw_privs_5 ++ (lw_privs_6)))))
def lw_tbl : List Cond := k2_sels lw_privs ++ tables_1
theorem lw_privs_ok : ∀ q ∈ lw_privs, lw_okq q := by
  show ∀ q ∈ lw_privs_1 ++ (lw_privs_2 ++ (lw_privs_3 ++ (lw_privs_4 ++ (lw_privs_5 ++ (lw_privs_6))))), lw_okq q
  exact List.forall_mem_append.mpr ⟨lw_r1, List.forall_mem_append.mpr ⟨lw_r2, List.forall_mem_append.mpr ⟨lw_r3, List.forall_mem_append.mpr ⟨lw_r4, List.forall_mem_append.mpr ⟨lw_r5, lw_r6⟩⟩⟩⟩⟩
end
section
noncomputable section
/-! A PURE MACHINE: cells, methods, one step, runs. A reference in it is a number: 0 the script, 1 + j and 17 + j the j-th text and its bytes, 33 a static, 64 + k the k-th cell that was made since the law's entry. -/
abbrev px_E : Type := List Int32 ⊕ (List Int64 ⊕ (Nat × List Value))
abbrev px_W : Type := List px_E
/-- a pool: fields (index, kind of object, field), calls (index, sort, method), made kinds (index, kind), ints, longs, texts, statics (0, 1), fields of texts (0 bytes, 1 coder) -/
abbrev px_L : Type := List (Nat × Nat × Nat) × List (Nat × Nat × Nat) × List (Nat × Nat) × List (Nat × Int32) × List (Nat × Int64) × List (Nat × Nat) × List (Nat × Nat) × List (Nat × Nat)
/-- a method's head: name, bytes, locals, what it returns, how many arguments beside the receiver -/
abbrev px_Hd : Type := MethodName × ByteArray × Nat × Option FieldType × Nat
abbrev px_M : Type := px_Hd × List (Nat × Instr × Nat) × px_L
abbrev px_N : Type := Nat × List (Nat × Value) × List Value × px_W × Nat × Nat
abbrev px_R : Type := px_N ⊕ (Option Value ⊕ (Nat × List Value × List Value))
def px_look {α : Type} (l : List (Nat × α)) (k : Nat) : Option α := List.rec (motive := fun _ => Option α) none (fun q _ ih => cond (Nat.beq q.1 k) (some q.2) ih) l
theorem px_look_cons {α : Type} {q : Nat × α} {r : List (Nat × α)} {k : Nat} : px_look (q :: r) k = if q.1 = k then some q.2 else px_look r k := by
  show cond (Nat.beq q.1 k) (some q.2) (px_look r k) = _
  cases hb : Nat.beq q.1 k with
  | true => rw [if_pos (Nat.eq_of_beq_eq_true hb)]; rfl
  | false => rw [if_neg (Nat.ne_of_beq_eq_false hb)]; rfl
theorem px_look_mem {α : Type} : ∀ {l : List (Nat × α)} {k : Nat} {a : α}, px_look l k = some a → (k, a) ∈ l
  | [], _, _, h => by cases h
  | q :: r, k, a, h => by
    rw [px_look_cons] at h
    split at h
    · rename_i e
      cases h
      subst e
      exact List.mem_cons_self
    · exact List.mem_cons_of_mem _ (px_look_mem h)
def px_or {α : Type} (a b : Option α) : Option α := match a with
  | some x => some x
  | none => b
theorem px_or_some {α : Type} {a b : Option α} {x : α} (h : px_or a b = some x) : a = some x ∨ b = some x := by
  cases a with
  | none => exact Or.inr h
  | some y => exact Or.inl h
def px_sto (lv : List (Nat × Value)) (i : Nat) (v : Value) : List (Nat × Value) := (i, v) :: lv.filter (fun q => !(q.1 == i) && !(q.1 + 1 == i && q.2.category == 2))
def px_ix (i : Int32) (n : Nat) : Bool := !(decide (i < 0)) && decide (i.toNatClampNeg < n)
theorem px_ix_in {i : Int32} {n : Nat} (h : px_ix i n = true) : vp_in i n ∧ i.toNatClampNeg < n := by
  unfold px_ix at h
  simp only [Bool.and_eq_true, Bool.not_eq_true', decide_eq_false_iff_not, decide_eq_true_eq] at h
  exact ⟨fun q => q.elim h.1 (fun z => by omega), h.2⟩
/-- int and int give an int -/
def px_bin (i : Instr) (x y : Int32) : Option Int32 := match i with
  | .iadd => some (x + y)
  | .isub => some (x - y)
  | .imul => some (x * y)
  | .iand => some (x &&& y)
  | .ior => some (x ||| y)
  | .ixor => some (x ^^^ y)
  | .ishl => some (x <<< (y &&& 31))
  | .ishr => some (x >>> (y &&& 31))
  | .iushr => some ((x.toUInt32 >>> (y.toUInt32 &&& Int32.toUInt32 31)).toInt32)
  | .idiv => if y = 0 then none else some (x / y)
  | .irem => if y = 0 then none else some (x - x / y * y)
  | _ => none
/-- a value gives a value -/
def px_un (i : Instr) (v : Value) : Option Value := match i, v with
  | .ineg, .int x => some (.int (-x))
  | .i2l, .int x => some (.long x.toInt64)
  | .i2b, .int x => some (.int x.toInt8.toInt32)
  | .i2s, .int x => some (.int x.toInt16.toInt32)
  | .i2c, .int x => some (.int (x.toUInt32 % 65536).toInt32)
  | .l2i, .long x => some (.int x.toInt32)
  | _, _ => none
def px_lb (i : Instr) (x : Int64) (v : Value) : Option Int64 := match i, v with
  | .land, .long y => some (x &&& y)
  | .lor, .long y => some (x ||| y)
  | .lshl, .int y => some (x <<< (y.toInt64 &&& 63))
  | .lshr, .int y => some (x >>> (y.toInt64 &&& 63))
  | _, _ => none
def px_cst (i : Instr) : Option (Value × Nat) := match i with
  | .iconst n => some (.int (Int32.ofInt n), 1)
  | .bipush n => some (.int (Int8.ofInt n).toInt32, 2)
  | .sipush n => some (.int (Int16.ofInt n).toInt32, 3)
  | .lconst n => some (.long (Int64.ofNat (n : Nat)), 1)
  | _ => none
/-- loads: place, length, sort (0 int, 1 long, 2 reference) -/
def px_ld (i : Instr) : Option (Nat × Nat × Nat) := match i with
  | .iload_n k => some ((k : Nat), 1, 0)
  | .iload k => some (k, 2, 0)
  | .lload_n k => some ((k : Nat), 1, 1)
  | .lload k => some (k, 2, 1)
  | .aload_n k => some ((k : Nat), 1, 2)
  | .aload k => some (k, 2, 2)
  | _ => none
def px_so (v : Value) : Nat := match v with
  | .int _ => 0
  | .long _ => 1
  | .ref _ => 2
  | _ => 3
def px_st (i : Instr) : Option (Nat × Nat × Nat) := match i with
  | .istore_n k => some ((k : Nat), 1, 0)
  | .istore k => some (k, 2, 0)
  | .astore_n k => some ((k : Nat), 1, 2)
  | .astore k => some (k, 2, 2)
  | _ => none
def px_stk (i : Instr) (st : List Value) : Option (List Value) := match i, st with
  | .dup, a :: r => if a.category = 1 then some (a :: a :: r) else none
  | .pop, a :: r => if a.category = 1 then some r else none
  | .dup_x1, a :: b :: r => if a.category = 1 ∧ b.category = 1 then some (a :: b :: a :: r) else none
  | .dup2, a :: b :: r => if a.category = 1 ∧ b.category = 1 then some (a :: b :: a :: b :: r) else none
  | _, _ => none
def px_cnd (k : Jvm.ClassFile.Cond) (x y : Int32) : Bool := match k with
  | .eq => decide (x = y)
  | .ne => decide (¬ x = y)
  | .lt => decide (x < y)
  | .ge => decide (y ≤ x)
  | .gt => decide (y < x)
  | .le => decide (x ≤ y)
def px_tgt (pc : Nat) (off : Int) : Option Nat := if 0 ≤ (pc : Int) + off then some ((pc : Int) + off).toNat else none
def px_br (i : Instr) (pc len : Nat) (st : List Value) : Option (Nat × List Value) := match i, st with
  | .goto off, r => if len = 3 then (px_tgt pc off).map (fun t => (t, r)) else none
  | .ifCond k off, .int x :: r => if len = 3 then (px_tgt pc off).map (fun t => (if px_cnd k x 0 = true then t else pc + 3, r)) else none
  | .if_icmp k off, .int y :: .int x :: r => if len = 3 then (px_tgt pc off).map (fun t => (if px_cnd k x y = true then t else pc + 3, r)) else none
  | .tableswitch dflt lo hi offs, .int x :: r => if x.toInt < lo ∨ hi < x.toInt then (px_tgt pc dflt).map (fun t => (t, r)) else (offs[(x.toInt - lo).toNat]?.bind (fun o => px_tgt pc o)).map (fun t => (t, r))
  | _, _ => none
/-- what needs neither cells nor the pool -/
def px_s1 (i : Instr) (len pc : Nat) (mx : Nat) (lv : List (Nat × Value)) (st : List Value) : Option (Nat × List (Nat × Value) × List Value) :=
  px_or (match st with
    | .int y :: .int x :: r => if len = 1 then (px_bin i x y).map (fun z => (pc + 1, lv, .int z :: r)) else none
    | _ => none)
  (px_or ((px_ld i).bind (fun q => (px_look lv q.1).bind (fun v => if len = q.2.1 ∧ px_so v = q.2.2 then some (pc + len, lv, v :: st) else none)))
  (px_or ((px_cst i).bind (fun q => if len = q.2 then some (pc + len, lv, q.1 :: st) else none))
  (px_or ((px_br i pc len st).map (fun q => (q.1, lv, q.2)))
  (px_or (match st with
    | v :: r => (px_st i).bind (fun q => if len = q.2.1 ∧ px_so v = q.2.2 ∧ q.1 < mx then some (pc + len, px_sto lv q.1 v, r) else none)
    | _ => none)
  (px_or (match i with
    | .iinc k n => (px_look lv k).bind (fun v => match v with
      | .int x => if len = 3 ∧ k < mx then some (pc + 3, px_sto lv k (.int (x + Int32.ofInt n)), st) else none
      | _ => none)
    | _ => none)
  (px_or (if len = 1 then (px_stk i st).map (fun r => (pc + 1, lv, r)) else none)
  (px_or (match st with
    | v :: r => if len = 1 then (px_un i v).map (fun z => (pc + 1, lv, z :: r)) else none
    | _ => none)
  (match st with
    | v :: .long x :: r => if len = 1 then (px_lb i x v).map (fun z => (pc + 1, lv, .long z :: r)) else none
    | _ => none))))))))
def px_ty (T : u_T) (k : Nat) : FieldType := (parseFieldDescriptor (T k).2.2.1).getD .int
def px_rt (t : FieldType) : Bool := match t with
  | .object _ => true
  | .array _ => true
  | _ => false
/-- may a value stand in a field of this type -/
def px_fit (t : FieldType) (v : Value) : Bool := match v with
  | .int x => decide (narrow t (.int x) = .int x) && fits t (.int x)
  | .ref _ => px_rt t
  | _ => false
def px_cpy (a b : List Int32) (sp dp n : Nat) : List Int32 := b.take dp ++ ((a.drop sp).take n ++ b.drop (dp + n))
/-- what reads and writes cells, or the pool: stack, cells, how many cells and slots are new -/
def px_s2 (cl : List vw_C) (lt : List (List Int32)) (i : Instr) (len : Nat) (scr : Option (List Int32)) (nm : String) (own : String) (L : px_L) (st : List Value) (w : px_W) : Option (List Value × px_W × Nat × Nat) := match i, st with
  | .getfield x, .ref a :: r => if len = 3 ∧ 64 ≤ a then (match px_look L.1 x, w[a - 64]? with
    | some q, some (.inr (.inr o)) => if q.1 = o.1 then (o.2[q.2]?).map (fun v => (v :: r, w, 0, 0)) else none
    | _, _ => none) else if len = 3 ∧ 1 ≤ a ∧ a ≤ 16 then (px_look L.2.2.2.2.2.2.2 x).bind (fun k => if k = 0 then some (.ref (a + 16) :: r, w, 0, 0) else if k = 1 then some (.int 0 :: r, w, 0, 0) else none) else none
  | .iaload, .int j :: .ref a :: r => if len = 1 then (if a = 0 then (match scr with
      | some xs => if px_ix j xs.length = true then some (.int (xs.getD j.toNatClampNeg 0) :: r, w, 0, 0) else none
      | none => none) else if 64 ≤ a then (match w[a - 64]? with
      | some (.inl l) => if px_ix j l.length = true then some (.int (l.getD j.toNatClampNeg 0) :: r, w, 0, 0) else none
      | _ => none) else none) else none
  | .iastore, .int z :: .int j :: .ref a :: r => if len = 1 ∧ 64 ≤ a then (match w[a - 64]? with
      | some (.inl l) => if px_ix j l.length = true then some (r, w.set (a - 64) (.inl (l.set j.toNatClampNeg z)), 0, 0) else none
      | _ => none) else none
  | .putfield x, v :: .ref a :: r => if len = 3 ∧ 64 ≤ a then (match px_look L.1 x, w[a - 64]? with
    | some q, some (.inr (.inr o)) => (match cl[q.1]? with
      | some k => if q.1 = o.1 ∧ q.2 < o.2.length ∧ px_fit (px_ty k.2.1 q.2) v = true ∧ ((k.2.1 q.2).2.2.2 = true → nm = "<init>" ∧ (k.2.1 q.2).1 = own) then some (r, w.set (a - 64) (.inr (.inr (o.1, o.2.set q.2 v))), 0, 0) else none
      | none => none)
    | _, _ => none) else none
  | .ldc x, r => if len = 2 then px_or ((px_look L.2.2.2.1 x).map (fun v => (.int v :: r, w, 0, 0))) ((px_look L.2.2.2.2.2.1 x).map (fun j => (.ref (1 + j) :: r, w, 0, 0))) else none
  | .getstatic x, r => if len = 3 then (px_look L.2.2.2.2.2.2.1 x).bind (fun k => if k = 0 then some (.int 1 :: r, w, 0, 0) else if k = 1 then some (.ref 33 :: r, w, 0, 0) else none) else none
  | .baload, .int j :: .ref a :: r => if len = 1 ∧ 17 ≤ a ∧ a ≤ 32 ∧ px_ix j ((lt.map List.length).getD (a - 17) 0) = true then some (.int ((lt.getD (a - 17) []).getD j.toNatClampNeg 0) :: r, w, 0, 0) else none
  | .ldc_w x, r => if len = 3 then (px_look L.2.2.2.1 x).map (fun v => (.int v :: r, w, 0, 0)) else none
  | .ldc2_w x, r => if len = 3 then (px_look L.2.2.2.2.1 x).map (fun v => (.long v :: r, w, 0, 0)) else none
  | .arraylength, .ref a :: r => if len = 1 then (if a = 0 then (match scr with
      | some xs => some (.int (Int32.ofNat xs.length) :: r, w, 0, 0)
      | none => none) else if 64 ≤ a then (match w[a - 64]? with
      | some (.inl l) => some (.int (Int32.ofNat l.length) :: r, w, 0, 0)
      | _ => none) else if 17 ≤ a ∧ a ≤ 32 then some (.int (Int32.ofNat ((lt.map List.length).getD (a - 17) 0)) :: r, w, 0, 0) else none) else none
  | .laload, .int j :: .ref a :: r => if len = 1 ∧ 64 ≤ a then (match w[a - 64]? with
      | some (.inr (.inl l)) => if px_ix j l.length = true then some (.long (l.getD j.toNatClampNeg 0) :: r, w, 0, 0) else none
      | _ => none) else none
  | .lastore, .long z :: .int j :: .ref a :: r => if len = 1 ∧ 64 ≤ a then (match w[a - 64]? with
      | some (.inr (.inl l)) => if px_ix j l.length = true then some (r, w.set (a - 64) (.inr (.inl (l.set j.toNatClampNeg z))), 0, 0) else none
      | _ => none) else none
  | .new x, r => if len = 3 then (px_look L.2.2.1 x).bind (fun ci => (cl[ci]?).map (fun k => (.ref (64 + w.length) :: r, w ++ [.inr (.inr (ci, (List.range k.2.2).map (fun j => defaultValue (px_ty k.2.1 j))))], 1, k.2.2))) else none
  | .newarray .int, .int n :: r => if len = 2 ∧ ¬ n < 0 ∧ n.toNatClampNeg ≤ 100000 then some (.ref (64 + w.length) :: r, w ++ [.inl (List.replicate n.toNatClampNeg 0)], 1, n.toNatClampNeg) else none
  | .newarray .long, .int n :: r => if len = 2 ∧ ¬ n < 0 ∧ n.toNatClampNeg ≤ 100000 then some (.ref (64 + w.length) :: r, w ++ [.inr (.inl (List.replicate n.toNatClampNeg 0))], 1, n.toNatClampNeg) else none
  | _, _ => none
/-- native and empty callees -/
def px_s3 (i : Instr) (len : Nat) (d : Nat) (L : px_L) (st : List Value) (w : px_W) : Option (List Value × px_W) := match i, st with
  | .invokestatic x, .int n :: .int dp :: .ref b :: .int sp :: .ref a :: r => if len = 3 ∧ 1 ≤ d ∧ 64 ≤ a ∧ 64 ≤ b ∧ ¬ sp < 0 ∧ ¬ dp < 0 ∧ ¬ n < 0 ∧ (r.map (fun v => v.category)).sum ≤ 8 then (match px_look L.2.1 x, w[a - 64]?, w[b - 64]? with
    | some q, some (.inl la), some (.inl lb) => if q.1 = 6 ∧ sp.toNatClampNeg + n.toNatClampNeg ≤ la.length ∧ dp.toNatClampNeg + n.toNatClampNeg ≤ lb.length then some (r, w.set (b - 64) (.inl (px_cpy la lb sp.toNatClampNeg dp.toNatClampNeg n.toNatClampNeg))) else none
    | _, _, _ => none) else none
  | .invokespecial x, .ref a :: r => if len = 3 ∧ 1 ≤ d ∧ 64 ≤ a ∧ (r.map (fun v => v.category)).sum ≤ 8 then (match px_look L.2.1 x with
    | some q => if q.1 = 7 then some (r, w) else none
    | none => none) else none
  | _, _ => none
/-- greatest, least, amount -/
def px_s6 (i : Instr) (len : Nat) (d : Nat) (L : px_L) (st : List Value) : Option (List Value) := match i with
  | .invokestatic x => if len = 3 ∧ 1 ≤ d then (px_look L.2.1 x).bind (fun q => match st with
    | .int y :: r => if q.1 = 10 then (if (r.map (fun v => v.category)).sum ≤ 8 then some (.int (if 0 ≤ y then y else 0 - y) :: r) else none) else (match r with
      | .int x :: r2 => if (r2.map (fun v => v.category)).sum ≤ 8 then (if q.1 = 8 then some (.int (if x < y then y else x) :: r2) else if q.1 = 9 then some (.int (if y < x then y else x) :: r2) else none) else none
      | _ => none)
    | _ => none) else none
  | _ => none
/-- an own callee: its number, its arguments, what stays on the stack -/
def px_s4 (cl : List vw_C) (P : List px_M) (i : Instr) (len : Nat) (L : px_L) (st : List Value) (w : px_W) : Option (Nat × List Value × List Value) := match i with
  | .invokevirtual x => if len = 3 then (px_look L.2.1 x).bind (fun q => (P[q.2]?).bind (fun M => match st.drop M.1.2.2.2.2 with
    | .ref b :: r => if q.1 = 0 ∧ M.1.2.2.2.2 ≤ st.length ∧ 64 ≤ b ∧ (r.map (fun v => v.category)).sum ≤ 8 then (match w[b - 64]? with
      | some (.inr (.inr o)) => (match cl[o.1]? with
        | some k => if k.1 = M.1.1.cls then some (q.2, .ref b :: (st.take M.1.2.2.2.2).reverse, r) else none
        | none => none)
      | _ => none) else if q.1 = 0 ∧ M.1.2.2.2.2 ≤ st.length ∧ 1 ≤ b ∧ b ≤ 16 ∧ M.1.1.cls = "java/lang/String" ∧ (r.map (fun v => v.category)).sum ≤ 8 then some (q.2, .ref b :: (st.take M.1.2.2.2.2).reverse, r) else none
    | _ => none)) else none
  | .invokestatic x => if len = 3 then (px_look L.2.1 x).bind (fun q => (P[q.2]?).bind (fun M => if (q.1 = 1 ∨ q.1 = 4) ∧ M.1.2.2.2.2 ≤ st.length ∧ ((st.drop M.1.2.2.2.2).map (fun v => v.category)).sum ≤ 8 then some (q.2, (st.take M.1.2.2.2.2).reverse, st.drop M.1.2.2.2.2) else none)) else none
  | .invokespecial x => if len = 3 then (px_look L.2.1 x).bind (fun q => (P[q.2]?).bind (fun M => match st.drop M.1.2.2.2.2 with
    | .ref b :: r => if (q.1 = 2 ∨ q.1 = 5) ∧ M.1.2.2.2.2 ≤ st.length ∧ 64 ≤ b ∧ (r.map (fun v => v.category)).sum ≤ 8 then some (q.2, .ref b :: (st.take M.1.2.2.2.2).reverse, r) else none
    | _ => none)) else none
  | _ => none
def px_s5 (i : Instr) (len : Nat) (ret : Option FieldType) (st : List Value) : Option (Option Value) := match i, st with
  | .ireturn, [.int x] => (match ret with
    | some t => if len = 1 ∧ narrow t (.int x) = .int x then some (some (.int x)) else none
    | none => none)
  | .lreturn, [.long x] => if len = 1 ∧ ret = some .long then some (some (.long x)) else none
  | .return_, [] => if len = 1 ∧ ret = none then some none else none
  | _, _ => none
def px_step (cl : List vw_C) (lt : List (List Int32)) (P : List px_M) (d : Nat) (scr : Option (List Int32)) (M : px_M) (pc : Nat) (lv : List (Nat × Value)) (st : List Value) (w : px_W) : Option px_R :=
  (px_look M.2.1 pc).bind (fun q =>
    px_or ((px_s1 q.1 q.2 pc M.1.2.2.1 lv st).map (fun z => .inl (z.1, z.2.1, z.2.2, w, 0, 0)))
    (px_or ((px_s2 cl lt q.1 q.2 scr M.1.1.name M.1.1.cls M.2.2 st w).map (fun z => .inl (pc + q.2, lv, z.1, z.2.1, z.2.2)))
    (px_or ((px_s5 q.1 q.2 M.1.2.2.2.1 st).map (fun z => .inr (.inl z)))
    (px_or ((px_s3 q.1 q.2 d M.2.2 st w).map (fun z => .inl (pc + 3, lv, z.1, z.2, 0, 0)))
    (px_or ((px_s6 q.1 q.2 d M.2.2 st).map (fun z => .inl (pc + 3, lv, z, w, 0, 0)))
    ((px_s4 cl P q.1 q.2 M.2.2 st w).map (fun z => .inr (.inr z))))))))
def px_exec (cl : List vw_C) (lt : List (List Int32)) (P : List px_M) : Nat → Nat → Option (List Int32) → px_M → Nat → List (Nat × Value) → List Value → px_W → Nat × Nat → Option (Option Value × px_W × (Nat × Nat))
  | 0, _, _, _, _, _, _, _, _ => none
  | n + 1, d, scr, M, pc, lv, st, w, b => match px_step cl lt P d scr M pc lv st w with
    | none => none
    | some (.inl z) => if z.2.2.2.2.1 ≤ b.1 ∧ z.2.2.2.2.2 ≤ b.2 then px_exec cl lt P n d scr M z.1 z.2.1 z.2.2.1 z.2.2.2.1 (b.1 - z.2.2.2.2.1, b.2 - z.2.2.2.2.2) else none
    | some (.inr (.inl v)) => some (v, w, b)
    | some (.inr (.inr q)) => match d, P[q.1]? with
      | d' + 1, some M' => if (lg_sl q.2.1).length ≤ M'.1.2.2.1 then (match px_exec cl lt P n d' none M' 0 (lv_args 0 q.2.1) [] w b with
        | none => none
        | some r => px_exec cl lt P n d scr M (pc + 3) lv (r.1.toList ++ q.2.2) r.2.1 r.2.2) else none
      | _, _ => none
theorem px_mono {cl : List vw_C} {lt : List (List Int32)} {P : List px_M} : ∀ (n d : Nat) (scr : Option (List Int32)) (M : px_M) (pc : Nat) (lv : List (Nat × Value)) (st : List Value) (w : px_W) (b : Nat × Nat) (r : Option Value × px_W × (Nat × Nat)), px_exec cl lt P n d scr M pc lv st w b = some r → r.2.2.1 ≤ b.1 ∧ r.2.2.2 ≤ b.2
  | 0, _, _, _, _, _, _, _, _, _, h => by simp [px_exec] at h
  | n + 1, d, scr, M, pc, lv, st, w, b, r, h => by
    unfold px_exec at h
    split at h
    · cases h
    · split at h
      · have := px_mono n d scr M _ _ _ _ _ r h
        simp only at this
        omega
      · cases h
    · cases h
      exact ⟨Nat.le_refl _, Nat.le_refl _⟩
    · split at h
      · split at h
        · split at h
          · cases h
          · rename_i r2 h2
            have h3 := px_mono n _ none _ _ _ _ _ _ r2 h2
            have h4 := px_mono n _ scr M _ _ _ _ _ r h
            omega
        · cases h
      · cases h

end
end
section
noncomputable section
/-! THE MACHINE'S HEAP AND THE PURE CELLS -/
def px_tr (ad : Nat → Option Nat) (v : Value) : Value := match v with
  | .ref k => va_rf (ad k)
  | v => v
theorem px_tr_cat (ad : Nat → Option Nat) (v : Value) : (px_tr ad v).category = v.category := by
  cases v with
  | ref k =>
    show (va_rf (ad k)).category = 1
    cases ad k <;> rfl
  | _ => rfl
theorem px_tr_sum (ad : Nat → Option Nat) (l : List Value) : ((l.map (px_tr ad)).map fun v => v.category).sum = (l.map fun v => v.category).sum := by
  rw [List.map_map]
  congr 1
  exact List.map_congr_left (fun v _ => px_tr_cat ad v)
theorem px_tr_def (ad : Nat → Option Nat) (t : FieldType) : px_tr ad (defaultValue t) = defaultValue t := by cases t <;> rfl
def px_lv (ad : Nat → Option Nat) (lv : List (Nat × Value)) : List (Nat × Value) := lv.map (fun q => (q.1, px_tr ad q.2))
theorem px_sto_tr (ad : Nat → Option Nat) (lv : List (Nat × Value)) (i : Nat) (v : Value) : (i, px_tr ad v) :: (px_lv ad lv).filter (fun q => !(q.1 == i) && !(q.1 + 1 == i && q.2.category == 2)) = px_lv ad (px_sto lv i v) := by
  unfold px_lv px_sto
  rw [List.map_cons, List.filter_map]
  congr 2
  apply List.filter_congr
  intro q _
  show (!(q.1 == i) && !(q.1 + 1 == i && (px_tr ad q.2).category == 2)) = _
  rw [px_tr_cat]
theorem px_args_tr (ad : Nat → Option Nat) : ∀ (as : List Value) (i : Nat), lv_args i (as.map (px_tr ad)) = px_lv ad (lv_args i as)
  | [], _ => rfl
  | v :: vs, i => by
    show (i, px_tr ad v) :: lv_args (if (px_tr ad v).category = 2 then i + 2 else i + 1) (vs.map (px_tr ad)) = _
    rw [px_tr_cat, px_args_tr ad vs]
    rfl
theorem px_sl_tr (ad : Nat → Option Nat) : ∀ (as : List Value), (lg_sl (as.map (px_tr ad))).length = (lg_sl as).length
  | [] => rfl
  | v :: vs => by
    have ih := px_sl_tr ad vs
    unfold lg_sl at ih ⊢
    rw [List.map_cons, List.flatMap_cons, List.flatMap_cons, List.length_append, List.length_append, ih, px_tr_cat]
    congr 1
    split <;> rfl
def px_at (cl : List vw_C) (ad : Nat → Option Nat) (D : va_G) (cI cJ : ClassId) (a : Nat) (e : px_E) (H : Heap) : Prop := match e with
  | .inl l => H[a]? = some (vp_cell cI (l.length, .inl (fun j => l.getD j 0)))
  | .inr (.inl l) => H[a]? = some (vp_cell cJ (l.length, .inr (.inl (fun j => l.getD j 0))))
  | .inr (.inr o) => ∃ r : vw_C, cl[o.1]? = some r ∧ t_OB a (D.1 o.1) r.2.2 (D.2 o.1) H (vp_V (o.2.map (px_tr ad)))
def px_H (cl : List vw_C) (ad : Nat → Option Nat) (D : va_G) (cI cJ : ClassId) (B : Nat) (w : px_W) (H : Heap) : Prop := H.size = B + w.length ∧ ∀ (k : Nat) (e : px_E), w[k]? = some e → px_at cl ad D cI cJ (B + k) e H
theorem px_at.kept {cl : List vw_C} {ad : Nat → Option Nat} {D : va_G} {cI cJ : ClassId} {a : Nat} {e : px_E} {H H1 : Heap} (h : px_at cl ad D cI cJ a e H) (hq : H1[a]? = H[a]?) : px_at cl ad D cI cJ a e H1 := by
  match e, h with
  | .inl l, h => exact hq.trans h
  | .inr (.inl l), h => exact hq.trans h
  | .inr (.inr o), ⟨r, h1, h2⟩ => exact ⟨r, h1, h2.kept hq⟩
theorem px_H.set {cl : List vw_C} {ad : Nat → Option Nat} {D : va_G} {cI cJ : ClassId} {B k : Nat} {w : px_W} {e0 e : px_E} {H H1 : Heap} (h : px_H cl ad D cI cJ B w H) (hk : w[k]? = some e0) (hz : H1.size = H.size) (ho : ∀ q, q ≠ B + k → H1[q]? = H[q]?) (he : px_at cl ad D cI cJ (B + k) e H1) : px_H cl ad D cI cJ B (w.set k e) H1 := by
  have hl := (List.getElem?_eq_some_iff.mp hk).1
  refine ⟨by rw [hz, h.1, List.length_set], fun j x hj => ?_⟩
  by_cases hjk : j = k
  · subst hjk
    rw [List.getElem?_set_self hl] at hj
    cases hj
    exact he
  · rw [List.getElem?_set_ne (Ne.symm hjk)] at hj
    exact (h.2 j x hj).kept (ho _ (by omega))
theorem px_H.push {cl : List vw_C} {ad : Nat → Option Nat} {D : va_G} {cI cJ : ClassId} {B : Nat} {w : px_W} {e : px_E} {H H1 : Heap} (h : px_H cl ad D cI cJ B w H) (hz : H1.size = H.size + 1) (ho : ∀ q, q < H.size → H1[q]? = H[q]?) (he : px_at cl ad D cI cJ H.size e H1) : px_H cl ad D cI cJ B (w ++ [e]) H1 := by
  refine ⟨by rw [hz, h.1, List.length_append]; simp; omega, fun j x hj => ?_⟩
  by_cases hl : j < w.length
  · rw [List.getElem?_append_left hl] at hj
    exact (h.2 j x hj).kept (ho _ (by rw [h.1]; omega))
  · rw [List.getElem?_append_right (by omega)] at hj
    have hz0 : j - w.length < 1 := (List.getElem?_eq_some_iff.mp hj).1
    have hj0 : j = w.length := by omega
    subst hj0
    rw [Nat.sub_self] at hj
    cases hj
    rw [← h.1]
    exact he
theorem px_getD_set {α : Type} {l : List α} {k : Nat} {z d : α} (hk : k < l.length) (j : Nat) : (l.set k z).getD j d = if j = k then z else l.getD j d := by
  rw [List.getD_eq_getElem?_getD, List.getD_eq_getElem?_getD]
  by_cases h : j = k
  · subst h
    rw [if_pos rfl, List.getElem?_set_self hk]
    rfl
  · rw [if_neg h, List.getElem?_set_ne (Ne.symm h)]
theorem px_cell_set {cA : ClassId} {l : List Int32} {k : Nat} {z : Int32} (hk : k < l.length) : (vp_cell cA (l.length, .inl (fun j => l.getD j 0))).setSlot k (.int z) = vp_cell cA ((l.set k z).length, .inl (fun j => (l.set k z).getD j 0)) := by
  rw [vp_cell_i, vp_cell_i, arrV_store, List.length_set]
  congr 1
  funext j
  rw [px_getD_set hk]
  unfold updV
  split <;> rfl
theorem px_cell_setL {cA : ClassId} {l : List Int64} {k : Nat} {z : Int64} (hk : k < l.length) : (vp_cell cA (l.length, .inr (.inl (fun j => l.getD j 0)))).setSlot k (.long z) = vp_cell cA ((l.set k z).length, .inr (.inl (fun j => (l.set k z).getD j 0))) := by
  rw [vp_cell_l, vp_cell_l, arrV_store, List.length_set]
  congr 1
  funext j
  rw [px_getD_set hk]
  unfold updV
  split <;> rfl
theorem px_cpy_len {a b : List Int32} {sp dp n : Nat} (h1 : sp + n ≤ a.length) (h2 : dp + n ≤ b.length) : (px_cpy a b sp dp n).length = b.length := by
  unfold px_cpy
  simp only [List.length_append, List.length_take, List.length_drop]
  omega
theorem px_cpy_at {a b : List Int32} {sp dp n : Nat} (h1 : sp + n ≤ a.length) (h2 : dp + n ≤ b.length) (j : Nat) : (px_cpy a b sp dp n).getD j 0 = va_cpy (fun j => a.getD j 0) (fun j => b.getD j 0) sp dp n j := by
  unfold px_cpy va_cpy
  simp only [List.getD_eq_getElem?_getD]
  have l1 : (b.take dp).length = dp := by rw [List.length_take]; omega
  have l2 : ((a.drop sp).take n).length = n := by rw [List.length_take, List.length_drop]; omega
  by_cases c1 : j < dp
  · rw [List.getElem?_append_left (by omega), if_neg (by omega), List.getElem?_take_of_lt c1]
  · by_cases c2 : j < dp + n
    · rw [List.getElem?_append_right (by omega), l1, List.getElem?_append_left (by omega), if_pos (by omega), List.getElem?_take_of_lt (by omega), List.getElem?_drop]
    · rw [List.getElem?_append_right (by omega), l1, List.getElem?_append_right (by omega), l2, if_neg (by omega), List.getElem?_drop]
      congr 2
      omega
theorem px_fit_ok {t : FieldType} {v : Value} (ad : Nat → Option Nat) (h : px_fit t v = true) : narrow t (px_tr ad v) = px_tr ad v ∧ fits t (px_tr ad v) = true := by
  cases v with
  | int x =>
    unfold px_fit at h
    simp only [Bool.and_eq_true, decide_eq_true_eq] at h
    exact h
  | ref a =>
    unfold px_fit px_rt at h
    show narrow t (va_rf (ad a)) = va_rf (ad a) ∧ fits t (va_rf (ad a)) = true
    cases t <;> first | (cases ad a <;> exact ⟨rfl, rfl⟩) | simp at h
  | _ => simp [px_fit] at h
/-! what the tables must say of a program -/
def px_okK (Ts : List Cond) (r : vw_C) : Prop := (∀ w ∈ u_ws r.1 r.2.1 r.2.2, w ∈ Ts) ∧ (∀ k, k < r.2.2 → parseFieldDescriptor (r.2.1 k).2.2.1 = some (px_ty r.2.1 k)) ∧ (∀ a, a < r.2.2 → ∀ b, b < r.2.2 → a ≠ b → (r.2.1 a).2.1 ≠ (r.2.1 b).2.1) ∧ Cond.instantiable r.1 r.2.2 ∈ Ts ∧ Cond.initialized r.1 ∈ Ts
def px_okF (Ts : List Cond) (cl : List vw_C) (own : String) (q : Nat × Nat × Nat) : Prop := ∃ r : vw_C, cl[q.2.1]? = some r ∧ q.2.2 < r.2.2 ∧ Cond.fieldLink own q.1 (r.2.1 q.2.2).1 (r.2.1 q.2.2).2.1 (r.2.1 q.2.2).2.2.1 ∈ Ts
def px_okC (Ts Ns : List Cond) (P : List px_M) (own : String) (q : Nat × Nat × Nat) : Prop :=
  (q.2.1 = 6 → Cond.methodLink own q.1 arraycopyName ∈ Ts ∧ Cond.native arraycopyName ∈ Ts ∧ Cond.static arraycopyName ∈ Ts ∧ Cond.initialized "java/lang/System" ∈ Ts) ∧
  (q.2.1 = 7 → Cond.methodLink own q.1 objectInit ∈ Ts ∧ Cond.instanceMethod objectInit ∈ Ts ∧ Cond.code objectInit ⟨#[0xb1]⟩ 1 none ∈ Ts) ∧
  (∀ M : px_M, P[q.2.2]? = some M → (q.2.1 = 0 → Cond.methodLink own q.1 M.1.1 ∈ Ts ∧ Cond.instanceMethod M.1.1 ∈ Ts ∧ Cond.selects M.1.1.cls M.1.1 M.1.1 ∈ Ts) ∧
    (q.2.1 = 1 → Cond.methodLink own q.1 M.1.1 ∈ Ts ∧ Cond.static M.1.1 ∈ Ts) ∧
    (q.2.1 = 2 → Cond.methodLink own q.1 M.1.1 ∈ Ts ∧ M.1.1.name = "<init>" ∧ Cond.instanceMethod M.1.1 ∈ Ts ∧ M.1.2.2.2.1 = none) ∧
    (q.2.1 = 4 → Cond.methodLinkNest own q.1 M.1.1 "HalfBoats" ∈ Ns ∧ Cond.static M.1.1 ∈ Ts) ∧
    (q.2.1 = 5 → Cond.methodLinkNest own q.1 M.1.1 "HalfBoats" ∈ Ns ∧ M.1.1.name = "<init>" ∧ Cond.instanceMethod M.1.1 ∈ Ts ∧ M.1.2.2.2.1 = none)) ∧
  (q.2.1 = 8 → Cond.methodLink own q.1 Lib.Math.max.name ∈ Ts ∧ Cond.static Lib.Math.max.name ∈ Ts ∧ Cond.initialized "java/lang/Math" ∈ Ts ∧ Cond.code Lib.Math.max.name Lib.Math.max.code 2 (some .int) ∈ Ts) ∧
  (q.2.1 = 9 → Cond.methodLink own q.1 Lib.Math.min.name ∈ Ts ∧ Cond.static Lib.Math.min.name ∈ Ts ∧ Cond.initialized "java/lang/Math" ∈ Ts ∧ Cond.code Lib.Math.min.name Lib.Math.min.code 2 (some .int) ∈ Ts) ∧
  (q.2.1 = 10 → Cond.methodLink own q.1 Lib.Math.abs.name ∈ Ts ∧ Cond.static Lib.Math.abs.name ∈ Ts ∧ Cond.initialized "java/lang/Math" ∈ Ts ∧ Cond.code Lib.Math.abs.name Lib.Math.abs.code 1 (some .int) ∈ Ts)
def px_okL (Ts Ns : List Cond) (cl : List vw_C) (SL : List (String × Nat × Nat)) (P : List px_M) (own : String) (L : px_L) : Prop :=
  (∀ q ∈ L.1, px_okF Ts cl own q) ∧ (∀ q ∈ L.2.1, px_okC Ts Ns P own q) ∧ (∀ q ∈ L.2.2.1, ∃ r : vw_C, cl[q.2]? = some r ∧ Cond.classLink own q.1 r.1 ∈ Ts) ∧ (∀ q ∈ L.2.2.2.1, Cond.constant own q.1 q.2 ∈ Ts) ∧ (∀ q ∈ L.2.2.2.2.1, Cond.constantLong own q.1 q.2 ∈ Ts) ∧ (∀ q ∈ L.2.2.2.2.2.1, (own, q.1, q.2) ∈ SL) ∧
  (∀ q ∈ L.2.2.2.2.2.2.1, (q.2 = 0 → Cond.fieldLink own q.1 "java/lang/String" "COMPACT_STRINGS" "Z" ∈ Ts) ∧ (q.2 = 1 → Cond.fieldLink own q.1 "jdk/internal/util/Preconditions" "SIOOBE_FORMATTER" "Ljava/util/function/BiFunction;" ∈ Ts)) ∧
  ∀ q ∈ L.2.2.2.2.2.2.2, (q.2 = 0 → Cond.fieldLink own q.1 "java/lang/String" "value" "[B" ∈ Ts) ∧ (q.2 = 1 → Cond.fieldLink own q.1 "java/lang/String" "coder" "B" ∈ Ts)
def px_okM (Ts Ns : List Cond) (cl : List vw_C) (SL : List (String × Nat × Nat)) (P : List px_M) (M : px_M) : Prop :=
  (Cond.code M.1.1 M.1.2.1 M.1.2.2.1 M.1.2.2.2.1 ∈ Ts ∧ plainName M.1.1.cls = true ∧ Cond.initialized M.1.1.cls ∈ Ts ∧ (M.1.1.cls ≠ "java/lang/invoke/MethodHandle" ∧ M.1.1.cls ≠ "java/lang/invoke/VarHandle" ∧ (parseMethodDescriptor M.1.1.desc).map (fun d => d.parameters.length) = some M.1.2.2.2.2) ∧ M.1.2.2.1 ≤ 64) ∧
  (∀ q ∈ M.2.1, decode M.1.2.1 q.1 = .ok q.2) ∧ px_okL Ts Ns cl SL P M.1.1.cls M.2.2
def px_okP (Ts Ns : List Cond) (cl : List vw_C) (SL : List (String × Nat × Nat)) (P : List px_M) : Prop :=
  (∀ r ∈ cl, px_okK Ts r) ∧ (∀ M ∈ P, px_okM Ts Ns cl SL P M) ∧ Cond.arrayClass .int ∈ Ts ∧ Cond.arrayClass .long ∈ Ts ∧ (∀ w ∈ Ts, goodWord w = true) ∧ ∀ x ∈ Ns, ∃ (a : String) (i : Nat) (y : MethodName) (h : String), x = Cond.methodLinkNest a i y h
/-- what holds all through a method's body -/
def px_Env (Ts Ns : List Cond) (cl : List vw_C) (D : va_G) (cI cJ : ClassId) (h : px_Hd) (p : Program) (s : State) (m : MethodId) (args : Array Value) (meth : Method) (c : Code) : Prop :=
  p.tables.exec = Jvm.exec ∧ c.code = h.2.1 ∧ c.maxLocals = h.2.2.1 ∧ meth.sig.returnType = h.2.2.2.1 ∧ meth.locks = false ∧ (h.1.name = "<init>" → meth.name = "<init>") ∧ s.vm.findClass h.1.cls = some m.cls ∧ (∀ w ∈ Ts, w.before args s = true) ∧ va_K D cl [(cI, .int), (cJ, .long)] s ∧ ∀ x ∈ Ns, va_Nw x s
/-- texts and statics, which nobody writes -/
def px_X (lt : List (List Int32)) (SL : List (String × Nat × Nat)) (ad : Nat → Option Nat) (B : Nat) (U : State) (H : Heap) : Prop := ∃ (adK adV : Nat → Nat), (∀ j, j < 16 → ad (1 + j) = some (adK j) ∧ ad (17 + j) = some (adV j)) ∧ vk_S 16 (lt.map List.length) lt adK adV (fun q => B ≤ q) U H ∧ (∀ q ∈ SL, q.2.2 < 16 ∧ ∃ tx, vk_R q.1 q.2.1 tx (adK q.2.2) U) ∧ va_Z "java/lang/String" "COMPACT_STRINGS" "Z" (.int 1) (fun q => B ≤ q) U H ∧ va_Z "jdk/internal/util/Preconditions" "SIOOBE_FORMATTER" "Ljava/util/function/BiFunction;" (va_rf (ad 33)) (fun q => B ≤ q) U H
theorem px_X.to {lt : List (List Int32)} {SL : List (String × Nat × Nat)} {ad : Nat → Option Nat} {B : Nat} {u U : State} {H H1 : Heap} (hW : u.WarmedH U.vm) (hf : ∀ q, q < B → H1[q]? = H[q]?) (h : px_X lt SL ad B u H) : px_X lt SL ad B U H1 := by
  obtain ⟨adK, adV, h1, h2, h3, h4, h5⟩ := h
  have hk : ∀ a : Nat, a < H.size → ¬ B ≤ a → H1[a]? = H[a]? := fun a _ z => hf a (Nat.not_le.mp z)
  exact ⟨adK, adV, h1, (h2.moved hW.alike).kept hk, fun q hq => ⟨(h3 q hq).1, (h3 q hq).2.elim (fun tx z => ⟨tx, z.warm hW⟩)⟩, (h4.moved hW.alike).kept hk, (h5.moved hW.alike).kept hk⟩
theorem px_X.same {lt : List (List Int32)} {SL : List (String × Nat × Nat)} {ad : Nat → Option Nat} {B : Nat} {u U : State} {H : Heap} (hv : U.vm = u.vm) (h : px_X lt SL ad B u H) : px_X lt SL ad B U H := by
  obtain ⟨adK, adV, h1, h2, h3, h4, h5⟩ := h
  have ha : u.vm.Alike U.vm := by rw [hv]; exact Vm.Alike.refl _
  exact ⟨adK, adV, h1, h2.moved ha, fun q hq => ⟨(h3 q hq).1, (h3 q hq).2.elim (fun tx z => ⟨tx, z.same hv⟩)⟩, h4.moved ha, h5.moved ha⟩

end
end
section
noncomputable section
/-! ROWS: what needs neither cells nor the pool -/
section PX1
variable {p : Program} {l : Launch} {e : Env} {R : Room} {s : State} {m : MethodId} {args : Array Value} {below : List Frame} {meth : Method} {c : Code} {H : Heap} {locs : List Loc} {cells slots : Nat} {Q : State → Prop}
variable {cc : ByteArray} {pc : Nat} {ls : Array Slot} {rest : List Value}
theorem px_bin_W (hx : p.tables.exec = Jvm.exec) (hb : c.code = cc) {i : Instr} {x y z : Int32} (hd : decode cc pc = .ok (i, 1)) (hz : px_bin i x y = some z)
    (k : W p l e R s m args below meth c H locs cells slots Q (F0 m (pc + 1) ls (.int z :: rest))) : W p l e R s m args below meth c H locs cells slots Q (F0 m pc ls (.int y :: .int x :: rest)) := by
  unfold px_bin at hz
  split at hz
  · cases hz; exact lv_iadd hx hb hd k
  · cases hz; exact lv_isub hx hb hd k
  · cases hz; exact lv_imul hx hb hd k
  · cases hz; exact lv_iand hx hb hd k
  · cases hz; exact lv_ior hx hb hd k
  · cases hz; exact lv_ixor hx hb hd k
  · cases hz; exact lv_ishl hx hb hd k
  · cases hz; exact lv_ishr hx hb hd k
  · cases hz; exact lv_iushr hx hb hd rfl k
  · split at hz
    · cases hz
    · rename_i hne
      cases hz; exact lv_idiv hx hb hd hne k
  · split at hz
    · cases hz
    · rename_i hne
      cases hz; exact lv_irem hx hb hd hne k
  · cases hz
theorem px_un_W (hx : p.tables.exec = Jvm.exec) (hb : c.code = cc) (ad : Nat → Option Nat) {i : Instr} {v z : Value} (hd : decode cc pc = .ok (i, 1)) (hz : px_un i v = some z)
    (k : W p l e R s m args below meth c H locs cells slots Q (F0 m (pc + 1) ls (px_tr ad z :: rest))) : W p l e R s m args below meth c H locs cells slots Q (F0 m pc ls (px_tr ad v :: rest)) := by
  unfold px_un at hz
  split at hz
  · cases hz; exact lv_ineg hx hb hd k
  · cases hz; exact lv_i2l hx hb hd rfl k
  · cases hz; exact lv_i2b hx hb hd rfl k
  · cases hz; exact lv_i2s hx hb hd rfl k
  · cases hz; exact lv_i2c hx hb hd rfl k
  · cases hz; exact lv_l2i hx hb hd rfl k
  · cases hz
theorem px_lb_W (hx : p.tables.exec = Jvm.exec) (hb : c.code = cc) (ad : Nat → Option Nat) {i : Instr} {x z : Int64} {v : Value} (hd : decode cc pc = .ok (i, 1)) (hz : px_lb i x v = some z)
    (k : W p l e R s m args below meth c H locs cells slots Q (F0 m (pc + 1) ls (.long z :: rest))) : W p l e R s m args below meth c H locs cells slots Q (F0 m pc ls (px_tr ad v :: .long x :: rest)) := by
  unfold px_lb at hz
  split at hz
  · cases hz; exact lv_land hx hb hd k
  · cases hz; exact lv_lor hx hb hd k
  · cases hz; exact lv_lshl hx hb hd rfl k
  · cases hz; exact lv_lshr hx hb hd rfl k
  · cases hz
theorem px_cst_W (hx : p.tables.exec = Jvm.exec) (hb : c.code = cc) (ad : Nat → Option Nat) {i : Instr} {q : Value × Nat} (hd : decode cc pc = .ok (i, q.2)) (hz : px_cst i = some q)
    (k : W p l e R s m args below meth c H locs cells slots Q (F0 m (pc + q.2) ls (px_tr ad q.1 :: rest))) : W p l e R s m args below meth c H locs cells slots Q (F0 m pc ls rest) := by
  unfold px_cst at hz
  split at hz
  · cases hz; exact lv_iconst hx hb hd rfl k
  · cases hz; exact lv_bipush hx hb hd rfl k
  · cases hz; exact lv_sipush hx hb hd rfl k
  · cases hz; exact lv_lconst hx hb hd rfl k
  · cases hz
theorem px_so_int {v : Value} (h : px_so v = 0) : ∃ x, v = .int x := by
  cases v with
  | int x => exact ⟨x, rfl⟩
  | _ => simp [px_so] at h
theorem px_so_long {v : Value} (h : px_so v = 1) : ∃ x, v = .long x := by
  cases v with
  | long x => exact ⟨x, rfl⟩
  | _ => simp [px_so] at h
theorem px_so_ref {v : Value} (h : px_so v = 2) : ∃ x, v = .ref x := by
  cases v with
  | ref x => exact ⟨x, rfl⟩
  | _ => simp [px_so] at h
theorem px_ld_W (hx : p.tables.exec = Jvm.exec) (hb : c.code = cc) (ad : Nat → Option Nat) {i : Instr} {q : Nat × Nat × Nat} {v : Value} (hd : decode cc pc = .ok (i, q.2.1)) (hz : px_ld i = some q) (hv : px_so v = q.2.2) (hl : ls[q.1]? = some (.val (px_tr ad v)))
    (k : W p l e R s m args below meth c H locs cells slots Q (F0 m (pc + q.2.1) ls (px_tr ad v :: rest))) : W p l e R s m args below meth c H locs cells slots Q (F0 m pc ls rest) := by
  unfold px_ld at hz
  split at hz
  · cases hz
    obtain ⟨x, rfl⟩ := px_so_int hv
    exact lv_iload_n hx hb hd rfl hl k
  · cases hz
    obtain ⟨x, rfl⟩ := px_so_int hv
    exact lv_iload hx hb hd hl k
  · cases hz
    obtain ⟨x, rfl⟩ := px_so_long hv
    exact lv_lload_n hx hb hd rfl hl k
  · cases hz
    obtain ⟨x, rfl⟩ := px_so_long hv
    exact lv_lload hx hb hd hl k
  · cases hz
    obtain ⟨x, rfl⟩ := px_so_ref hv
    simp only [px_tr] at hl k
    cases hx2 : ad x with
    | none => rw [hx2] at hl k; exact lv_aload_nN hx hb hd rfl hl k
    | some a => rw [hx2] at hl k; exact lv_aload_n hx hb hd rfl hl k
  · cases hz
    obtain ⟨x, rfl⟩ := px_so_ref hv
    simp only [px_tr] at hl k
    cases hx2 : ad x with
    | none => rw [hx2] at hl k; exact lv_aloadN hx hb hd hl k
    | some a => rw [hx2] at hl k; exact lv_aload hx hb hd hl k
  · cases hz
theorem px_st_W (hx : p.tables.exec = Jvm.exec) (hb : c.code = cc) (ad : Nat → Option Nat) {i : Instr} {q : Nat × Nat × Nat} {v : Value} {mx : Nat} {lv : List (Nat × Value)} (hd : decode cc pc = .ok (i, q.2.1)) (hz : px_st i = some q) (hv : px_so v = q.2.2) (hn : q.1 < mx) (hl : lv_has ls mx (px_lv ad lv))
    (k : ∀ ls' : Array Slot, lv_has ls' mx (px_lv ad (px_sto lv q.1 v)) → W p l e R s m args below meth c H locs cells slots Q (F0 m (pc + q.2.1) ls' rest)) : W p l e R s m args below meth c H locs cells slots Q (F0 m pc ls (px_tr ad v :: rest)) := by
  have hs := px_sto_tr ad lv q.1 v
  unfold px_st at hz
  split at hz
  · cases hz
    obtain ⟨x, rfl⟩ := px_so_int hv
    exact lv_istore_n hx hb hd rfl hl hn hs k
  · cases hz
    obtain ⟨x, rfl⟩ := px_so_int hv
    exact lv_istore hx hb hd hl hn hs k
  · cases hz
    obtain ⟨x, rfl⟩ := px_so_ref hv
    have e1 : px_tr ad (.ref x) = va_rf (ad x) := rfl
    rw [e1] at hs ⊢
    cases hx2 : ad x with
    | none => rw [hx2] at hs; exact lv_astore_nN hx hb hd rfl hl hn hs k
    | some a => rw [hx2] at hs; exact lv_astore_n hx hb hd rfl hl hn hs k
  · cases hz
    obtain ⟨x, rfl⟩ := px_so_ref hv
    have e1 : px_tr ad (.ref x) = va_rf (ad x) := rfl
    rw [e1] at hs ⊢
    cases hx2 : ad x with
    | none => rw [hx2] at hs; exact lv_astoreN hx hb hd hl hn hs k
    | some a => rw [hx2] at hs; exact lv_astore hx hb hd hl hn hs k
  · cases hz
theorem px_stk_W (hx : p.tables.exec = Jvm.exec) (hb : c.code = cc) (ad : Nat → Option Nat) {i : Instr} {st r : List Value} (hd : decode cc pc = .ok (i, 1)) (hz : px_stk i st = some r)
    (k : W p l e R s m args below meth c H locs cells slots Q (F0 m (pc + 1) ls (r.map (px_tr ad)))) : W p l e R s m args below meth c H locs cells slots Q (F0 m pc ls (st.map (px_tr ad))) := by
  unfold px_stk at hz
  split at hz
  · split at hz
    · rename_i h1
      cases hz; exact lv_dup hx hb hd ((px_tr_cat ad _).trans h1) k
    · cases hz
  · split at hz
    · rename_i h1
      cases hz; exact lv_pop hx hb hd ((px_tr_cat ad _).trans h1) k
    · cases hz
  · split at hz
    · rename_i h1
      cases hz; exact lv_dup_x1 hx hb hd ((px_tr_cat ad _).trans h1.1) ((px_tr_cat ad _).trans h1.2) k
    · cases hz
  · split at hz
    · rename_i h1
      cases hz; exact lv_dup2_11 hx hb hd ((px_tr_cat ad _).trans h1.1) ((px_tr_cat ad _).trans h1.2) k
    · cases hz
  · cases hz
theorem px_tgt_eq {pc t : Nat} {off : Int} (h : px_tgt pc off = some t) : (pc : Int) + off = (t : Int) := by
  unfold px_tgt at h
  split at h
  · cases h
    omega
  · cases h
theorem px_if_W (hx : p.tables.exec = Jvm.exec) (hb : c.code = cc) {k : Jvm.ClassFile.Cond} {x : Int32} {off : Int} {t : Nat} (hd : decode cc pc = .ok (.ifCond k off, 3)) (ht : (pc : Int) + off = (t : Int))
    (kk : W p l e R s m args below meth c H locs cells slots Q (F0 m (if px_cnd k x 0 = true then t else pc + 3) ls rest)) : W p l e R s m args below meth c H locs cells slots Q (F0 m pc ls (.int x :: rest)) := by
  have kt : px_cnd k x 0 = true → W p l e R s m args below meth c H locs cells slots Q (F0 m t ls rest) := fun h => by rw [if_pos h] at kk; exact kk
  have kf : ¬ px_cnd k x 0 = true → W p l e R s m args below meth c H locs cells slots Q (F0 m (pc + 3) ls rest) := fun h => by rw [if_neg h] at kk; exact kk
  cases k
  · exact lv_if_eq hx hb hd ht (fun h => kt (decide_eq_true h)) (fun h => kf (fun z => h (of_decide_eq_true z)))
  · exact lv_if_ne hx hb hd ht (fun h => kt (decide_eq_true h)) (fun h => kf (fun z => (of_decide_eq_true z : ¬ x = 0) h))
  · exact lv_if_lt hx hb hd ht (fun h => kt (decide_eq_true h)) (fun h => kf (fun z => h (of_decide_eq_true z)))
  · exact lv_if_ge hx hb hd ht (fun h => kt (decide_eq_true h)) (fun h => kf (fun z => h (of_decide_eq_true z)))
  · exact lv_if_gt hx hb hd ht (fun h => kt (decide_eq_true h)) (fun h => kf (fun z => h (of_decide_eq_true z)))
  · exact lv_if_le hx hb hd ht (fun h => kt (decide_eq_true h)) (fun h => kf (fun z => h (of_decide_eq_true z)))
theorem px_icmp_W (hx : p.tables.exec = Jvm.exec) (hb : c.code = cc) {k : Jvm.ClassFile.Cond} {x y : Int32} {off : Int} {t : Nat} (hd : decode cc pc = .ok (.if_icmp k off, 3)) (ht : (pc : Int) + off = (t : Int))
    (kk : W p l e R s m args below meth c H locs cells slots Q (F0 m (if px_cnd k x y = true then t else pc + 3) ls rest)) : W p l e R s m args below meth c H locs cells slots Q (F0 m pc ls (.int y :: .int x :: rest)) := by
  have kt : px_cnd k x y = true → W p l e R s m args below meth c H locs cells slots Q (F0 m t ls rest) := fun h => by rw [if_pos h] at kk; exact kk
  have kf : ¬ px_cnd k x y = true → W p l e R s m args below meth c H locs cells slots Q (F0 m (pc + 3) ls rest) := fun h => by rw [if_neg h] at kk; exact kk
  cases k
  · exact lv_icmp_eq hx hb hd ht (fun h => kt (decide_eq_true h)) (fun h => kf (fun z => h (of_decide_eq_true z)))
  · exact lv_icmp_ne hx hb hd ht (fun h => kt (decide_eq_true h)) (fun h => kf (fun z => (of_decide_eq_true z : ¬ x = y) h))
  · exact lv_icmp_lt hx hb hd ht (fun h => kt (decide_eq_true h)) (fun h => kf (fun z => h (of_decide_eq_true z)))
  · exact lv_icmp_ge hx hb hd ht (fun h => kt (decide_eq_true h)) (fun h => kf (fun z => h (of_decide_eq_true z)))
  · exact lv_icmp_gt hx hb hd ht (fun h => kt (decide_eq_true h)) (fun h => kf (fun z => h (of_decide_eq_true z)))
  · exact lv_icmp_le hx hb hd ht (fun h => kt (decide_eq_true h)) (fun h => kf (fun z => h (of_decide_eq_true z)))
theorem px_br_W (hx : p.tables.exec = Jvm.exec) (hb : c.code = cc) (ad : Nat → Option Nat) {i : Instr} {len : Nat} {st : List Value} {q : Nat × List Value} (hd : decode cc pc = .ok (i, len)) (hz : px_br i pc len st = some q)
    (k : W p l e R s m args below meth c H locs cells slots Q (F0 m q.1 ls (q.2.map (px_tr ad)))) : W p l e R s m args below meth c H locs cells slots Q (F0 m pc ls (st.map (px_tr ad))) := by
  unfold px_br at hz
  split at hz
  · split at hz
    · rename_i hl
      subst hl
      obtain ⟨t, ht, hq⟩ := Option.map_eq_some_iff.mp hz
      subst hq
      exact lv_goto hx hb hd (px_tgt_eq ht) k
    · cases hz
  · split at hz
    · rename_i hl
      subst hl
      obtain ⟨t, ht, hq⟩ := Option.map_eq_some_iff.mp hz
      subst hq
      exact px_if_W hx hb hd (px_tgt_eq ht) k
    · cases hz
  · split at hz
    · rename_i hl
      subst hl
      obtain ⟨t, ht, hq⟩ := Option.map_eq_some_iff.mp hz
      subst hq
      exact px_icmp_W hx hb hd (px_tgt_eq ht) k
    · cases hz
  · split at hz
    · rename_i hc
      obtain ⟨t, ht, hq⟩ := Option.map_eq_some_iff.mp hz
      subst hq
      exact lv_tableOut hx hb hd hc (px_tgt_eq ht) k
    · rename_i hc
      obtain ⟨t, ht, hq⟩ := Option.map_eq_some_iff.mp hz
      subst hq
      obtain ⟨o, ho, ht⟩ := Option.bind_eq_some_iff.mp ht
      exact lv_tableIn hx hb hd (fun z => hc (Or.inl z)) (fun z => hc (Or.inr z)) ho (px_tgt_eq ht) k
  · cases hz
theorem px_W1 (hx : p.tables.exec = Jvm.exec) (hb : c.code = cc) (ad : Nat → Option Nat) {i : Instr} {len mx : Nat} {lv : List (Nat × Value)} {st : List Value} {z : Nat × List (Nat × Value) × List Value} (hd : decode cc pc = .ok (i, len)) (hz : px_s1 i len pc mx lv st = some z) (hl : lv_has ls mx (px_lv ad lv))
    (k : ∀ ls' : Array Slot, lv_has ls' mx (px_lv ad z.2.1) → W p l e R s m args below meth c H locs cells slots Q (F0 m z.1 ls' (z.2.2.map (px_tr ad)))) : W p l e R s m args below meth c H locs cells slots Q (F0 m pc ls (st.map (px_tr ad))) := by
  have hat : ∀ (j : Nat) (v : Value), px_look lv j = some v → (j, px_tr ad v) ∈ px_lv ad lv := fun j v h => List.mem_map.mpr ⟨(j, v), px_look_mem h, rfl⟩
  unfold px_s1 at hz
  have hz1 := px_or_some hz
  clear hz
  rcases hz1 with h | hz
  · split at h
    · split at h
      · rename_i hl1
        rw [hl1] at hd
        obtain ⟨t, ht, hq⟩ := Option.map_eq_some_iff.mp h
        subst hq
        exact px_bin_W hx hb hd ht (k ls hl)
      · cases h
    · cases h
  have hz1 := px_or_some hz
  clear hz
  rcases hz1 with h | hz
  · obtain ⟨q, hq, h⟩ := Option.bind_eq_some_iff.mp h
    obtain ⟨v, hv, h⟩ := Option.bind_eq_some_iff.mp h
    split at h
    · rename_i hc
      cases h
      rw [hc.1] at hd k
      exact px_ld_W hx hb ad hd hq hc.2 (hl.2.2 _ (hat _ _ hv)) (k ls hl)
    · cases h
  have hz1 := px_or_some hz
  clear hz
  rcases hz1 with h | hz
  · obtain ⟨q, hq, h⟩ := Option.bind_eq_some_iff.mp h
    split at h
    · rename_i hc
      cases h
      rw [hc] at hd k
      exact px_cst_W hx hb ad hd hq (k ls hl)
    · cases h
  have hz1 := px_or_some hz
  clear hz
  rcases hz1 with h | hz
  · obtain ⟨q, hq, h⟩ := Option.map_eq_some_iff.mp h
    subst h
    exact px_br_W hx hb ad hd hq (k ls hl)
  have hz1 := px_or_some hz
  clear hz
  rcases hz1 with h | hz
  · split at h
    · obtain ⟨q, hq, h⟩ := Option.bind_eq_some_iff.mp h
      split at h
      · rename_i hc
        cases h
        rw [hc.1] at hd k
        exact px_st_W hx hb ad hd hq hc.2.1 hc.2.2 hl k
      · cases h
    · cases h
  have hz1 := px_or_some hz
  clear hz
  rcases hz1 with h | hz
  · split at h
    · obtain ⟨v, hv, h⟩ := Option.bind_eq_some_iff.mp h
      split at h
      · split at h
        · rename_i hc
          cases h
          rw [hc.1] at hd
          obtain ⟨j, hj⟩ := List.getElem?_of_mem (hat _ _ hv)
          exact lv_iinc hx hb hd hl hj rfl hc.2 (px_sto_tr ad lv _ (.int _)) k
        · cases h
      · cases h
    · cases h
  have hz1 := px_or_some hz
  clear hz
  rcases hz1 with h | hz
  · split at h
    · rename_i hc
      rw [hc] at hd
      obtain ⟨q, hq, h2⟩ := Option.map_eq_some_iff.mp h
      clear h
      subst h2
      exact px_stk_W hx hb ad hd hq (k ls hl)
    · cases h
  have hz1 := px_or_some hz
  clear hz
  rcases hz1 with h | h
  · split at h
    · split at h
      · rename_i hc
        rw [hc] at hd
        obtain ⟨q, hq, h2⟩ := Option.map_eq_some_iff.mp h
        clear h
        subst h2
        exact px_un_W hx hb ad hd hq (k ls hl)
      · cases h
    · cases h
  · split at h
    · split at h
      · rename_i hc
        rw [hc] at hd
        obtain ⟨q, hq, h2⟩ := Option.map_eq_some_iff.mp h
        clear h
        subst h2
        exact px_lb_W hx hb ad hd hq (k ls hl)
      · cases h
    · cases h
end PX1

end
end
section
noncomputable section
/-! ROWS: cells and the pool -/
section PX2
variable {p : Program} {l : Launch} {e : Env} {R : Room} {s : State} {m : MethodId} {args : Array Value} {below : List Frame} {meth : Method} {c : Code} {H : Heap} {locs : List Loc} {cells slots : Nat} {Q : State → Prop}
variable {cc : ByteArray} {pc : Nat} {ls : Array Slot} {rest : List Value} {cl : List vw_C} {ad : Nat → Option Nat} {D : va_G} {cI cJ : ClassId} {B : Nat} {w : px_W} {tys : List (ClassId × FieldType)} {Ts : List Cond} {own : String}
theorem px_get_W (hx : p.tables.exec = Jvm.exec) (hb : c.code = cc) (hts : ∀ w ∈ Ts, w.before args s = true) (hown : s.vm.findClass own = some m.cls) (hK : va_K D cl tys s) {r : vw_C} {ci k index a : Nat} (hc : cl[ci]? = some r) (hr : px_okK Ts r) (hk : k < r.2.2) (hlink : Cond.fieldLink own index (r.2.1 k).1 (r.2.1 k).2.1 (r.2.1 k).2.2.1 ∈ Ts) {fs : List Value} (he : px_at cl ad D cI cJ a (.inr (.inr (ci, fs))) H) {v : Value} (hv : fs[k]? = some v) (hdg : decode cc pc = .ok (.getfield index, 3))
    (kk : W p l e R s m args below meth c H locs cells slots Q (F0 m (pc + 3) ls (px_tr ad v :: rest))) : W p l e R s m args below meth c H locs cells slots Q (F0 m pc ls (.ref a :: rest)) := by
  obtain ⟨r', h1, cell, q1, q2, q3, q4⟩ := he
  have hr' : r' = r := Option.some.inj (h1.symm.trans hc)
  subst hr'
  obtain ⟨hS, hfc, kC, hkC, hkind⟩ := hK.1 ci _ hc
  obtain ⟨cf, kf, fi, f, hi, hsl⟩ := hS k hk
  refine W.getf hx hb hown (hts _ hlink) hi (u_facts hfc hkC (u_lays hts hr.1 hk) hi).1 q1 (by rw [q3]; exact fun h => by cases h) (v := px_tr ad v) ?_ rfl rfl hdg kk
  rw [hsl, q4 k hk]
  simp [vp_V, hv]
theorem px_put_W (hx : p.tables.exec = Jvm.exec) (hb : c.code = cc) (hts : ∀ w ∈ Ts, w.before args s = true) (hown : s.vm.findClass own = some m.cls) (hK : va_K D cl tys s) {r : vw_C} {ci k index j : Nat} (hc : cl[ci]? = some r) (hr : px_okK Ts r) (hk : k < r.2.2) (hlink : Cond.fieldLink own index (r.2.1 k).1 (r.2.1 k).2.1 (r.2.1 k).2.2.1 ∈ Ts) {fs : List Value} (hH : px_H cl ad D cI cJ B w H) (he : w[j]? = some (.inr (.inr (ci, fs)))) {v : Value} (hl : k < fs.length) (hf : px_fit (px_ty r.2.1 k) v = true) (hfin : (r.2.1 k).2.2.2 = true → meth.name = "<init>" ∧ (r.2.1 k).1 = own) (hdg : decode cc pc = .ok (.putfield index, 3))
    (kk : ∀ (H1 : Heap) (f : Field), px_H cl ad D cI cJ B (w.set j (.inr (.inr (ci, fs.set k v)))) H1 → (∀ q, q < B → H1[q]? = H[q]?) → W p l e R s m args below meth c H1 (locs ++ [⟨B + j, f.slot⟩]) cells slots Q (F0 m (pc + 3) ls rest)) : W p l e R s m args below meth c H locs cells slots Q (F0 m pc ls (px_tr ad v :: .ref (B + j) :: rest)) := by
  obtain ⟨hn, hft⟩ := px_fit_ok ad hf
  have hap := va_apart (own := own) hts hr.1 (px_ty r.2.1) hr.2.1 hr.2.2.1 hK hc
  obtain ⟨r', h1, cell, q1, q2, q3, q4⟩ := hH.2 j _ he
  have hr' : r' = r := Option.some.inj (h1.symm.trans hc)
  subst hr'
  obtain ⟨hS, hfc, kC, hkC, hkind⟩ := hK.1 ci _ hc
  obtain ⟨cf, kf, fi, f, hi, hsl⟩ := hS k hk
  have hlay := hts _ (hr.1 _ (u_in_lay hk))
  have hst := (u_facts hfc hkC (u_lays hts hr.1 hk) hi).1
  have hd := hr.2.1 k hk
  have fin : ∀ H' : Heap, H'[B + j]? = some (cell.setSlot f.slot (px_tr ad v)) → H'.size = H.size → (∀ q, q ≠ B + j → H'[q]? = H[q]?) → W p l e R s m args below meth c H' (locs ++ [⟨B + j, f.slot⟩]) cells slots Q (F0 m (pc + 3) ls rest) := by
    intro H' e1 e2 e3
    refine kk H' f (hH.set he e2 e3 ⟨_, hc, ?_⟩) (fun q hq => e3 q (by omega))
    rw [hsl] at e1
    refine t_OB.to (V := updV (vp_V (fs.map (px_tr ad))) k (px_tr ad v)) ⟨_, e1, q2, q3, t_set q4 hap hk (px_tr ad v)⟩ (fun z _ => ?_)
    rw [vp_updV_set (by rw [List.length_map]; exact hl), List.map_set]
  unfold u_lay at hlay
  by_cases hf2 : (r'.2.1 k).2.2.2 = true
  · obtain ⟨hin2, hdecl⟩ := hfin hf2
    rw [if_pos hf2] at hlay
    have hcf : m.cls = cf := by
      obtain ⟨_, _, c', _, _, _, -, -, hf', -, -, -, hown2, -⟩ := Cond.laysFinal_spec hlay
      have e1 : c' = cf := by have := hi.symm.trans hf'; simp at this; exact this.1.symm
      rw [hdecl] at hown2
      rw [← e1]; exact Option.some.inj (hown.symm.trans hown2)
    have h6 := u_fits hfc hkC hkind (Or.inr hlay) hi hd hn hft
    exact W.putFinK hx hb hown (hts _ hlink) hi hst hcf hin2 (by rw [q2]; exact h6) q1 q3 (by rw [hsl]; exact k2_hasslot (q4 k hk)) rfl rfl hdg fin
  · rw [if_neg hf2] at hlay
    have h6 := u_store hfc hkC hkind hlay hi hd hn hft
    exact W.putK hx hb (f := f) ⟨hown, hts _ hlink, ⟨_, _, _, hi⟩, hst⟩ (by rw [q2]; exact h6) q1 q3 (by rw [hsl]; exact k2_hasslot (q4 k hk)) rfl rfl hdg fin
theorem px_iald_W (hx : p.tables.exec = Jvm.exec) (hb : c.code = cc) (hK : va_K D cl [(cI, .int), (cJ, .long)] s) {a : Nat} {ll : List Int32} (he : px_at cl ad D cI cJ a (.inl ll) H) {j : Int32} (hj : px_ix j ll.length = true) (hdg : decode cc pc = .ok (.iaload, 1))
    (kk : W p l e R s m args below meth c H locs cells slots Q (F0 m (pc + 1) ls (.int (ll.getD j.toNatClampNeg 0) :: rest))) : W p l e R s m args below meth c H locs cells slots Q (F0 m pc ls (.int j :: .ref a :: rest)) := by
  obtain ⟨hin, hlt⟩ := px_ix_in hj
  exact W.iald (v := .int (ll.getD j.toNatClampNeg 0)) hx hb he ((hK.2 0 _ rfl).1 ll.length (fun j => .int (ll.getD j 0))) (fun q => by cases q) (by show ¬ (j < 0 ∨ (arrV _ _ _).slots.size ≤ _); rw [arrV_size]; exact hin) (by show (arrV _ _ _).slots[_]? = _; rw [arrV_read _ _ hlt]) rfl rfl hdg kk
theorem px_lald_W (hx : p.tables.exec = Jvm.exec) (hb : c.code = cc) (hK : va_K D cl [(cI, .int), (cJ, .long)] s) {a : Nat} {ll : List Int64} (he : px_at cl ad D cI cJ a (.inr (.inl ll)) H) {j : Int32} (hj : px_ix j ll.length = true) (hdg : decode cc pc = .ok (.laload, 1))
    (kk : W p l e R s m args below meth c H locs cells slots Q (F0 m (pc + 1) ls (.long (ll.getD j.toNatClampNeg 0) :: rest))) : W p l e R s m args below meth c H locs cells slots Q (F0 m pc ls (.int j :: .ref a :: rest)) := by
  obtain ⟨hin, hlt⟩ := px_ix_in hj
  exact W.lald (v := .long (ll.getD j.toNatClampNeg 0)) hx hb he ((hK.2 1 _ rfl).1 ll.length (fun j => .long (ll.getD j 0))) (fun q => by cases q) (by show ¬ (j < 0 ∨ (arrV _ _ _).slots.size ≤ _); rw [arrV_size]; exact hin) (by show (arrV _ _ _).slots[_]? = _; rw [arrV_read _ _ hlt]) rfl rfl hdg kk
theorem px_iast_W (hx : p.tables.exec = Jvm.exec) (hb : c.code = cc) (hK : va_K D cl [(cI, .int), (cJ, .long)] s) (hH : px_H cl ad D cI cJ B w H) {k : Nat} {ll : List Int32} (he : w[k]? = some (.inl ll)) {j z : Int32} (hj : px_ix j ll.length = true) (hdg : decode cc pc = .ok (.iastore, 1))
    (kk : ∀ (H1 : Heap), px_H cl ad D cI cJ B (w.set k (.inl (ll.set j.toNatClampNeg z))) H1 → (∀ q, q < B → H1[q]? = H[q]?) → W p l e R s m args below meth c H1 (locs ++ [⟨B + k, j.toNatClampNeg⟩]) cells slots Q (F0 m (pc + 1) ls rest)) : W p l e R s m args below meth c H locs cells slots Q (F0 m pc ls (.int z :: .int j :: .ref (B + k) :: rest)) := by
  obtain ⟨hin, hlt⟩ := px_ix_in hj
  refine W.iast hx hb (hH.2 k _ he) ((hK.2 0 _ rfl).1 ll.length (fun j => .int (ll.getD j 0))) (fun q => by cases q) (by show ¬ (j < 0 ∨ (arrV _ _ _).slots.size ≤ _); rw [arrV_size]; exact hin) rfl rfl hdg fun H1 e1 z1 o1 => ?_
  refine kk H1 (hH.set he z1 o1 ?_) (fun q hq => o1 q (Nat.ne_of_lt (Nat.lt_of_lt_of_le hq (Nat.le_add_right B k))))
  show H1[B + k]? = some (vp_cell _ _)
  rw [e1, px_cell_set hlt]
theorem px_last_W (hx : p.tables.exec = Jvm.exec) (hb : c.code = cc) (hK : va_K D cl [(cI, .int), (cJ, .long)] s) (hH : px_H cl ad D cI cJ B w H) {k : Nat} {ll : List Int64} (he : w[k]? = some (.inr (.inl ll))) {j : Int32} {z : Int64} (hj : px_ix j ll.length = true) (hdg : decode cc pc = .ok (.lastore, 1))
    (kk : ∀ (H1 : Heap), px_H cl ad D cI cJ B (w.set k (.inr (.inl (ll.set j.toNatClampNeg z)))) H1 → (∀ q, q < B → H1[q]? = H[q]?) → W p l e R s m args below meth c H1 (locs ++ [⟨B + k, j.toNatClampNeg⟩]) cells slots Q (F0 m (pc + 1) ls rest)) : W p l e R s m args below meth c H locs cells slots Q (F0 m pc ls (.long z :: .int j :: .ref (B + k) :: rest)) := by
  obtain ⟨hin, hlt⟩ := px_ix_in hj
  refine W.last hx hb (hH.2 k _ he) ((hK.2 1 _ rfl).1 ll.length (fun j => .long (ll.getD j 0))) (fun q => by cases q) (by show ¬ (j < 0 ∨ (arrV _ _ _).slots.size ≤ _); rw [arrV_size]; exact hin) rfl rfl hdg fun H1 e1 z1 o1 => ?_
  refine kk H1 (hH.set he z1 o1 ?_) (fun q hq => o1 q (Nat.ne_of_lt (Nat.lt_of_lt_of_le hq (Nat.le_add_right B k))))
  show H1[B + k]? = some (vp_cell _ _)
  rw [e1, px_cell_setL hlt]
theorem px_alen_W (hx : p.tables.exec = Jvm.exec) (hb : c.code = cc) (hK : va_K D cl [(cI, .int), (cJ, .long)] s) {a : Nat} {ll : List Int32} (he : px_at cl ad D cI cJ a (.inl ll) H) (hdg : decode cc pc = .ok (.arraylength, 1))
    (kk : W p l e R s m args below meth c H locs cells slots Q (F0 m (pc + 1) ls (.int (Int32.ofNat ll.length) :: rest))) : W p l e R s m args below meth c H locs cells slots Q (F0 m pc ls (.ref a :: rest)) := by
  exact W.alen (n := Int32.ofNat ll.length) hx hb he ((hK.2 0 _ rfl).1 ll.length (fun j => .int (ll.getD j 0))) (by show (arrV _ _ _).slots.size.toInt32 = _; rw [arrV_size]) rfl rfl hdg kk
theorem px_new_W (hx : p.tables.exec = Jvm.exec) (hb : c.code = cc) (hts : ∀ w ∈ Ts, w.before args s = true) (hown : s.vm.findClass own = some m.cls) (hK : va_K D cl tys s) (hH : px_H cl ad D cI cJ B w H) {r : vw_C} {ci index : Nat} (hc : cl[ci]? = some r) (hr : px_okK Ts r) (hlink : Cond.classLink own index r.1 ∈ Ts) (hcells : cells + 1 ≤ R.cells) (hslots : slots + r.2.2 ≤ R.slots) (hdg : decode cc pc = .ok (.new index, 3))
    (kk : ∀ (H1 : Heap), px_H cl ad D cI cJ B (w ++ [.inr (.inr (ci, (List.range r.2.2).map (fun j => defaultValue (px_ty r.2.1 j))))]) H1 → (∀ q, q < B → H1[q]? = H[q]?) → W p l e R s m args below meth c H1 locs (cells + 1) (slots + r.2.2) Q (F0 m (pc + 3) ls (.ref (B + w.length) :: rest))) : W p l e R s m args below meth c H locs cells slots Q (F0 m pc ls rest) := by
  have hKn := hK.1 ci _ hc
  refine W.newcK hx hb hown (hts _ hlink) (hts _ hr.2.2.2.1) (hts _ hr.2.2.2.2) rfl hdg hcells hslots hKn.2.1 hH.1 fun H1 kC hkC e1 z1 o1 => ?_
  refine kk H1 (hH.push (by rw [z1, hH.1]) (fun q hq => o1 q (by rw [← hH.1]; exact hq)) ⟨r, hc, ?_⟩) (fun q hq => o1 q (by omega))
  rw [← hH.1] at e1
  refine (u_born (px_ty r.2.1) hts hr.1 hKn hkC e1 hr.2.1).to (fun z hz => ?_)
  have hzl : z < (List.range r.2.2).length := by rw [List.length_range]; exact hz
  simp [vp_V, px_tr_def, hz]
theorem px_newi_W (hx : p.tables.exec = Jvm.exec) (hb : c.code = cc) (harr : (Cond.arrayClass .int).before args s = true) (hK : va_K D cl [(cI, .int), (cJ, .long)] s) (hH : px_H cl ad D cI cJ B w H) {n : Int32} (hn : ¬ n < 0) (hle : n.toNatClampNeg ≤ 100000) (hcells : cells + 1 ≤ R.cells) (hslots : slots + n.toNatClampNeg ≤ R.slots) (hdg : decode cc pc = .ok (.newarray .int, 2))
    (kk : ∀ (H1 : Heap), px_H cl ad D cI cJ B (w ++ [.inl (List.replicate n.toNatClampNeg 0)]) H1 → (∀ q, q < B → H1[q]? = H[q]?) → W p l e R s m args below meth c H1 locs (cells + 1) (slots + n.toNatClampNeg) Q (F0 m (pc + 2) ls (.ref (B + w.length) :: rest))) : W p l e R s m args below meth c H locs cells slots Q (F0 m pc ls (.int n :: rest)) := by
  refine va_newaK (atype := .int) hx hb harr rfl hdg rfl hn rfl (by show n.toNatClampNeg * 4 ≤ _; omega) hcells hslots hH.1 fun H1 cA e1 z1 o1 _ hNm => ?_
  have hcA : cA = cI := Option.some.inj (hNm.symm.trans (hK.2 0 _ rfl).2)
  subst hcA
  refine kk H1 (hH.push (by rw [z1, hH.1]) (fun q hq => o1 q (by rw [← hH.1]; exact hq)) ?_) (fun q hq => o1 q (by omega))
  show H1[H.size]? = some (vp_cell _ _)
  rw [hH.1, e1, vp_cell_i, List.length_replicate]
  congr 2
  funext j
  rw [List.getD_eq_getElem?_getD, List.getElem?_replicate]
  split <;> rfl
theorem px_newl_W (hx : p.tables.exec = Jvm.exec) (hb : c.code = cc) (harr : (Cond.arrayClass .long).before args s = true) (hK : va_K D cl [(cI, .int), (cJ, .long)] s) (hH : px_H cl ad D cI cJ B w H) {n : Int32} (hn : ¬ n < 0) (hle : n.toNatClampNeg ≤ 100000) (hcells : cells + 1 ≤ R.cells) (hslots : slots + n.toNatClampNeg ≤ R.slots) (hdg : decode cc pc = .ok (.newarray .long, 2))
    (kk : ∀ (H1 : Heap), px_H cl ad D cI cJ B (w ++ [.inr (.inl (List.replicate n.toNatClampNeg 0))]) H1 → (∀ q, q < B → H1[q]? = H[q]?) → W p l e R s m args below meth c H1 locs (cells + 1) (slots + n.toNatClampNeg) Q (F0 m (pc + 2) ls (.ref (B + w.length) :: rest))) : W p l e R s m args below meth c H locs cells slots Q (F0 m pc ls (.int n :: rest)) := by
  refine va_newaK (atype := .long) hx hb harr rfl hdg rfl hn rfl (by show n.toNatClampNeg * 8 ≤ _; omega) hcells hslots hH.1 fun H1 cA e1 z1 o1 _ hNm => ?_
  have hcA : cA = cJ := Option.some.inj (hNm.symm.trans (hK.2 1 _ rfl).2)
  subst hcA
  refine kk H1 (hH.push (by rw [z1, hH.1]) (fun q hq => o1 q (by rw [← hH.1]; exact hq)) ?_) (fun q hq => o1 q (by omega))
  show H1[H.size]? = some (vp_cell _ _)
  rw [hH.1, e1, vp_cell_l, List.length_replicate]
  congr 2
  funext j
  rw [List.getD_eq_getElem?_getD, List.getElem?_replicate]
  split <;> rfl
theorem px_copy_W (hx : p.tables.exec = Jvm.exec) (hb : c.code = cc) (hml : c.maxLocals = ls.size) {index : Nat} (hown : s.vm.findClass own = some m.cls) (hlink : (Cond.methodLink own index arraycopyName).before args s = true) (hnat : (Cond.native arraycopyName).before args s = true) (hstat : (Cond.static arraycopyName).before args s = true) (hini : (Cond.initialized "java/lang/System").before args s = true)
    (hK : va_K D cl [(cI, .int), (cJ, .long)] s) (hH : px_H cl ad D cI cJ B w H) {k0 k1 : Nat} {la lb : List Int32} (ha0 : w[k0]? = some (.inl la)) (ha1 : w[k1]? = some (.inl lb)) {sp dp n : Int32} (h1 : ¬ sp < 0) (h2 : ¬ dp < 0) (h3 : ¬ n < 0) (h4 : sp.toNatClampNeg + n.toNatClampNeg ≤ la.length) (h5 : dp.toNatClampNeg + n.toNatClampNeg ≤ lb.length)
    (hframes : 1 ≤ R.frames) (hlocals : (rest.map fun v => v.category).sum + 18 ≤ R.locals) (hdg : decode cc pc = .ok (.invokestatic index, 3))
    (kk : ∀ (H1 : Heap) (locs1 : List Loc), px_H cl ad D cI cJ B (w.set k1 (.inl (px_cpy la lb sp.toNatClampNeg dp.toNatClampNeg n.toNatClampNeg))) H1 → (∀ q, q < B → H1[q]? = H[q]?) → (∀ q ∈ locs1, q ∈ locs ∨ q.base = B + k1) → W p l e R s m args below meth c H1 locs1 cells slots Q (F0 m (pc + 3) ls rest)) : W p l e R s m args below meth c H locs cells slots Q (F0 m pc ls (.int n :: .int dp :: .ref (B + k1) :: .int sp :: .ref (B + k0) :: rest)) := by
  have nn : ∀ z : Int32, ¬ z < 0 → z.toInt = (z.toNatClampNeg : Int) := by
    intro z hz
    have hz0 : (0 : Int) ≤ z.toInt := by
      have := Int32.not_lt.mp hz
      simpa using Int32.le_iff_toInt_le.mp this
    show z.toInt = ((z.toInt.toNat : Nat) : Int)
    omega
  have hnw : nativeFrameWords "java/lang/System" "arraycopy" 5 = 7 := by decide +kernel
  intro T hT X
  have hc0 : H[B + k0]? = some (vp_cell cI (la.length, .inl (fun j => la.getD j 0))) := hH.2 k0 _ ha0
  have hc1 : H[B + k1]? = some (vp_cell cI (lb.length, .inl (fun j => lb.getD j 0))) := hH.2 k1 _ ha1
  obtain ⟨-, k0', hk0, cm0, hkk0⟩ := (hK.2 0 _ rfl).1 la.length (fun j => .int (la.getD j 0))
  obtain ⟨-, k1', hk1, cm1, hkk1⟩ := (hK.2 0 _ rfl).1 lb.length (fun j => .int (lb.getD j 0))
  obtain ⟨vm', X', step⟩ := X.arraycopy hx hown hlink hnat hstat hini (src := B + k0) (dst := B + k1) (cs := vp_cell cI (la.length, .inl (fun j => la.getD j 0))) (cd := vp_cell cI (lb.length, .inl (fun j => lb.getD j 0))) (srcPos := sp) (destPos := dp) (n := n) (by rw [hT]; exact hc0) (by rw [hT]; exact hc1)
    (fun _ h => by cases h) (fun _ h => by cases h) (fun h => by cases h) (fun h => by cases h) hk0 hk1 hkk0 hkk1 (by simp [refKind]) h1 h2 h3
    (by rw [nn sp h1, nn n h3]; show ¬ _ > ((arrV cI la.length (fun j => .int (la.getD j 0))).slots.size : Int); rw [arrV_size]; omega)
    (by rw [nn dp h2, nn n h3]; show ¬ _ > ((arrV cI lb.length (fun j => .int (lb.getD j 0))).slots.size : Int); rw [arrV_size]; omega)
    (fun vm₁ _ i hi => by
      have e : (vp_cell cI (la.length, .inl (fun j => la.getD j 0))).slots.getD (sp.toNatClampNeg + i) .null = .int (la.getD (sp.toNatClampNeg + i) 0) := by
        show (arrV cI la.length (fun j => .int (la.getD j 0))).slots.getD _ _ = _
        rw [Array.getD_eq_getD_getElem?, arrV_read _ _ (by omega)]
        rfl
      refine ⟨?_, ?_⟩
      · rw [e]
        rfl
      · rw [e]
        exact trivial)
    (g := F0 m pc ls (.int n :: .int dp :: .ref (B + k1) :: .int sp :: .ref (B + k0) :: rest)) rfl (by rw [hml]) (rest := rest) rfl (by rw [hb]; exact hdg) hframes (by show 2 * 0 + _ + (nativeFrameWords "java/lang/System" "arraycopy" 5 + 11) ≤ _; rw [hnw]; omega)
  have e1 : copied (vp_cell cI (la.length, .inl (fun j => la.getD j 0))) (vp_cell cI (lb.length, .inl (fun j => lb.getD j 0))) sp dp n = vp_cell cI ((px_cpy la lb sp.toNatClampNeg dp.toNatClampNeg n.toNatClampNeg).length, .inl (fun j => (px_cpy la lb sp.toNatClampNeg dp.toNatClampNeg n.toNatClampNeg).getD j 0)) := by
    have e0 : copied (vp_cell cI (la.length, .inl (fun j => la.getD j 0))) (vp_cell cI (lb.length, .inl (fun j => lb.getD j 0))) sp dp n = vp_cell cI (lb.length, .inl (va_cpy (fun j => la.getD j 0) (fun j => lb.getD j 0) sp.toNatClampNeg dp.toNatClampNeg n.toNatClampNeg)) := va_copied (fun z => .int z) cI cI (fun j => la.getD j 0) (fun j => lb.getD j 0) h4
    rw [e0, px_cpy_len h4 h5]
    congr 3
    funext j
    exact (px_cpy_at h4 h5 j).symm
  rw [e1] at X' step
  have hl : B + k1 < H.size := (Array.getElem?_eq_some_iff.mp hc1).1
  generalize hcell : vp_cell cI ((px_cpy la lb sp.toNatClampNeg dp.toNatClampNeg n.toNatClampNeg).length, .inl (fun j => (px_cpy la lb sp.toNatClampNeg dp.toNatClampNeg n.toNatClampNeg).getD j 0)) = cell1 at X' step
  have hheap : ((T.setVm vm').setCell (B + k1) cell1).heap = H.setIfInBounds (B + k1) cell1 := by rw [← hT]; rfl
  have oq : ∀ q : Nat, q ≠ B + k1 → (H.setIfInBounds (B + k1) cell1)[q]? = H[q]? := fun q hq => by simp [Array.getElem?_setIfInBounds, Ne.symm hq]
  have self : (H.setIfInBounds (B + k1) cell1)[B + k1]? = some cell1 := by simp [Array.getElem?_setIfInBounds, hl]
  obtain ⟨t, a1, b1⟩ := kk _ _ (hH.set ha1 (by simp) oq (show (H.setIfInBounds (B + k1) cell1)[B + k1]? = some _ by rw [self, hcell])) (fun q hq => oq q (by omega)) (fun q hq => by
      rcases List.mem_append.mp hq with h | h
      · exact Or.inl h
      · obtain ⟨z, -, hz⟩ := List.mem_map.mp h
        rw [← hz]
        exact Or.inr rfl) _ hheap X'
  exact ⟨t, step t a1, b1⟩
end PX2

end
end
section
noncomputable section
/-! THE MACHINE GOES AS THE PURE ONE -/
section PX3
variable {p : Program} {l : Launch} {e : Env} {R : Room} {s : State} {m : MethodId} {args : Array Value} {below : List Frame} {meth : Method} {c : Code} {H : Heap} {locs : List Loc} {cells slots : Nat} {Q : State → Prop}
variable {pc : Nat} {ls : Array Slot} {rest : List Value} {cl : List vw_C} {ad : Nat → Option Nat} {D : va_G} {cI cJ : ClassId} {B : Nat} {w : px_W} {Ts Ns : List Cond} {P : List px_M} {h : px_Hd} {L : px_L} {lt : List (List Int32)} {SL : List (String × Nat × Nat)}
theorem px_n1 (a : Nat) (h : 1 ≤ a ∧ a ≤ 16) : a - 1 < 16 ∧ 1 + (a - 1) = a ∧ 17 + (a - 1) = a + 16 := by omega
theorem px_n17 (a : Nat) (h : 17 ≤ a ∧ a ≤ 32) : a - 17 < 16 ∧ 17 + (a - 17) = a := by omega
theorem px_ad {a : Nat} (had : ∀ k, ad (64 + k) = some (B + k)) (ha : 64 ≤ a) : px_tr ad (.ref a) = .ref (B + (a - 64)) := by
  show va_rf (ad a) = _
  have h1 := had (a - 64)
  rw [show 64 + (a - 64) = a by omega] at h1
  rw [h1]
  rfl
theorem px_locs1 {k j : Nat} (hlocs : ∀ q ∈ locs, B ≤ q.base) : ∀ q ∈ locs ++ [(⟨B + k, j⟩ : Loc)], B ≤ q.base := by
  intro q hq
  rcases List.mem_append.mp hq with h | h
  · exact hlocs q h
  · rw [List.mem_singleton.mp h]
    exact Nat.le_add_right B k
set_option maxHeartbeats 2000000 in
theorem px_W2 (E : px_Env Ts Ns cl D cI cJ h p s m args meth c) (hcl : ∀ r ∈ cl, px_okK Ts r) (hL : px_okL Ts Ns cl SL P h.1.cls L) (hai : Cond.arrayClass .int ∈ Ts) (haj : Cond.arrayClass .long ∈ Ts) (had : ∀ k, ad (64 + k) = some (B + k)) {i : Instr} {len : Nat} {scr : Option (List Int32)} {st : List Value} {z : List Value × px_W × Nat × Nat}
    (hd : decode h.2.1 pc = .ok (i, len)) (hz : px_s2 cl lt i len scr h.1.name h.1.cls L st w = some z) (hH : px_H cl ad D cI cJ B w H) (hfr : ∀ q, q < B → H[q]? = s.heap[q]?) (hlocs : ∀ q ∈ locs, B ≤ q.base) (hcells : cells + z.2.2.1 ≤ R.cells) (hslots : slots + z.2.2.2 ≤ R.slots)
    (hscr : ∀ xs, scr = some xs → ∃ b0, ad 0 = some b0 ∧ va_X b0 xs.length (fun j => xs.getD j 0) s s.heap ∧ b0 < B) (hXX : px_X lt SL ad B s s.heap)
    (kk : ∀ (H1 : Heap) (locs1 : List Loc), px_H cl ad D cI cJ B z.2.1 H1 → (∀ q, q < B → H1[q]? = s.heap[q]?) → (∀ q ∈ locs1, B ≤ q.base) → W p l e R s m args below meth c H1 locs1 (cells + z.2.2.1) (slots + z.2.2.2) Q (F0 m (pc + len) ls (z.1.map (px_tr ad)))) : W p l e R s m args below meth c H locs cells slots Q (F0 m pc ls (st.map (px_tr ad))) := by
  obtain ⟨hx, hb, hml, hr, hlk, hnm, hown, hts, hK, hNs⟩ := E
  have hkf : ∀ a : Nat, a < s.heap.size → ¬ B ≤ a → H[a]? = s.heap[a]? := fun a _ z => hfr a (Nat.not_le.mp z)
  have hmem : ∀ {ci : Nat} {r : vw_C}, cl[ci]? = some r → px_okK Ts r := fun hc => hcl _ (List.mem_of_getElem? hc)
  unfold px_s2 at hz
  split at hz
  · split at hz
    · rename_i hc
      split at hz
      · rename_i q o hq ho
        split at hz
        · rename_i he
          obtain ⟨v, hv, h2⟩ := Option.map_eq_some_iff.mp hz
          clear hz
          subst h2
          rw [hc.1] at hd kk
          obtain ⟨r, g1, g2, g3⟩ := hL.1 _ (px_look_mem hq)
          have ho' : px_at cl ad D cI cJ (B + _) (.inr (.inr o)) H := hH.2 _ _ ho
          obtain ⟨o1, o2⟩ := o
          rw [List.map_cons, px_ad had hc.2]
          cases he
          exact px_get_W hx hb hts hown hK g1 (hmem g1) g2 g3 ho' hv hd (kk H locs hH hfr hlocs)
        · cases hz
      · cases hz
    · split at hz
      · rename_i hc
        obtain ⟨k, hk, h2⟩ := Option.bind_eq_some_iff.mp hz
        clear hz
        rw [hc.1] at hd kk
        obtain ⟨g0, g1⟩ := hL.2.2.2.2.2.2.2 _ (px_look_mem hk)
        obtain ⟨adK, adV, x1, x2, x3, x4, x5⟩ := hXX
        rename_i a r _
        obtain ⟨hj, hj1, hj2⟩ := px_n1 a hc.2
        have ea : ad a = some (adK (a - 1)) := by have := (x1 (a - 1) hj).1; rwa [hj1] at this
        have ev : ad (a + 16) = some (adV (a - 1)) := by have := (x1 (a - 1) hj).2; rwa [hj2] at this
        rw [List.map_cons, show px_tr ad (.ref a) = .ref (adK (a - 1)) by show va_rf (ad a) = _; rw [ea]; rfl]
        split at h2
        · rename_i hk0
          cases h2
          obtain ⟨cf, kf, fi, f, cell, f1, f2, f3, f4, f5, f6⟩ := ((x2.1 (a - 1) hj).2.2.1).kept hkf
          have k2 := kk H locs hH hfr hlocs
          rw [List.map_cons, show px_tr ad (.ref (a + 16)) = .ref (adV (a - 1)) by show va_rf (ad (a + 16)) = _; rw [ev]; rfl] at k2
          exact W.getf hx hb hown (hts _ (g0 hk0)) f1 f2 f3 f4 f5 rfl rfl hd k2
        · split at h2
          · rename_i hk1
            cases h2
            obtain ⟨cf, kf, fi, f, cell, f1, f2, f3, f4, f5, f6⟩ := ((x2.1 (a - 1) hj).2.1).kept hkf
            exact W.getf hx hb hown (hts _ (g1 hk1)) f1 f2 f3 f4 f5 rfl rfl hd (kk H locs hH hfr hlocs)
          · cases h2
      · cases hz
  · split at hz
    · rename_i hc
      rw [hc] at hd kk
      split at hz
      · rename_i ha
        split at hz
        · rename_i xs
          split at hz
          · rename_i hj
            cases hz
            obtain ⟨b0, e0, hX, hlt⟩ := hscr xs rfl
            obtain ⟨cell, h1, h2, h3, h4, h5⟩ := hX
            obtain ⟨hin, hjl⟩ := px_ix_in hj
            subst ha
            rw [List.map_cons, List.map_cons, show px_tr ad (.ref 0) = .ref b0 by show va_rf (ad 0) = _; rw [e0]; rfl]
            exact W.iald (a := b0) (v := .int (xs.getD _ 0)) hx hb (by rw [hfr _ hlt]; exact h1) h2 h3 (by rw [h4]; exact hin) (h5 _ hjl) rfl rfl hd (kk H locs hH hfr hlocs)
          · cases hz
        · cases hz
      · split at hz
        · rename_i ha
          split at hz
          · rename_i ll hw
            split at hz
            · rename_i hj
              cases hz
              rw [List.map_cons, List.map_cons, px_ad had ha]
              exact px_iald_W hx hb hK (hH.2 _ _ hw) hj hd (kk H locs hH hfr hlocs)
            · cases hz
          · cases hz
        · cases hz
    · cases hz
  · split at hz
    · rename_i hc
      rw [hc.1] at hd kk
      split at hz
      · rename_i ll hw
        split at hz
        · rename_i hj
          cases hz
          rw [List.map_cons, List.map_cons, List.map_cons, px_ad had hc.2]
          exact px_iast_W hx hb hK hH hw hj hd (fun H1 a1 a2 => kk H1 _ a1 (fun q hq => (a2 q hq).trans (hfr q hq)) (px_locs1 hlocs))
        · cases hz
      · cases hz
    · cases hz
  · split at hz
    · rename_i hc
      rw [hc.1] at hd kk
      split at hz
      · rename_i q o hq ho
        split at hz
        · rename_i r hr2
          split at hz
          · rename_i he
            cases hz
            obtain ⟨he1, he2, he3, he4⟩ := he
            obtain ⟨r', g1, g2, g3⟩ := hL.1 _ (px_look_mem hq)
            obtain ⟨o1, o2⟩ := o
            cases he1
            have hrr : r' = r := Option.some.inj (g1.symm.trans hr2)
            subst hrr
            rw [List.map_cons, List.map_cons, px_ad had hc.2]
            exact px_put_W hx hb hts hown hK g1 (hmem g1) g2 g3 hH ho he2 he3 (fun z => ⟨hnm (he4 z).1, (he4 z).2⟩) hd (fun H1 f a1 a2 => kk H1 _ a1 (fun q hq => (a2 q hq).trans (hfr q hq)) (px_locs1 hlocs))
          · cases hz
        · cases hz
      · cases hz
    · cases hz
  · split at hz
    · rename_i hc
      rw [hc] at hd kk
      have hz1 := px_or_some hz
      clear hz
      rcases hz1 with hz | hz
      · obtain ⟨v, hv, h2⟩ := Option.map_eq_some_iff.mp hz
        clear hz
        subst h2
        exact lv_ldc hx hb hown (hts _ (hL.2.2.2.1 _ (px_look_mem hv))) hd (kk H locs hH hfr hlocs)
      · obtain ⟨j, hv, h2⟩ := Option.map_eq_some_iff.mp hz
        clear hz
        subst h2
        obtain ⟨adK, adV, x1, x2, x3, x4, x5⟩ := hXX
        obtain ⟨hj, tx, hR⟩ := x3 _ (hL.2.2.2.2.2.1 _ (px_look_mem hv))
        have k2 := kk H locs hH hfr hlocs
        rw [List.map_cons, show px_tr ad (.ref (1 + j)) = .ref (adK j) by show va_rf (ad (1 + j)) = _; rw [(x1 j hj).1]; rfl] at k2
        exact va_ldcS hx hb hown hR hd k2
    · cases hz
  · split at hz
    · rename_i hc
      rw [hc] at hd kk
      obtain ⟨k, hk, h2⟩ := Option.bind_eq_some_iff.mp hz
      clear hz
      obtain ⟨g0, g1⟩ := hL.2.2.2.2.2.2.1 _ (px_look_mem hk)
      obtain ⟨adK, adV, x1, x2, x3, x4, x5⟩ := hXX
      split at h2
      · rename_i hk0
        cases h2
        obtain ⟨cf, kf, fi, f, a, cell, f1, f2, f3, f4, f5, f6, f7, f8⟩ := x4.kept hkf
        exact W.gets hx hb hown (hts _ (g0 hk0)) f1 f2 f3 f4 f5 (fun e => by rw [e] at f6; cases f6) f7 rfl hd (kk H locs hH hfr hlocs)
      · split at h2
        · rename_i hk1
          cases h2
          obtain ⟨cf, kf, fi, f, a, cell, f1, f2, f3, f4, f5, f6, f7, f8⟩ := x5.kept hkf
          exact W.gets hx hb hown (hts _ (g1 hk1)) f1 f2 f3 f4 f5 (fun e => by rw [e] at f6; cases f6) f7 rfl hd (kk H locs hH hfr hlocs)
        · cases h2
    · cases hz
  · split at hz
    · rename_i hc
      cases hz
      rw [hc.1] at hd kk
      obtain ⟨adK, adV, x1, x2, x3, x4, x5⟩ := hXX
      rename_i j a r
      obtain ⟨hj, hj1⟩ := px_n17 a ⟨hc.2.1, hc.2.2.1⟩
      have ev : ad a = some (adV (a - 17)) := by have := (x1 (a - 17) hj).2; rwa [hj1] at this
      rw [List.map_cons, List.map_cons, show px_tr ad (.ref a) = .ref (adV (a - 17)) by show va_rf (ad a) = _; rw [ev]; rfl]
      obtain ⟨cell, h1, h2, h3, h4, h5, h6, h7⟩ := ((x2.1 (a - 17) hj).2.2.2).kept hkf
      obtain ⟨hin, hjl⟩ := px_ix_in hc.2.2.2
      refine W.bald (a := adV (a - 17)) (v := .int ((lt.getD (a - 17) []).getD j.toNatClampNeg 0)) hx hb h1 h2 h3 (fun q => ?_) (h6 _ hjl) rfl rfl hd (kk H locs hH hfr hlocs)
      rcases q with q | q
      · exact hin (Or.inl q)
      · omega
    · cases hz
  · split at hz
    · rename_i hc
      rw [hc] at hd kk
      obtain ⟨v, hv, h2⟩ := Option.map_eq_some_iff.mp hz
      clear hz
      subst h2
      exact lv_ldcw hx hb hown (hts _ (hL.2.2.2.1 _ (px_look_mem hv))) hd (kk H locs hH hfr hlocs)
    · cases hz
  · split at hz
    · rename_i hc
      rw [hc] at hd kk
      obtain ⟨v, hv, h2⟩ := Option.map_eq_some_iff.mp hz
      clear hz
      subst h2
      exact lv_ldc2 hx hb hown (hts _ (hL.2.2.2.2.1 _ (px_look_mem hv))) hd (kk H locs hH hfr hlocs)
    · cases hz
  · split at hz
    · rename_i hc
      rw [hc] at hd kk
      split at hz
      · rename_i ha
        split at hz
        · rename_i xs
          cases hz
          obtain ⟨b0, e0, hX, hlt⟩ := hscr xs rfl
          obtain ⟨cell, h1, h2, h3, h4, h5⟩ := hX
          subst ha
          rw [List.map_cons, show px_tr ad (.ref 0) = .ref b0 by show va_rf (ad 0) = _; rw [e0]; rfl]
          exact W.alen (a := b0) (n := Int32.ofNat xs.length) hx hb (by rw [hfr _ hlt]; exact h1) h2 (by rw [h4] <;> rfl) rfl rfl hd (kk H locs hH hfr hlocs)
        · cases hz
      · split at hz
        · rename_i ha
          split at hz
          · rename_i ll hw
            cases hz
            rw [List.map_cons, px_ad had ha]
            exact px_alen_W hx hb hK (hH.2 _ _ hw) hd (kk H locs hH hfr hlocs)
          · cases hz
        · split at hz
          · rename_i hc2
            cases hz
            obtain ⟨adK, adV, x1, x2, x3, x4, x5⟩ := hXX
            rename_i a r _ _
            obtain ⟨hj, hj1⟩ := px_n17 a hc2
            have ev : ad a = some (adV (a - 17)) := by have := (x1 (a - 17) hj).2; rwa [hj1] at this
            rw [List.map_cons, show px_tr ad (.ref a) = .ref (adV (a - 17)) by show va_rf (ad a) = _; rw [ev]; rfl]
            obtain ⟨cell, h1, h2, h3, h4, h5, h6, h7⟩ := ((x2.1 (a - 17) hj).2.2.2).kept hkf
            exact W.alen (n := Int32.ofNat ((lt.map List.length).getD (a - 17) 0)) hx hb h1 h2 h5 rfl rfl hd (kk H locs hH hfr hlocs)
          · cases hz
    · cases hz
  · split at hz
    · rename_i hc
      rw [hc.1] at hd kk
      split at hz
      · rename_i ll hw
        split at hz
        · rename_i hj
          cases hz
          rw [List.map_cons, List.map_cons, px_ad had hc.2]
          exact px_lald_W hx hb hK (hH.2 _ _ hw) hj hd (kk H locs hH hfr hlocs)
        · cases hz
      · cases hz
    · cases hz
  · split at hz
    · rename_i hc
      rw [hc.1] at hd kk
      split at hz
      · rename_i ll hw
        split at hz
        · rename_i hj
          cases hz
          rw [List.map_cons, List.map_cons, List.map_cons, px_ad had hc.2]
          exact px_last_W hx hb hK hH hw hj hd (fun H1 a1 a2 => kk H1 _ a1 (fun q hq => (a2 q hq).trans (hfr q hq)) (px_locs1 hlocs))
        · cases hz
      · cases hz
    · cases hz
  · split at hz
    · rename_i hc
      rw [hc] at hd kk
      obtain ⟨ci, hci, h2⟩ := Option.bind_eq_some_iff.mp hz
      clear hz
      obtain ⟨r, hr2, h3⟩ := Option.map_eq_some_iff.mp h2
      clear h2
      subst h3
      obtain ⟨r', g1, g2⟩ := hL.2.2.1 _ (px_look_mem hci)
      have hrr : r' = r := Option.some.inj (g1.symm.trans hr2)
      subst hrr
      refine px_new_W hx hb hts hown hK hH g1 (hmem g1) g2 hcells hslots hd (fun H1 a1 a2 => ?_)
      have k2 := kk H1 locs a1 (fun q hq => (a2 q hq).trans (hfr q hq)) hlocs
      rw [List.map_cons, px_ad had (by omega), show 64 + w.length - 64 = w.length by omega] at k2
      exact k2
    · cases hz
  · split at hz
    · rename_i hc
      cases hz
      rw [hc.1] at hd kk
      rw [List.map_cons]
      refine px_newi_W hx hb (hts _ hai) hK hH hc.2.1 hc.2.2 hcells hslots hd (fun H1 a1 a2 => ?_)
      have k2 := kk H1 locs a1 (fun q hq => (a2 q hq).trans (hfr q hq)) hlocs
      rw [List.map_cons, px_ad had (by omega), show 64 + w.length - 64 = w.length by omega] at k2
      exact k2
    · cases hz
  · split at hz
    · rename_i hc
      cases hz
      rw [hc.1] at hd kk
      rw [List.map_cons]
      refine px_newl_W hx hb (hts _ haj) hK hH hc.2.1 hc.2.2 hcells hslots hd (fun H1 a1 a2 => ?_)
      have k2 := kk H1 locs a1 (fun q hq => (a2 q hq).trans (hfr q hq)) hlocs
      rw [List.map_cons, px_ad had (by omega), show 64 + w.length - 64 = w.length by omega] at k2
      exact k2
    · cases hz
  · cases hz
theorem px_W3 (E : px_Env Ts Ns cl D cI cJ h p s m args meth c) (hL : px_okL Ts Ns cl SL P h.1.cls L) (had : ∀ k, ad (64 + k) = some (B + k)) {i : Instr} {len d : Nat} {st : List Value} {z : List Value × px_W} {lv : List (Nat × Value)}
    (hl : lv_has ls h.2.2.1 lv) (hd : decode h.2.1 pc = .ok (i, len)) (hz : px_s3 i len d L st w = some z) (hH : px_H cl ad D cI cJ B w H) (hfr : ∀ q, q < B → H[q]? = s.heap[q]?) (hlocs : ∀ q ∈ locs, B ≤ q.base) (hdf : d ≤ R.frames) (hdl : 100 * d ≤ R.locals)
    (kk : ∀ (H1 : Heap) (locs1 : List Loc), px_H cl ad D cI cJ B z.2 H1 → (∀ q, q < B → H1[q]? = s.heap[q]?) → (∀ q ∈ locs1, B ≤ q.base) → W p l e R s m args below meth c H1 locs1 cells slots Q (F0 m (pc + 3) ls (z.1.map (px_tr ad)))) : W p l e R s m args below meth c H locs cells slots Q (F0 m pc ls (st.map (px_tr ad))) := by
  obtain ⟨hx, hb, hml, hr, hlk, hnm, hown, hts, hK, hNs⟩ := E
  unfold px_s3 at hz
  split at hz
  · split at hz
    · rename_i hc
      obtain ⟨c1, c2, c3, c4, c5, c6, c7, c8⟩ := hc
      rw [c1] at hd
      split at hz
      · rename_i q la lb hq ha hb2
        split at hz
        · rename_i he
          cases hz
          obtain ⟨g6, -⟩ := hL.2.1 _ (px_look_mem hq)
          obtain ⟨g1, g2, g3, g4⟩ := g6 he.1
          rw [List.map_cons, List.map_cons, List.map_cons, List.map_cons, List.map_cons, px_ad had c3, px_ad had c4]
          exact px_copy_W hx hb (by rw [hml]; exact hl.1.symm) hown (hts _ g1) (hts _ g2) (hts _ g3) (hts _ g4) hK hH ha hb2 c5 c6 c7 he.2.1 he.2.2 (by omega) (by rw [px_tr_sum]; omega) hd (fun H1 locs1 a1 a2 a3 => kk H1 locs1 a1 (fun q hq => (a2 q hq).trans (hfr q hq)) (fun q hq => (a3 q hq).elim (hlocs q) (fun e => by rw [e]; exact Nat.le_add_right _ _)))
        · cases hz
      · cases hz
    · cases hz
  · split at hz
    · rename_i hc
      rw [hc.1] at hd
      split at hz
      · rename_i q hq
        split at hz
        · rename_i he
          cases hz
          obtain ⟨-, g7, -⟩ := hL.2.1 _ (px_look_mem hq)
          obtain ⟨g1, g2, g3⟩ := g7 he
          rw [List.map_cons, px_ad had hc.2.2.1]
          exact W.objInit hx hb hown (hts _ g1) (hts _ g2) (hts _ g3) rfl (by rw [hml]; exact hl.1) rfl hd (by omega) (by show 2 * 0 + _ + 12 ≤ _; rw [px_tr_sum]; omega) (kk H locs hH hfr hlocs)
        · cases hz
      · cases hz
    · cases hz
  · cases hz
theorem px_W6 (E : px_Env Ts Ns cl D cI cJ h p s m args meth c) (hL : px_okL Ts Ns cl SL P h.1.cls L) {i : Instr} {len d : Nat} {st : List Value} {z : List Value} {lv : List (Nat × Value)}
    (hl : lv_has ls h.2.2.1 lv) (hd : decode h.2.1 pc = .ok (i, len)) (hz : px_s6 i len d L st = some z) (hdf : d ≤ R.frames) (hdl : 100 * d ≤ R.locals) (hcc : cells ≤ R.cells) (hss : slots ≤ R.slots)
    (kk : W p l e R s m args below meth c H locs cells slots Q (F0 m (pc + 3) ls (z.map (px_tr ad)))) : W p l e R s m args below meth c H locs cells slots Q (F0 m pc ls (st.map (px_tr ad))) := by
  obtain ⟨hx, hb, hml, hr, hlk, hnm, hown, hts, hK, hNs⟩ := E
  have hml2 : c.maxLocals = ls.size := by rw [hml]; exact hl.1.symm
  unfold px_s6 at hz
  split at hz
  · split at hz
    · rename_i hc
      rw [hc.1] at hd
      obtain ⟨q, hq, hz1⟩ := Option.bind_eq_some_iff.mp hz
      clear hz
      obtain ⟨-, -, -, g8, g9, g10⟩ := hL.2.1 _ (px_look_mem hq)
      split at hz1
      · split at hz1
        · rename_i he
          split at hz1
          · rename_i hs2
            cases hz1
            obtain ⟨a1, a2, a3, a4⟩ := g10 he
            exact va_mabs hx hb hml2 hown (hts _ a1) (hts _ a2) (hts _ a3) (hts _ a4) (by omega) (by rw [px_tr_sum]; omega) hcc hss hd kk
          · cases hz1
        · split at hz1
          · split at hz1
            · rename_i hs2
              split at hz1
              · rename_i he
                cases hz1
                obtain ⟨a1, a2, a3, a4⟩ := g8 he
                exact va_mmax hx hb hml2 hown (hts _ a1) (hts _ a2) (hts _ a3) (hts _ a4) (by omega) (by rw [px_tr_sum]; omega) hcc hss hd kk
              · split at hz1
                · rename_i he
                  cases hz1
                  obtain ⟨a1, a2, a3, a4⟩ := g9 he
                  exact va_mmin hx hb hml2 hown (hts _ a1) (hts _ a2) (hts _ a3) (hts _ a4) (by omega) (by rw [px_tr_sum]; omega) hcc hss hd kk
                · cases hz1
            · cases hz1
          · cases hz1
      · cases hz1
    · cases hz
  · cases hz
def px_Qc (cl : List vw_C) (ad : Nat → Option Nat) (D : va_G) (cI cJ : ClassId) (B : Nat) (v : Option Value) (w' : px_W) : Array Value → State → Outcome → State → Prop := fun _ st o t => o = .returned (v.map (px_tr ad)) ∧ px_H cl ad D cI cJ B w' t.heap ∧ ∀ q, q < B → t.heap[q]? = st.heap[q]?
def px_Pc (Ns : List Cond) (cl : List vw_C) (lt : List (List Int32)) (SL : List (String × Nat × Nat)) (ad : Nat → Option Nat) (D : va_G) (cI cJ : ClassId) (B : Nat) (as : List Value) (w : px_W) : Array Value → State → Prop := fun a U => a = (as.map (px_tr ad)).toArray ∧ px_H cl ad D cI cJ B w U.heap ∧ va_K D cl [(cI, .int), (cJ, .long)] U ∧ (∀ x ∈ Ns, va_Nw x U) ∧ px_X lt SL ad B U U.heap
theorem px_Pc_blind (hN : ∀ x ∈ Ns, ∃ (a : String) (i : Nat) (y : MethodName) (h : String), x = Cond.methodLinkNest a i y h) {as : List Value} : FrameBlind (px_Pc Ns cl lt SL ad D cI cJ B as w) := by
  intro a U g mk q
  obtain ⟨q1, q2, q3, q4, q5⟩ := q
  refine ⟨q1, q2, va_K.moved (u := U) (U := U.calling g mk a) (Vm.Alike.refl U.vm) q3, fun x hx => ?_, px_X.same (u := U) (U := U.calling g mk a) rfl q5⟩
  obtain ⟨b, i, y, h, rfl⟩ := hN x hx
  exact va_Nw.same rfl (u := U) (U := U.calling g mk a) rfl (q4 _ hx)
theorem px_after {v : Option Value} {w' : px_W} {a : Array Value} {mc ms : Nat} {st0 rest' : List Value} (hr : va_Run p l e R s m args below meth c H locs cells slots mc ms (F0 m pc ls st0) rest' (px_Qc cl ad D cI cJ B v w' a) (fun q => B ≤ q)) (hfr : ∀ q, q < B → H[q]? = s.heap[q]?) (hlocs : ∀ q ∈ locs, B ≤ q.base)
    (kk : ∀ (H1 : Heap) (locs1 : List Loc), px_H cl ad D cI cJ B w' H1 → (∀ q, q < B → H1[q]? = s.heap[q]?) → (∀ q ∈ locs1, B ≤ q.base) → W p l e R s m args below meth c H1 locs1 (cells + mc) (slots + ms) Q (F0 m (pc + 3) ls ((v.map (px_tr ad)).toList ++ rest'))) : W p l e R s m args below meth c H locs cells slots Q (F0 m pc ls st0) := by
  intro T hT X
  obtain ⟨v2, st₀, t, T', L2, h0, X', hL2, e1, e2, ⟨hv, hh, hf⟩, st⟩ := hr T hT X
  cases hv
  obtain ⟨t2, a1, b1⟩ := kk T'.heap (locs ++ L2) (by rw [e1]; exact hh) (fun q hq => by rw [e1, hf q hq, h0]; exact hfr q hq) (fun q hq => (List.mem_append.mp hq).elim (hlocs q) (hL2 q)) T' rfl X'
  exact ⟨t2, st t2 a1, b1⟩
end PX3

end
end
section
noncomputable section
/-! CALLS, AND RUNS -/
section PX4
variable {p : Program} {l : Launch} {e : Env} {R : Room} {s : State} {m : MethodId} {args : Array Value} {below : List Frame} {meth : Method} {c : Code} {H : Heap} {locs : List Loc} {cells slots : Nat} {Q : State → Prop}
variable {pc : Nat} {ls : Array Slot} {rest : List Value} {cl : List vw_C} {ad : Nat → Option Nat} {D : va_G} {cI cJ : ClassId} {B : Nat} {w : px_W} {Ts Ns : List Cond} {P : List px_M} {h : px_Hd} {L : px_L} {lt : List (List Int32)} {SL : List (String × Nat × Nat)}
theorem px_good (hg : ∀ w ∈ Ts, goodWord w = true) {x : Cond} (hx : x ∈ Ts) : GoodIn Ts (x :: Ts) := fun w hw => (List.mem_cons.mp hw).elim (fun e => by subst e; exact ⟨hx, good_of_word (hg _ hx)⟩) (fun q => ⟨q, good_of_word (hg _ q)⟩)
theorem px_stack {st r : List Value} {b n : Nat} (hdr : st.drop n = .ref b :: r) : st.map (px_tr ad) = (((st.take n).reverse).map (px_tr ad)).reverse ++ px_tr ad (.ref b) :: r.map (px_tr ad) := by
  rw [← List.map_reverse, List.reverse_reverse, ← List.map_cons, ← List.map_append, ← hdr, List.take_append_drop]
theorem px_stackS (st : List Value) (n : Nat) : st.map (px_tr ad) = (((st.take n).reverse).map (px_tr ad)).reverse ++ (st.drop n).map (px_tr ad) := by
  rw [← List.map_reverse, List.reverse_reverse, ← List.map_append, List.take_append_drop]
theorem px_W4 (E : px_Env Ts Ns cl D cI cJ h p s m args meth c) (hO : px_okP Ts Ns cl SL P) (hL : px_okL Ts Ns cl SL P h.1.cls L) (had : ∀ k, ad (64 + k) = some (B + k)) {i : Instr} {len d : Nat} {st : List Value} {lv : List (Nat × Value)}
    (hl : lv_has ls h.2.2.1 lv) (hd : decode h.2.1 pc = .ok (i, len)) {q : Nat × List Value × List Value} (hz : px_s4 cl P i len L st w = some q) {M' : px_M} (hM' : P[q.1]? = some M') {mc ms : Nat} {v : Option Value} {w' : px_W}
    (hMet : Met l M'.1.1 (Cond.code M'.1.1 M'.1.2.1 M'.1.2.2.1 M'.1.2.2.2.1 :: Ts) { frames := d, cells := mc, slots := ms, locals := 100 * d } (px_Pc Ns cl lt SL ad D cI cJ B q.2.1 w) (px_Qc cl ad D cI cJ B v w') mc ms (fun a => B ≤ a))
    (hH : px_H cl ad D cI cJ B w H) (hfr : ∀ q, q < B → H[q]? = s.heap[q]?) (hlocs : ∀ q ∈ locs, B ≤ q.base) (hXX : px_X lt SL ad B s s.heap) (hdf : d + 1 ≤ R.frames) (hdl : 100 * (d + 1) ≤ R.locals) (hcc : cells + mc ≤ R.cells) (hss : slots + ms ≤ R.slots)
    (kk : ∀ (H1 : Heap) (locs1 : List Loc), px_H cl ad D cI cJ B w' H1 → (∀ q, q < B → H1[q]? = s.heap[q]?) → (∀ q ∈ locs1, B ≤ q.base) → W p l e R s m args below meth c H1 locs1 (cells + mc) (slots + ms) Q (F0 m (pc + 3) ls ((v.map (px_tr ad)).toList ++ q.2.2.map (px_tr ad)))) : W p l e R s m args below meth c H locs cells slots Q (F0 m pc ls (st.map (px_tr ad))) := by
  obtain ⟨hx, hb, hml, hr, hlk, hnm, hown, hts, hK, hNs⟩ := E
  have hMP : M' ∈ P := List.mem_of_getElem? hM'
  obtain ⟨⟨o1, o2, o3, o4, o5⟩, -, -⟩ := hO.2.1 M' hMP
  have hG := px_good hO.2.2.2.2.1 o1
  have hbl : ∀ as : List Value, FrameBlind (px_Pc Ns cl lt SL ad D cI cJ B as w) := fun as => px_Pc_blind hO.2.2.2.2.2
  have hR : d + 1 ≤ R.frames ∧ 8 + (M'.1.2.2.1 + 11) + 100 * d ≤ R.locals := ⟨hdf, by omega⟩
  have hNw : ∀ (U : State), s.WarmedH U.vm → ∀ x ∈ Ns, va_Nw x U := fun U hW x hx => by
    obtain ⟨b, j, y, hh, rfl⟩ := hO.2.2.2.2.2 x hx
    exact va_Nw.warmM hW (hNs _ hx)
  have hPc : ∀ (as : List Value) (U : State), U.heap = H → s.WarmedH U.vm → px_Pc Ns cl lt SL ad D cI cJ B as w (as.map (px_tr ad)).toArray U := fun as U hU hW => ⟨rfl, by rw [hU]; exact hH, va_K.moved hW.alike hK, hNw U hW, hXX.to hW (fun q hq => by rw [hU]; exact hfr q hq)⟩
  have S : CallFix p m c h.2.1 h.2.2.1 s args Ts h.1.cls := ⟨hx, hb, hml, hown, hts⟩
  unfold px_s4 at hz
  split at hz
  · split at hz
    · rename_i hc
      rw [hc] at hd
      obtain ⟨k, hk, hz1⟩ := Option.bind_eq_some_iff.mp hz
      clear hz
      obtain ⟨M2, hM2, hz⟩ := Option.bind_eq_some_iff.mp hz1
      clear hz1
      split at hz
      · rename_i b r hdr
        split at hz
        · rename_i hcs
          split at hz
          · rename_i o ho
            split at hz
            · rename_i kc hkc
              split at hz
              · rename_i hcn
                cases hz
                have e2 : M2 = M' := Option.some.inj (hM2.symm.trans hM')
                subst e2
                obtain ⟨g0, -⟩ := (hL.2.1 _ (px_look_mem hk)).2.2.1 M2 hM2
                obtain ⟨g1, g2, g3⟩ := g0 hcs.1
                obtain ⟨r2, k1, cell, k2, k3, k4, -⟩ := hH.2 _ _ ho
                have hrr : r2 = kc := Option.some.inj (k1.symm.trans hkc)
                subst hrr
                rw [px_stack hdr, px_ad had hcs.2.2.1]
                have hfc : s.vm.findClass M2.1.1.cls = some cell.cls := by rw [← hcn, k3]; exact (hK.1 _ _ k1).2.1
                have hPre := hPc (.ref b :: (st.take M2.1.2.2.2.2).reverse)
                rw [List.map_cons, px_ad had hcs.2.2.1] at hPre
                exact px_after (va_runV (As := ((st.take M2.1.2.2.2.2).reverse).map (px_tr ad)) (C := M2.1.1.cls) S hMet ⟨callB_of M2.1.2.2.2.2 hts hG rfl rfl rfl (hts _ o3) (hts _ g1) o4 hR, hts _ g2, hts _ g3⟩ ⟨hbl _, ⟨cell, k2, by rw [k4]; rfl, hfc⟩, hPre⟩ rfl (by simp; omega) hl.1 rfl (lv_room (by rw [px_tr_sum]; exact hcs.2.2.2)) hd ⟨hcc, hss⟩) hfr hlocs kk
              · cases hz
            · cases hz
          · cases hz
        · split at hz
          · rename_i hcs
            cases hz
            have e2 : M2 = M' := Option.some.inj (hM2.symm.trans hM')
            subst e2
            obtain ⟨g0, -⟩ := (hL.2.1 _ (px_look_mem hk)).2.2.1 M2 hM2
            obtain ⟨g1, g2, g3⟩ := g0 hcs.1
            obtain ⟨adK, adV, x1, x2, x3, x4, x5⟩ := id hXX
            obtain ⟨hj, hj1, hj2⟩ := px_n1 b ⟨hcs.2.2.1, hcs.2.2.2.1⟩
            have ea : ad b = some (adK (b - 1)) := by have := (x1 (b - 1) hj).1; rwa [hj1] at this
            have eb : px_tr ad (.ref b) = .ref (adK (b - 1)) := by show va_rf (ad b) = _; rw [ea]; rfl
            obtain ⟨cell, k2, k4, k3, -⟩ := ((x2.1 (b - 1) hj).1).kept (H1 := H) (fun a _ z => hfr a (Nat.not_le.mp z))
            rw [px_stack hdr, eb]
            have hPre := hPc (.ref b :: (st.take M2.1.2.2.2.2).reverse)
            rw [List.map_cons, eb] at hPre
            exact px_after (va_runV (As := ((st.take M2.1.2.2.2.2).reverse).map (px_tr ad)) (C := M2.1.1.cls) S hMet ⟨callB_of M2.1.2.2.2.2 hts hG rfl rfl rfl (hts _ o3) (hts _ g1) o4 hR, hts _ g2, hts _ g3⟩ ⟨hbl _, ⟨cell, k2, k4, by rw [hcs.2.2.2.2.1]; exact k3⟩, hPre⟩ rfl (by simp; omega) hl.1 rfl (lv_room (by rw [px_tr_sum]; exact hcs.2.2.2.2.2)) hd ⟨hcc, hss⟩) hfr hlocs kk
          · cases hz
      · cases hz
    · cases hz
  · split at hz
    · rename_i hc
      rw [hc] at hd
      obtain ⟨k, hk, hz1⟩ := Option.bind_eq_some_iff.mp hz
      clear hz
      obtain ⟨M2, hM2, hz⟩ := Option.bind_eq_some_iff.mp hz1
      clear hz1
      split at hz
      · rename_i hcs
        cases hz
        have e2 : M2 = M' := Option.some.inj (hM2.symm.trans hM')
        subst e2
        obtain ⟨-, g1, -, g4, -⟩ := (hL.2.1 _ (px_look_mem hk)).2.2.1 M2 hM2
        rw [px_stackS st M2.1.2.2.2.2]
        rcases hcs.1 with hk1 | hk1
        · obtain ⟨g1, g2⟩ := g1 hk1
          exact px_after (va_runS (As := ((st.take M2.1.2.2.2.2).reverse).map (px_tr ad)) S hMet ⟨callB_of M2.1.2.2.2.2 hts hG rfl rfl rfl (hts _ o3) (hts _ g1) o4 hR, hts _ g2⟩ ⟨hbl _, hPc _⟩ rfl (by simp; omega) hl.1 rfl (lv_room (by rw [px_tr_sum]; exact hcs.2.2)) hd ⟨hcc, hss⟩) hfr hlocs kk
        · obtain ⟨g1, g2⟩ := g4 hk1
          exact px_after (va_runSN (As := ((st.take M2.1.2.2.2.2).reverse).map (px_tr ad)) S hMet ⟨va_cnB M2.1.2.2.2.2 hts hG rfl rfl rfl (hNs _ g1) (hts _ o3) o4 hR, hts _ g2, trivial⟩ ⟨hbl _, hPc _⟩ rfl (by simp; omega) hl.1 rfl (lv_room (by rw [px_tr_sum]; exact hcs.2.2)) hd ⟨hcc, hss⟩) hfr hlocs kk
      · cases hz
    · cases hz
  · split at hz
    · rename_i hc
      rw [hc] at hd
      obtain ⟨k, hk, hz1⟩ := Option.bind_eq_some_iff.mp hz
      clear hz
      obtain ⟨M2, hM2, hz⟩ := Option.bind_eq_some_iff.mp hz1
      clear hz1
      split at hz
      · rename_i b r hdr
        split at hz
        · rename_i hcs
          cases hz
          have e2 : M2 = M' := Option.some.inj (hM2.symm.trans hM')
          subst e2
          obtain ⟨-, -, g2, -, g5⟩ := (hL.2.1 _ (px_look_mem hk)).2.2.1 M2 hM2
          have hPre := hPc (.ref b :: (st.take M2.1.2.2.2.2).reverse)
          rw [List.map_cons, px_ad had hcs.2.2.1] at hPre
          rw [px_stack hdr, px_ad had hcs.2.2.1]
          obtain ⟨⟨y2, cc2, mx2, ret2, n2⟩, co2, L2⟩ := M2
          have hn2 : n2 ≤ st.length := hcs.2.1
          rcases hcs.1 with hk1 | hk1
          · obtain ⟨g1, g2, g3, g4⟩ := g2 hk1
            cases g4
            exact px_after (va_runI (As := ((st.take n2).reverse).map (px_tr ad)) S hMet ⟨callB_of n2 hts hG rfl rfl rfl (hts _ o3) (hts _ g1) o4 hR, g2, hts _ g3⟩ ⟨hbl _, hPre⟩ rfl (by simp; omega) hl.1 rfl (lv_room (by rw [px_tr_sum]; exact hcs.2.2.2)) hd ⟨hcc, hss⟩) hfr hlocs kk
          · obtain ⟨g1, g2, g3, g4⟩ := g5 hk1
            cases g4
            exact px_after (va_runIN (As := ((st.take n2).reverse).map (px_tr ad)) S hMet ⟨va_cnB n2 hts hG rfl rfl rfl (hNs _ g1) (hts _ o3) o4 hR, g2, hts _ g3⟩ ⟨hbl _, hPre⟩ rfl (by simp; omega) hl.1 rfl (lv_room (by rw [px_tr_sum]; exact hcs.2.2.2)) hd ⟨hcc, hss⟩) hfr hlocs kk
        · cases hz
      · cases hz
    · cases hz
  · cases hz
theorem px_s5_st {i : Instr} {len : Nat} {ret : Option FieldType} {st : List Value} {v : Option Value} (hz : px_s5 i len ret st = some v) : st = v.toList := by
  unfold px_s5 at hz
  split at hz
  · split at hz
    · split at hz
      · cases hz; rfl
      · cases hz
    · cases hz
  · split at hz
    · cases hz; rfl
    · cases hz
  · split at hz
    · cases hz; rfl
    · cases hz
  · cases hz
theorem px_ret_W (hx : p.tables.exec = Jvm.exec) {cc : ByteArray} (hb : c.code = cc) {ret : Option FieldType} (hr : meth.sig.returnType = ret) (hlocks : meth.locks = false) {Qc : Array Value → State → Outcome → State → Prop} {free : Addr → Prop} {i : Instr} {len : Nat} {v : Option Value} (hd : decode cc pc = .ok (i, len)) (hz : px_s5 i len ret v.toList = some v) (hq : ∀ t : State, t.heap = H → s.WarmedH t.vm → Qc args s (.returned (v.map (px_tr ad))) t) (hf : ∀ q ∈ locs, free q.base) :
    W p l e R s m args below meth c H locs cells slots (MQ below Qc args s cells slots free) (F0 m pc ls (v.toList.map (px_tr ad))) := by
  generalize hst : v.toList = st at hz
  unfold px_s5 at hz
  split at hz
  · split at hz
    · split at hz
      · rename_i hc
        cases hz
        rw [hc.1] at hd
        exact W.zret hx hb hr hc.2 hq hf hd hlocks
      · cases hz
    · cases hz
  · split at hz
    · rename_i hc
      cases hz
      rw [hc.1] at hd
      rw [hc.2] at hr
      exact W.lret hx hb hr hq hf hd hlocks
    · cases hz
  · split at hz
    · rename_i hc
      cases hz
      rw [hc.1] at hd
      rw [hc.2] at hr
      exact W.vret hx hb hr hq hf hd hlocks
    · cases hz
  · cases hz
end PX4
def px_Goal (Ts Ns : List Cond) (cl : List vw_C) (lt : List (List Int32)) (SL : List (String × Nat × Nat)) (P : List px_M) (n : Nat) : Prop :=
  ∀ (d : Nat) (scr : Option (List Int32)) (M : px_M) (pc : Nat) (lv : List (Nat × Value)) (st : List Value) (w : px_W) (b : Nat × Nat) (r : Option Value × px_W × (Nat × Nat)), px_exec cl lt P n d scr M pc lv st w b = some r → (∀ q ∈ M.2.1, decode M.1.2.1 q.1 = .ok q.2) ∧ px_okL Ts Ns cl SL P M.1.1.cls M.2.2 →
  ∀ (D : va_G) (cI cJ : ClassId) (B : Nat) (ad : Nat → Option Nat) (p : Program) (l : Launch) (e : Env) (R : Room) (s : State) (m : MethodId) (args : Array Value) (below : List Frame) (meth : Method) (c : Code) (H : Heap) (locs : List Loc) (cells slots : Nat) (Q : State → Prop) (ls : Array Slot),
  (∀ k, ad (64 + k) = some (B + k)) → px_Env Ts Ns cl D cI cJ M.1 p s m args meth c → lv_has ls M.1.2.2.1 (px_lv ad lv) → px_H cl ad D cI cJ B w H → (∀ q, q < B → H[q]? = s.heap[q]?) → (∀ q ∈ locs, B ≤ q.base) → d ≤ R.frames → 100 * d ≤ R.locals → cells + (b.1 - r.2.2.1) ≤ R.cells → slots + (b.2 - r.2.2.2) ≤ R.slots →
  (∀ xs, scr = some xs → ∃ b0, ad 0 = some b0 ∧ va_X b0 xs.length (fun j => xs.getD j 0) s s.heap ∧ b0 < B) → px_X lt SL ad B s s.heap →
  (∀ (H1 : Heap) (ls1 : Array Slot) (pc1 : Nat) (i1 : Instr) (len1 : Nat) (locs1 : List Loc) (cells1 slots1 : Nat), px_H cl ad D cI cJ B r.2.1 H1 → (∀ q, q < B → H1[q]? = s.heap[q]?) → (∀ q ∈ locs1, B ≤ q.base) → decode M.1.2.1 pc1 = .ok (i1, len1) → px_s5 i1 len1 M.1.2.2.2.1 r.1.toList = some r.1 → cells1 ≤ cells + (b.1 - r.2.2.1) → slots1 ≤ slots + (b.2 - r.2.2.2) → W p l e R s m args below meth c H1 locs1 cells1 slots1 Q (F0 m pc1 ls1 (r.1.toList.map (px_tr ad)))) →
  W p l e R s m args below meth c H locs cells slots Q (F0 m pc ls (st.map (px_tr ad)))
theorem px_met {Ts Ns : List Cond} {cl : List vw_C} {lt : List (List Int32)} {SL : List (String × Nat × Nat)} {P : List px_M} (hO : px_okP Ts Ns cl SL P) {n : Nat} (IH : px_Goal Ts Ns cl lt SL P n) {d : Nat} {M : px_M} {as : List Value} {w : px_W} {b : Nat × Nat} {r : Option Value × px_W × (Nat × Nat)} (hex : px_exec cl lt P n d none M 0 (lv_args 0 as) [] w b = some r) (hM : M ∈ P) (hfit : (lg_sl as).length ≤ M.1.2.2.1)
    (l : Launch) (D : va_G) (cI cJ : ClassId) (B : Nat) (ad : Nat → Option Nat) (had : ∀ k, ad (64 + k) = some (B + k)) : Met l M.1.1 (Cond.code M.1.1 M.1.2.1 M.1.2.2.1 M.1.2.2.2.1 :: Ts) { frames := d, cells := b.1 - r.2.2.1, slots := b.2 - r.2.2.2, locals := 100 * d } (px_Pc Ns cl lt SL ad D cI cJ B as w) (px_Qc cl ad D cI cJ B r.1 r.2.1) (b.1 - r.2.2.1) (b.2 - r.2.2.2) (fun a => B ≤ a) := by
  obtain ⟨⟨o1, o2, o3, o4, o5⟩, -, -⟩ := hO.2.1 M hM
  refine Met.ofW (cc := M.1.2.1) (maxL := M.1.2.2.1) (ret := M.1.2.2.2.1) o2 rfl ?_
  intro p e s m args below meth c s₁ Bd hml hv
  obtain ⟨rfl, hH, hK, hN, hXX⟩ := hv
  have hts0 := atoms_spec (ws := Cond.code M.1.1 M.1.2.1 M.1.2.2.1 M.1.2.2.2.1 :: Ts) Bd.pre
  have hts : ∀ x ∈ Ts, x.before _ s = true := fun x hx => hts0 x (List.mem_cons_of_mem _ hx)
  have hown : s.vm.findClass M.1.1.cls = some m.cls := findClass_of_methodNamed Bd.named
  have hnm : M.1.1.name = "<init>" → meth.name = "<init>" := fun z => (name_of_methodNamed Bd.named Bd.method).1.trans z
  have hl := lv_entry (as.map (px_tr ad)) (n := M.1.2.2.1) (by rw [px_sl_tr]; exact hfit)
  rw [px_args_tr] at hl
  rw [lg_entry_eq]
  refine IH d none M 0 _ [] w b r hex (hO.2.1 M hM).2 D cI cJ B ad p l e _ s m _ below meth c s.heap [] 0 0 _ _ had ⟨Bd.exec, Bd.bytes, hml, Bd.returns, Bd.notSynchronized, hnm, hown, hts, hK, hN⟩ hl hH (fun _ _ => rfl) (fun _ z => by cases z) (Nat.le_refl _) (Nat.le_refl _) (by show 0 + (b.1 - r.2.2.1) ≤ b.1 - r.2.2.1; omega) (by show 0 + (b.2 - r.2.2.2) ≤ b.2 - r.2.2.2; omega) (fun _ z => by cases z) hXX ?_
  intro H1 ls1 pc1 i1 len1 locs1 cells1 slots1 a1 a2 a3 a4 a5 a6 a7
  refine W.widen (k := b.1 - r.2.2.1) (n := b.2 - r.2.2.2) (by omega) (by omega) ?_
  exact px_ret_W Bd.exec Bd.bytes Bd.returns Bd.notSynchronized a4 a5 (fun t ht _ => ⟨rfl, by rw [ht]; exact a1, fun q hq => by rw [ht]; exact a2 q hq⟩) a3
theorem px_sim {Ts Ns : List Cond} {cl : List vw_C} {lt : List (List Int32)} {SL : List (String × Nat × Nat)} {P : List px_M} (hO : px_okP Ts Ns cl SL P) : ∀ n, px_Goal Ts Ns cl lt SL P n := by
  intro n
  induction n with
  | zero =>
    intro d scr M pc lv st w b r hex
    simp [px_exec] at hex
  | succ n IH =>
    intro d scr M pc lv st w b r hex hM D cI cJ B ad p l e R s m args below meth c H locs cells slots Q ls had E hl hH hfr hlocs hdf hdl hcc hss hscr hXX hret
    obtain ⟨hdec, hL⟩ := id hM
    unfold px_exec at hex
    split at hex
    · cases hex
    · rename_i z hst
      split at hex
      · rename_i hbud
        have hmo := px_mono _ _ _ _ _ _ _ _ _ _ hex
        simp only at hmo
        unfold px_step at hst
        obtain ⟨q, hq, hs⟩ := Option.bind_eq_some_iff.mp hst
        clear hst
        have hd := hdec _ (px_look_mem hq)
        have hs1 := px_or_some hs
        clear hs
        rcases hs1 with hs | hs
        · obtain ⟨y, hy, hs2⟩ := Option.map_eq_some_iff.mp hs
          cases hs2
          refine px_W1 E.1 E.2.1 ad hd hy hl (fun ls' hl' => ?_)
          exact IH d scr M _ _ _ w _ r hex hM D cI cJ B ad p l e R s m args below meth c H locs cells slots Q ls' had E hl' hH hfr hlocs hdf hdl hcc hss hscr hXX hret
        have hs1 := px_or_some hs
        clear hs
        rcases hs1 with hs | hs
        · obtain ⟨y, hy, hs2⟩ := Option.map_eq_some_iff.mp hs
          cases hs2
          simp only at hbud hmo hex
          refine px_W2 E hO.1 hL hO.2.2.1 hO.2.2.2.1 had hd hy hH hfr hlocs (by omega) (by omega) hscr hXX (fun H1 locs1 a1 a2 a3 => ?_)
          exact IH d scr M _ _ _ _ _ r hex hM D cI cJ B ad p l e R s m args below meth c H1 locs1 _ _ Q ls had E hl a1 a2 a3 hdf hdl (by simp only; omega) (by simp only; omega) hscr hXX (fun H2 ls2 pc2 i2 len2 locs2 cells2 slots2 b1 b2 b3 b4 b5 b6 b7 => hret H2 ls2 pc2 i2 len2 locs2 cells2 slots2 b1 b2 b3 b4 b5 (by simp only at b6; omega) (by simp only at b7; omega))
        have hs1 := px_or_some hs
        clear hs
        rcases hs1 with hs | hs
        · obtain ⟨y, hy, hs2⟩ := Option.map_eq_some_iff.mp hs
          cases hs2
        have hs1 := px_or_some hs
        clear hs
        rcases hs1 with hs | hs
        · obtain ⟨y, hy, hs2⟩ := Option.map_eq_some_iff.mp hs
          cases hs2
          refine px_W3 E hL had hl hd hy hH hfr hlocs hdf hdl (fun H1 locs1 a1 a2 a3 => ?_)
          exact IH d scr M _ _ _ _ _ r hex hM D cI cJ B ad p l e R s m args below meth c H1 locs1 cells slots Q ls had E hl a1 a2 a3 hdf hdl hcc hss hscr hXX hret
        have hs1 := px_or_some hs
        clear hs
        rcases hs1 with hs | hs
        · obtain ⟨y, hy, hs2⟩ := Option.map_eq_some_iff.mp hs
          cases hs2
          refine px_W6 E hL hl hd hy hdf hdl (by omega) (by omega) ?_
          exact IH d scr M _ _ _ _ _ r hex hM D cI cJ B ad p l e R s m args below meth c H locs cells slots Q ls had E hl hH hfr hlocs hdf hdl hcc hss hscr hXX hret
        · obtain ⟨y, hy, hs2⟩ := Option.map_eq_some_iff.mp hs
          cases hs2
      · cases hex
    · rename_i v hst
      cases hex
      unfold px_step at hst
      obtain ⟨q, hq, hs⟩ := Option.bind_eq_some_iff.mp hst
      clear hst
      have hd := hdec _ (px_look_mem hq)
      have hs1 := px_or_some hs
      clear hs
      rcases hs1 with hs | hs
      · obtain ⟨y, hy, hs2⟩ := Option.map_eq_some_iff.mp hs
        cases hs2
      have hs1 := px_or_some hs
      clear hs
      rcases hs1 with hs | hs
      · obtain ⟨y, hy, hs2⟩ := Option.map_eq_some_iff.mp hs
        cases hs2
      have hs1 := px_or_some hs
      clear hs
      rcases hs1 with hs | hs
      · obtain ⟨y, hy, hs2⟩ := Option.map_eq_some_iff.mp hs
        cases hs2
        have hst := px_s5_st hy
        subst hst
        exact hret H ls pc _ _ locs cells slots hH hfr hlocs hd hy (by omega) (by omega)
      have hs1 := px_or_some hs
      clear hs
      rcases hs1 with hs | hs
      · obtain ⟨y, hy, hs2⟩ := Option.map_eq_some_iff.mp hs
        cases hs2
      have hs1 := px_or_some hs
      clear hs
      rcases hs1 with hs | hs
      · obtain ⟨y, hy, hs2⟩ := Option.map_eq_some_iff.mp hs
        cases hs2
      · obtain ⟨y, hy, hs2⟩ := Option.map_eq_some_iff.mp hs
        cases hs2
    · rename_i k hst
      split at hex
      · rename_i d' M' hM'
        split at hex
        · rename_i hfit
          split at hex
          · cases hex
          · rename_i r2 hex2
            have hm1 := px_mono _ _ _ _ _ _ _ _ _ _ hex2
            have hm2 := px_mono _ _ _ _ _ _ _ _ _ _ hex
            unfold px_step at hst
            obtain ⟨q, hq, hs⟩ := Option.bind_eq_some_iff.mp hst
            clear hst
            have hd := hdec _ (px_look_mem hq)
            have hs1 := px_or_some hs
            clear hs
            rcases hs1 with hs | hs
            · obtain ⟨y, hy, hs2⟩ := Option.map_eq_some_iff.mp hs
              cases hs2
            have hs1 := px_or_some hs
            clear hs
            rcases hs1 with hs | hs
            · obtain ⟨y, hy, hs2⟩ := Option.map_eq_some_iff.mp hs
              cases hs2
            have hs1 := px_or_some hs
            clear hs
            rcases hs1 with hs | hs
            · obtain ⟨y, hy, hs2⟩ := Option.map_eq_some_iff.mp hs
              cases hs2
            have hs1 := px_or_some hs
            clear hs
            rcases hs1 with hs | hs
            · obtain ⟨y, hy, hs2⟩ := Option.map_eq_some_iff.mp hs
              cases hs2
            have hs1 := px_or_some hs
            clear hs
            rcases hs1 with hs | hs
            · obtain ⟨y, hy, hs2⟩ := Option.map_eq_some_iff.mp hs
              cases hs2
            · obtain ⟨y, hy, hs2⟩ := Option.map_eq_some_iff.mp hs
              cases hs2
              have hMet := px_met hO IH hex2 (List.mem_of_getElem? hM') hfit l D cI cJ B ad had
              refine px_W4 E hO hL had hl hd hy hM' hMet hH hfr hlocs hXX hdf hdl (by omega) (by omega) (fun H1 locs1 a1 a2 a3 => ?_)
              have e2 : (r2.1.map (px_tr ad)).toList ++ k.2.2.map (px_tr ad) = (r2.1.toList ++ k.2.2).map (px_tr ad) := by
                rw [List.map_append]
                cases r2.1 <;> rfl
              rw [e2]
              exact IH _ scr M _ _ _ _ _ r hex hM D cI cJ B ad p l e R s m args below meth c H1 locs1 _ _ Q ls had E hl a1 a2 a3 hdf hdl (by omega) (by omega) hscr hXX (fun H2 ls2 pc2 i2 len2 locs2 cells2 slots2 b1 b2 b3 b4 b5 b6 b7 => hret H2 ls2 pc2 i2 len2 locs2 cells2 slots2 b1 b2 b3 b4 b5 (by omega) (by omega))
        · cases hex
      · cases hex

end
end
section
noncomputable section
/-! CHECKS BY PROGRAM of what the tables must say -/
def px_T (l : List (String × String × String × Bool)) : u_T := fun k => l.getD k ("", "", "", false)
def px_Ts : List Cond := lw_tbl.filter goodWord
def px_isN (w : Cond) : Bool := match w with
  | .methodLinkNest _ _ _ _ => true
  | _ => false
def px_Ns : List Cond := tables_1.filter px_isN
theorem px_Ns_ok : ∀ x ∈ px_Ns, ∃ (a : String) (i : Nat) (y : MethodName) (h : String), x = Cond.methodLinkNest a i y h := by
  intro x hx
  have h := (List.mem_filter.mp hx).2
  unfold px_isN at h
  split at h
  · exact ⟨_, _, _, _, rfl⟩
  · cases h
theorem px_Ts_good : ∀ w ∈ px_Ts, goodWord w = true := fun w hw => (List.mem_filter.mp hw).2
def px_wd (k : Nat) (w : Cond) : Bool := goodWord w && decide (lw_tbl[k]? = some w)
theorem px_wd_in {k : Nat} {w : Cond} (h : px_wd k w = true) : w ∈ px_Ts := by
  unfold px_wd at h
  simp only [Bool.and_eq_true, decide_eq_true_eq] at h
  exact List.mem_filter.mpr ⟨List.mem_of_getElem? h.2, h.1⟩
def px_wn (k : Nat) (w : Cond) : Bool := decide (px_Ns[k]? = some w)
theorem px_wn_in {k : Nat} {w : Cond} (h : px_wn k w = true) : w ∈ px_Ns := List.mem_of_getElem? (of_decide_eq_true h)
def px_all2 {α β : Type} (f : α → β → Bool) : List α → List β → Bool
  | [], _ => true
  | a :: l, b :: m => f a b && px_all2 f l m
  | _ :: _, [] => false
theorem px_all2_mem {α β : Type} {f : α → β → Bool} : ∀ {l : List α} {m : List β}, px_all2 f l m = true → ∀ a ∈ l, ∃ b, f a b = true
  | [], _, _, _, ha => absurd ha List.not_mem_nil
  | x :: l, [], h, _, _ => by simp [px_all2] at h
  | x :: l, b :: m, h, a, ha => by
    simp only [px_all2, Bool.and_eq_true] at h
    rcases List.mem_cons.mp ha with e | e
    · subst e; exact ⟨b, h.1⟩
    · exact px_all2_mem h.2 a e
def px_bK (r : vw_C) (hs : List Nat) (ki kn : Nat) : Bool :=
  (List.range r.2.2).all (fun k => px_wd (hs.getD k 0) (u_lay r.1 r.2.1 k)) && ((List.range r.2.2).all (fun k => (parseFieldDescriptor (r.2.1 k).2.2.1).isSome) && ((List.range r.2.2).all (fun a => (List.range r.2.2).all (fun b => a == b || !(decide ((r.2.1 a).2.1 = (r.2.1 b).2.1)))) && (px_wd ki (.instantiable r.1 r.2.2) && px_wd kn (.initialized r.1))))
theorem px_bK_ok {r : vw_C} {hs : List Nat} {ki kn : Nat} (h : px_bK r hs ki kn = true) : px_okK px_Ts r := by
  unfold px_bK at h
  simp only [Bool.and_eq_true] at h
  obtain ⟨h1, h2, h3, h4, h5⟩ := h
  refine ⟨fun w hw => ?_, fun k hk => ?_, fun a ha b hb hab => ?_, px_wd_in h4, px_wd_in h5⟩
  · obtain ⟨k, hk, rfl⟩ := List.mem_map.mp hw
    exact px_wd_in (List.all_eq_true.mp h1 k hk)
  · have h6 := List.all_eq_true.mp h2 k (List.mem_range.mpr hk)
    unfold px_ty
    cases hp : parseFieldDescriptor (r.2.1 k).2.2.1 with
    | none => rw [hp] at h6; cases h6
    | some t => rfl
  · have h6 := List.all_eq_true.mp (List.all_eq_true.mp h3 a (List.mem_range.mpr ha)) b (List.mem_range.mpr hb)
    simp only [Bool.or_eq_true, beq_iff_eq, Bool.not_eq_true', decide_eq_false_iff_not] at h6
    exact h6.elim (fun e => absurd e hab) id
def px_bF (cl : List vw_C) (own : String) (q : Nat × Nat × Nat) (k : Nat) : Bool := match cl[q.2.1]? with
  | some r => decide (q.2.2 < r.2.2) && px_wd k (.fieldLink own q.1 (r.2.1 q.2.2).1 (r.2.1 q.2.2).2.1 (r.2.1 q.2.2).2.2.1)
  | none => false
def px_bC (P : List px_M) (own : String) (q : Nat × Nat × Nat) (h : List Nat) : Bool :=
  if q.2.1 = 6 then px_wd (h.getD 0 0) (.methodLink own q.1 arraycopyName) && (px_wd (h.getD 1 0) (.native arraycopyName) && (px_wd (h.getD 2 0) (.static arraycopyName) && px_wd (h.getD 3 0) (.initialized "java/lang/System")))
  else if q.2.1 = 7 then px_wd (h.getD 0 0) (.methodLink own q.1 objectInit) && (px_wd (h.getD 1 0) (.instanceMethod objectInit) && px_wd (h.getD 2 0) (.code objectInit ⟨#[0xb1]⟩ 1 none))
  else if q.2.1 = 8 then px_wd (h.getD 0 0) (.methodLink own q.1 Lib.Math.max.name) && (px_wd (h.getD 1 0) (.static Lib.Math.max.name) && (px_wd (h.getD 2 0) (.initialized "java/lang/Math") && px_wd (h.getD 3 0) (.code Lib.Math.max.name Lib.Math.max.code 2 (some .int))))
  else if q.2.1 = 9 then px_wd (h.getD 0 0) (.methodLink own q.1 Lib.Math.min.name) && (px_wd (h.getD 1 0) (.static Lib.Math.min.name) && (px_wd (h.getD 2 0) (.initialized "java/lang/Math") && px_wd (h.getD 3 0) (.code Lib.Math.min.name Lib.Math.min.code 2 (some .int))))
  else if q.2.1 = 10 then px_wd (h.getD 0 0) (.methodLink own q.1 Lib.Math.abs.name) && (px_wd (h.getD 1 0) (.static Lib.Math.abs.name) && (px_wd (h.getD 2 0) (.initialized "java/lang/Math") && px_wd (h.getD 3 0) (.code Lib.Math.abs.name Lib.Math.abs.code 1 (some .int))))
  else match P[q.2.2]? with
  | none => false
  | some M => if q.2.1 = 0 then px_wd (h.getD 0 0) (.methodLink own q.1 M.1.1) && (px_wd (h.getD 1 0) (.instanceMethod M.1.1) && px_wd (h.getD 2 0) (.selects M.1.1.cls M.1.1 M.1.1))
    else if q.2.1 = 1 then px_wd (h.getD 0 0) (.methodLink own q.1 M.1.1) && px_wd (h.getD 1 0) (.static M.1.1)
    else if q.2.1 = 2 then px_wd (h.getD 0 0) (.methodLink own q.1 M.1.1) && (decide (M.1.1.name = "<init>") && (px_wd (h.getD 1 0) (.instanceMethod M.1.1) && M.1.2.2.2.1.isNone))
    else if q.2.1 = 4 then px_wn (h.getD 0 0) (.methodLinkNest own q.1 M.1.1 "HalfBoats") && px_wd (h.getD 1 0) (.static M.1.1)
    else if q.2.1 = 5 then px_wn (h.getD 0 0) (.methodLinkNest own q.1 M.1.1 "HalfBoats") && (decide (M.1.1.name = "<init>") && (px_wd (h.getD 1 0) (.instanceMethod M.1.1) && M.1.2.2.2.1.isNone))
    else false
theorem px_bC_ok {P : List px_M} {own : String} {q : Nat × Nat × Nat} {h : List Nat} (hb : px_bC P own q h = true) : px_okC px_Ts px_Ns P own q := by
  unfold px_bC at hb
  refine ⟨fun e => ?_, fun e => ?_, fun M hM => ⟨fun e => ?_, fun e => ?_, fun e => ?_, fun e => ?_, fun e => ?_⟩, fun e => ?_, fun e => ?_, fun e => ?_⟩
  · rw [if_pos e] at hb
    simp only [Bool.and_eq_true] at hb
    exact ⟨px_wd_in hb.1, px_wd_in hb.2.1, px_wd_in hb.2.2.1, px_wd_in hb.2.2.2⟩
  · rw [if_neg (by omega), if_pos e] at hb
    simp only [Bool.and_eq_true] at hb
    exact ⟨px_wd_in hb.1, px_wd_in hb.2.1, px_wd_in hb.2.2⟩
  · rw [if_neg (by omega), if_neg (by omega), if_neg (by omega), if_neg (by omega), if_neg (by omega), hM] at hb
    simp only [if_pos e, Bool.and_eq_true] at hb
    exact ⟨px_wd_in hb.1, px_wd_in hb.2.1, px_wd_in hb.2.2⟩
  · rw [if_neg (by omega), if_neg (by omega), if_neg (by omega), if_neg (by omega), if_neg (by omega), hM] at hb
    dsimp only at hb
    rw [if_neg (by omega), if_pos e] at hb
    simp only [Bool.and_eq_true] at hb
    exact ⟨px_wd_in hb.1, px_wd_in hb.2⟩
  · rw [if_neg (by omega), if_neg (by omega), if_neg (by omega), if_neg (by omega), if_neg (by omega), hM] at hb
    dsimp only at hb
    rw [if_neg (by omega), if_neg (by omega), if_pos e] at hb
    simp only [Bool.and_eq_true, decide_eq_true_eq, Option.isNone_iff_eq_none] at hb
    exact ⟨px_wd_in hb.1, hb.2.1, px_wd_in hb.2.2.1, hb.2.2.2⟩
  · rw [if_neg (by omega), if_neg (by omega), if_neg (by omega), if_neg (by omega), if_neg (by omega), hM] at hb
    dsimp only at hb
    rw [if_neg (by omega), if_neg (by omega), if_neg (by omega), if_pos e] at hb
    simp only [Bool.and_eq_true] at hb
    exact ⟨px_wn_in hb.1, px_wd_in hb.2⟩
  · rw [if_neg (by omega), if_neg (by omega), if_neg (by omega), if_neg (by omega), if_neg (by omega), hM] at hb
    dsimp only at hb
    rw [if_neg (by omega), if_neg (by omega), if_neg (by omega), if_neg (by omega), if_pos e] at hb
    simp only [Bool.and_eq_true, decide_eq_true_eq, Option.isNone_iff_eq_none] at hb
    exact ⟨px_wn_in hb.1, hb.2.1, px_wd_in hb.2.2.1, hb.2.2.2⟩
  · rw [if_neg (by omega), if_neg (by omega), if_pos e] at hb
    simp only [Bool.and_eq_true] at hb
    exact ⟨px_wd_in hb.1, px_wd_in hb.2.1, px_wd_in hb.2.2.1, px_wd_in hb.2.2.2⟩
  · rw [if_neg (by omega), if_neg (by omega), if_neg (by omega), if_pos e] at hb
    simp only [Bool.and_eq_true] at hb
    exact ⟨px_wd_in hb.1, px_wd_in hb.2.1, px_wd_in hb.2.2.1, px_wd_in hb.2.2.2⟩
  · rw [if_neg (by omega), if_neg (by omega), if_neg (by omega), if_neg (by omega), if_pos e] at hb
    simp only [Bool.and_eq_true] at hb
    exact ⟨px_wd_in hb.1, px_wd_in hb.2.1, px_wd_in hb.2.2.1, px_wd_in hb.2.2.2⟩
def px_bKl (cl : List vw_C) (own : String) (q : Nat × Nat) (k : Nat) : Bool := match cl[q.2]? with
  | some r => px_wd k (.classLink own q.1 r.1)
  | none => false
def px_bS (own : String) (q : Nat × Nat) (k : Nat) : Bool := if q.2 = 0 then px_wd k (.fieldLink own q.1 "java/lang/String" "COMPACT_STRINGS" "Z") else if q.2 = 1 then px_wd k (.fieldLink own q.1 "jdk/internal/util/Preconditions" "SIOOBE_FORMATTER" "Ljava/util/function/BiFunction;") else false
def px_bX (own : String) (q : Nat × Nat) (k : Nat) : Bool := if q.2 = 0 then px_wd k (.fieldLink own q.1 "java/lang/String" "value" "[B") else if q.2 = 1 then px_wd k (.fieldLink own q.1 "java/lang/String" "coder" "B") else false
def px_bL (cl : List vw_C) (SL : List (String × Nat × Nat)) (P : List px_M) (own : String) (L : px_L) (h : List Nat × List (List Nat) × List Nat × List Nat × List Nat × List Nat × List Nat) : Bool :=
  px_all2 (px_bF cl own) L.1 h.1 && (px_all2 (px_bC P own) L.2.1 h.2.1 && (px_all2 (px_bKl cl own) L.2.2.1 h.2.2.1 && (px_all2 (fun q k => px_wd k (.constant own q.1 q.2)) L.2.2.2.1 h.2.2.2.1 && (px_all2 (fun q k => px_wd k (.constantLong own q.1 q.2)) L.2.2.2.2.1 h.2.2.2.2.1 && (L.2.2.2.2.2.1.all (fun q => decide ((own, q.1, q.2) ∈ SL)) && (px_all2 (px_bS own) L.2.2.2.2.2.2.1 h.2.2.2.2.2.1 && px_all2 (px_bX own) L.2.2.2.2.2.2.2 h.2.2.2.2.2.2))))))
theorem px_bL_ok {cl : List vw_C} {SL : List (String × Nat × Nat)} {P : List px_M} {own : String} {L : px_L} {h : List Nat × List (List Nat) × List Nat × List Nat × List Nat × List Nat × List Nat} (hb : px_bL cl SL P own L h = true) : px_okL px_Ts px_Ns cl SL P own L := by
  unfold px_bL at hb
  simp only [Bool.and_eq_true] at hb
  obtain ⟨h1, h2, h3, h4, h5, h6, h7, h8⟩ := hb
  refine ⟨fun q hq => ?_, fun q hq => ?_, fun q hq => ?_, fun q hq => ?_, fun q hq => ?_, fun q hq => ?_, fun q hq => ?_, fun q hq => ?_⟩
  · obtain ⟨k, hk⟩ := px_all2_mem h1 q hq
    unfold px_bF at hk
    split at hk
    · rename_i r hr
      simp only [Bool.and_eq_true, decide_eq_true_eq] at hk
      exact ⟨r, hr, hk.1, px_wd_in hk.2⟩
    · cases hk
  · obtain ⟨k, hk⟩ := px_all2_mem h2 q hq
    exact px_bC_ok hk
  · obtain ⟨k, hk⟩ := px_all2_mem h3 q hq
    unfold px_bKl at hk
    split at hk
    · rename_i r hr
      exact ⟨r, hr, px_wd_in hk⟩
    · cases hk
  · obtain ⟨k, hk⟩ := px_all2_mem h4 q hq
    exact px_wd_in hk
  · obtain ⟨k, hk⟩ := px_all2_mem h5 q hq
    exact px_wd_in hk
  · exact of_decide_eq_true (List.all_eq_true.mp h6 q hq)
  · obtain ⟨k, hk⟩ := px_all2_mem h7 q hq
    unfold px_bS at hk
    refine ⟨fun e => ?_, fun e => ?_⟩
    · rw [if_pos e] at hk; exact px_wd_in hk
    · rw [if_neg (by omega), if_pos e] at hk; exact px_wd_in hk
  · obtain ⟨k, hk⟩ := px_all2_mem h8 q hq
    unfold px_bX at hk
    refine ⟨fun e => ?_, fun e => ?_⟩
    · rw [if_pos e] at hk; exact px_wd_in hk
    · rw [if_neg (by omega), if_pos e] at hk; exact px_wd_in hk
theorem px_code_in {k : Nat} {y : MethodName} {cc : ByteArray} {mx : Nat} {rt : Option FieldType} (h : lw_tbl[k]? = some (Cond.code y cc mx rt)) : Cond.code y cc mx rt ∈ px_Ts := List.mem_filter.mpr ⟨List.mem_of_getElem? h, rfl⟩
def px_bM (h : px_Hd) (ki : Nat) : Bool := plainName h.1.cls && (px_wd ki (.initialized h.1.cls) && (decide (h.1.cls ≠ "java/lang/invoke/MethodHandle") && (decide (h.1.cls ≠ "java/lang/invoke/VarHandle") && (decide ((parseMethodDescriptor h.1.desc).map (fun d => d.parameters.length) = some h.2.2.2.2) && decide (h.2.2.1 ≤ 64)))))
theorem px_bM_ok {h : px_Hd} {k ki : Nat} (hw : lw_tbl[k]? = some (Cond.code h.1 h.2.1 h.2.2.1 h.2.2.2.1)) (hb : px_bM h ki = true) : Cond.code h.1 h.2.1 h.2.2.1 h.2.2.2.1 ∈ px_Ts ∧ plainName h.1.cls = true ∧ Cond.initialized h.1.cls ∈ px_Ts ∧ (h.1.cls ≠ "java/lang/invoke/MethodHandle" ∧ h.1.cls ≠ "java/lang/invoke/VarHandle" ∧ (parseMethodDescriptor h.1.desc).map (fun d => d.parameters.length) = some h.2.2.2.2) ∧ h.2.2.1 ≤ 64 := by
  unfold px_bM at hb
  simp only [Bool.and_eq_true, decide_eq_true_eq] at hb
  exact ⟨px_code_in hw, hb.1, px_wd_in hb.2.1, ⟨hb.2.2.1, hb.2.2.2.1, hb.2.2.2.2.1⟩, hb.2.2.2.2.2⟩

end
end
section
noncomputable section
/-! TABLES THAT ARE LOOKED UP QUICKLY: in blocks of 20, rows in chunks -/
abbrev px_Q : Type := px_M × Nat × List (Nat × List (Nat × Instr × Nat))
def px_lc (M : px_M) (l : List (Nat × List (Nat × Instr × Nat))) (pc : Nat) : Option (px_M × Instr × Nat) := List.rec (motive := fun _ => Option (px_M × Instr × Nat)) none (fun q _ ih => cond (Nat.ble pc q.1) (Option.rec (motive := fun _ => Option (px_M × Instr × Nat)) none (fun z => some (M, z)) (px_look q.2 pc)) ih) l
def px_cat : List (Nat × List (Nat × Instr × Nat)) → List (Nat × Instr × Nat)
  | [] => []
  | q :: r => q.2 ++ px_cat r
def px_bd (l : List (Nat × List (Nat × Instr × Nat))) : Bool := l.all (fun q => q.2.all (fun z => Nat.ble z.1 q.1))
theorem px_look_app {α : Type} {b : List (Nat × α)} {k : Nat} {v : α} : ∀ {a : List (Nat × α)}, px_look a k = some v → px_look (a ++ b) k = some v
  | [], h => by cases h
  | q :: r, h => by
    rw [px_look_cons] at h
    show px_look (q :: (r ++ b)) k = some v
    rw [px_look_cons]
    split
    · rename_i e
      rw [if_pos e] at h
      exact h
    · rename_i e
      rw [if_neg e] at h
      exact px_look_app h
theorem px_look_pass {α : Type} {b : List (Nat × α)} {k n : Nat} (hk : n < k) : ∀ {a : List (Nat × α)}, (∀ z ∈ a, z.1 ≤ n) → px_look (a ++ b) k = px_look b k
  | [], _ => rfl
  | q :: r, h => by
    show px_look (q :: (r ++ b)) k = px_look b k
    have h1 := h q List.mem_cons_self
    rw [px_look_cons, if_neg (by omega)]
    exact px_look_pass hk (fun z hz => h z (List.mem_cons_of_mem _ hz))
theorem px_lc_ok {M : px_M} {pc : Nat} {z : px_M × Instr × Nat} : ∀ {l : List (Nat × List (Nat × Instr × Nat))}, px_bd l = true → px_lc M l pc = some z → z.1 = M ∧ px_look (px_cat l) pc = some z.2
  | [], _, h => by cases h
  | q :: r, hb, h => by
    have hb' : (q.2.all (fun z => Nat.ble z.1 q.1) && px_bd r) = true := hb
    rw [Bool.and_eq_true] at hb'
    have h0 : cond (Nat.ble pc q.1) (Option.rec (motive := fun _ => Option (px_M × Instr × Nat)) none (fun z => some (M, z)) (px_look q.2 pc)) (px_lc M r pc) = some z := h
    cases hc : Nat.ble pc q.1 with
    | true =>
      rw [hc] at h0
      have h1 : Option.rec (motive := fun _ => Option (px_M × Instr × Nat)) none (fun z => some (M, z)) (px_look q.2 pc) = some z := h0
      cases hl : px_look q.2 pc with
      | none =>
        rw [hl] at h1
        have h2 : (none : Option (px_M × Instr × Nat)) = some z := h1
        cases h2
      | some y =>
        rw [hl] at h1
        have h2 : some (M, y) = some z := h1
        cases h2
        exact ⟨rfl, px_look_app hl⟩
    | false =>
      rw [hc] at h0
      have h1 : px_lc M r pc = some z := h0
      obtain ⟨h2, h3⟩ := px_lc_ok (l := r) hb'.2 h1
      refine ⟨h2, ?_⟩
      have hlt : q.1 < pc := Nat.lt_of_not_le (fun hle => by
        have := Nat.ble_eq_true_of_le hle
        rw [hc] at this
        cases this)
      show px_look (q.2 ++ px_cat r) pc = some z.2
      rw [px_look_pass hlt (fun y hy => Nat.le_of_ble_eq_true (List.all_eq_true.mp hb'.1 y hy))]
      exact h3
def px_nth {α : Type} (l : List α) (n : Nat) : Option α := List.rec (motive := fun _ => Nat → Option α) (fun _ => none) (fun a _ ih n => cond (Nat.beq n 0) (some a) (ih (Nat.sub n 1))) l n
theorem px_nth_ok {α : Type} : ∀ (l : List α) (n : Nat), px_nth l n = l[n]?
  | [], _ => rfl
  | a :: r, 0 => rfl
  | a :: r, n + 1 => by
    show px_nth r n = r[n]?
    exact px_nth_ok r n
def px_g2 {α : Type} (B : List (List α)) (j : Nat) : Option α := Option.rec (motive := fun _ => Option α) none (fun b => px_nth b (Nat.mod j 20)) (px_nth B (Nat.div j 20))
def px_full {α : Type} : List (List α) → Bool
  | [] => true
  | b :: r => (Nat.beq b.length 20 || (r.isEmpty && Nat.ble b.length 20)) && px_full r
theorem px_g2_eq {α : Type} : ∀ {B : List (List α)} (j : Nat), px_full B = true → px_g2 B j = B.flatten[j]?
  | [], _, _ => rfl
  | b :: r, j, hf => by
    have hf' : ((Nat.beq b.length 20 || (r.isEmpty && Nat.ble b.length 20)) && px_full r) = true := hf
    rw [Bool.and_eq_true, Bool.or_eq_true, Bool.and_eq_true] at hf'
    rw [List.flatten_cons]
    by_cases hj : j < 20
    · have e1 : Nat.div j 20 = 0 := Nat.div_eq_of_lt hj
      have e2 : Nat.mod j 20 = j := Nat.mod_eq_of_lt hj
      have e3 : px_g2 (b :: r) j = px_nth b j := by
        unfold px_g2
        rw [e1, e2]
        rfl
      rw [e3, px_nth_ok]
      rcases hf'.1 with h1 | h1
      · rw [List.getElem?_append_left (by rw [Nat.eq_of_beq_eq_true h1]; exact hj)]
      · rw [List.isEmpty_iff.mp h1.1, List.flatten_nil, List.append_nil]
    · have e1 : Nat.div j 20 = Nat.div (j - 20) 20 + 1 := by
        have : j / 20 = (j - 20) / 20 + 1 := by omega
        exact this
      have e2 : Nat.mod j 20 = Nat.mod (j - 20) 20 := by
        have : j % 20 = (j - 20) % 20 := by omega
        exact this
      have e3 : px_g2 (b :: r) j = px_g2 r (j - 20) := by
        unfold px_g2
        rw [e1, e2]
        rfl
      rw [e3, px_g2_eq (j - 20) hf'.2]
      rcases hf'.1 with h1 | h1
      · have hb := Nat.eq_of_beq_eq_true h1
        rw [List.getElem?_append_right (by omega), hb]
      · have hb := Nat.le_of_ble_eq_true h1.2
        rw [List.isEmpty_iff.mp h1.1, List.flatten_nil, List.append_nil]
        exact (List.getElem?_eq_none (by omega : b.length ≤ j)).symm
def px_G (B : List (List px_Q)) (j pc : Nat) : Option (px_M × Instr × Nat) := Option.rec (motive := fun _ => Option (px_M × Instr × Nat)) none (fun Q => px_lc Q.1 Q.2.2 pc) (px_g2 B j)
def px_Hq (B : List (List px_Q)) (j : Nat) : Option (px_M × Nat) := Option.rec (motive := fun _ => Option (px_M × Nat)) none (fun Q => some (Q.1, Q.2.1)) (px_g2 B j)
def px_Qk (cl : List vw_C) (Q : px_Q) : Prop := Q.1.2.1 = px_cat Q.2.2 ∧ px_bd Q.2.2 = true ∧ ∀ kc, Q.2.1 ≠ 0 → cl[Q.2.1 - 1]? = some kc → kc.1 = Q.1.1.1.cls
theorem px_Qk_mk {cl : List vw_C} {M : px_M} {ci : Nat} {l : List (Nat × List (Nat × Instr × Nat))} (h1 : M.2.1 = px_cat l) (h2 : px_bd l = true) (h3 : (cl[ci]?).map (fun k => k.1) = some M.1.1.cls) : px_Qk cl (M, ci + 1, l) := ⟨h1, h2, fun kc _ h => by
  have h' : cl[ci]? = some kc := h
  rw [h'] at h3
  exact Option.some.inj h3⟩
theorem px_Qk_m0 {cl : List vw_C} {M : px_M} {l : List (Nat × List (Nat × Instr × Nat))} (h1 : M.2.1 = px_cat l) (h2 : px_bd l = true) : px_Qk cl (M, 0, l) := ⟨h1, h2, fun _ h => absurd rfl h⟩
def px_Gok (P : List px_M) (G : Nat → Nat → Option (px_M × Instr × Nat)) : Prop := ∀ (j pc : Nat) (M : px_M) (i : Instr) (len : Nat), G j pc = some (M, i, len) → P[j]? = some M ∧ px_look M.2.1 pc = some (i, len)
def px_Hok (cl : List vw_C) (P : List px_M) (H : Nat → Option (px_M × Nat)) : Prop := ∀ (j : Nat) (z : px_M × Nat), H j = some z → P[j]? = some z.1 ∧ ∀ kc, z.2 ≠ 0 → cl[z.2 - 1]? = some kc → kc.1 = z.1.1.1.cls
section PG
variable {cl : List vw_C} {P : List px_M} {B : List (List px_Q)}
theorem px_gB {j : Nat} {Q : px_Q} (hP : P = B.flatten.map (fun Q => Q.1)) (hf : px_full B = true) (hk : ∀ b ∈ B, ∀ Q ∈ b, px_Qk cl Q) (h : px_g2 B j = some Q) : P[j]? = some Q.1 ∧ px_Qk cl Q := by
  rw [px_g2_eq j hf] at h
  refine ⟨by rw [hP, List.getElem?_map, h]; rfl, ?_⟩
  obtain ⟨b, hb, hQ⟩ := List.mem_flatten.mp (List.mem_of_getElem? h)
  exact hk b hb Q hQ
theorem px_G_ok (hP : P = B.flatten.map (fun Q => Q.1)) (hf : px_full B = true) (hk : ∀ b ∈ B, ∀ Q ∈ b, px_Qk cl Q) : px_Gok P (px_G B) := by
  intro j pc M i len h
  unfold px_G at h
  cases hQ : px_g2 B j with
  | none =>
    rw [hQ] at h
    have h2 : (none : Option (px_M × Instr × Nat)) = some (M, i, len) := h
    cases h2
  | some Q =>
    rw [hQ] at h
    have h2 : px_lc Q.1 Q.2.2 pc = some (M, i, len) := h
    obtain ⟨h3, h4⟩ := px_gB hP hf hk hQ
    obtain ⟨h5, h6⟩ := px_lc_ok h4.2.1 h2
    have h7 : M = Q.1 := h5
    rw [h7]
    refine ⟨h3, ?_⟩
    rw [h4.1]
    exact h6
theorem px_Hq_ok (hP : P = B.flatten.map (fun Q => Q.1)) (hf : px_full B = true) (hk : ∀ b ∈ B, ∀ Q ∈ b, px_Qk cl Q) : px_Hok cl P (px_Hq B) := by
  intro j z h
  unfold px_Hq at h
  cases hQ : px_g2 B j with
  | none =>
    rw [hQ] at h
    have h2 : (none : Option (px_M × Nat)) = some z := h
    cases h2
  | some Q =>
    rw [hQ] at h
    have h2 : some (Q.1, Q.2.1) = some z := h
    cases h2
    obtain ⟨h3, h4⟩ := px_gB hP hf hk hQ
    exact ⟨h3, h4.2.2⟩
/-- one method more, behind the others -/
def px_G1 (j0 : Nat) (M : px_M) (l : List (Nat × List (Nat × Instr × Nat))) (G : Nat → Nat → Option (px_M × Instr × Nat)) (j pc : Nat) : Option (px_M × Instr × Nat) := cond (Nat.beq j j0) (px_lc M l pc) (G j pc)
theorem px_G1_ok {j0 : Nat} {M : px_M} {l : List (Nat × List (Nat × Instr × Nat))} {G : Nat → Nat → Option (px_M × Instr × Nat)} (hj : (P ++ [M])[j0]? = some M) (h1 : M.2.1 = px_cat l) (h2 : px_bd l = true) (hG : px_Gok P G) : px_Gok (P ++ [M]) (px_G1 j0 M l G) := by
  intro j pc M' i len h
  unfold px_G1 at h
  cases hb : Nat.beq j j0 with
  | true =>
    rw [hb] at h
    have h3 : px_lc M l pc = some (M', i, len) := h
    obtain ⟨h4, h5⟩ := px_lc_ok h2 h3
    have h6 : M' = M := h4
    rw [h6, Nat.eq_of_beq_eq_true hb, h1]
    exact ⟨hj, h5⟩
  | false =>
    rw [hb] at h
    have h3 : G j pc = some (M', i, len) := h
    obtain ⟨h4, h5⟩ := hG j pc M' i len h3
    exact ⟨by rw [List.getElem?_append_left (List.getElem?_eq_some_iff.mp h4).1]; exact h4, h5⟩
end PG

end
end
section
noncomputable section
/-! PURE RUNS WITH THE FRAMES THAT WAIT -/
theorem px_exec_succ (cl : List vw_C) (lt : List (List Int32)) (P : List px_M) (n d : Nat) (scr : Option (List Int32)) (M : px_M) (pc : Nat) (lv : List (Nat × Value)) (st : List Value) (w : px_W) (b : Nat × Nat) : px_exec cl lt P (n + 1) d scr M pc lv st w b = (match px_step cl lt P d scr M pc lv st w with
    | none => none
    | some (.inl z) => if z.2.2.2.2.1 ≤ b.1 ∧ z.2.2.2.2.2 ≤ b.2 then px_exec cl lt P n d scr M z.1 z.2.1 z.2.2.1 z.2.2.2.1 (b.1 - z.2.2.2.2.1, b.2 - z.2.2.2.2.2) else none
    | some (.inr (.inl v)) => some (v, w, b)
    | some (.inr (.inr q)) => match d, P[q.1]? with
      | d' + 1, some M' => if (lg_sl q.2.1).length ≤ M'.1.2.2.1 then (match px_exec cl lt P n d' none M' 0 (lv_args 0 q.2.1) [] w b with
        | none => none
        | some r => px_exec cl lt P n d scr M (pc + 3) lv (r.1.toList ++ q.2.2) r.2.1 r.2.2) else none
      | _, _ => none) := rfl
theorem px_more1 {cl : List vw_C} {lt : List (List Int32)} {P : List px_M} : ∀ (n d : Nat) (scr : Option (List Int32)) (M : px_M) (pc : Nat) (lv : List (Nat × Value)) (st : List Value) (w : px_W) (b : Nat × Nat) (r : Option Value × px_W × (Nat × Nat)), px_exec cl lt P n d scr M pc lv st w b = some r → px_exec cl lt P (n + 1) d scr M pc lv st w b = some r
  | 0, _, _, _, _, _, _, _, _, _, h => by simp [px_exec] at h
  | n + 1, d, scr, M, pc, lv, st, w, b, r, h => by
    rw [px_exec_succ] at h ⊢
    cases hs : px_step cl lt P d scr M pc lv st w with
    | none => rw [hs] at h; cases h
    | some z =>
      rw [hs] at h
      match z with
      | .inl z =>
        simp only at h ⊢
        split at h
        · rename_i hb
          rw [if_pos hb]
          exact px_more1 n _ _ _ _ _ _ _ _ _ h
        · cases h
      | .inr (.inl v) => exact h
      | .inr (.inr q) =>
        simp only at h ⊢
        split at h
        · rename_i d' M' hM'
          split at h
          · rename_i hf
            rw [if_pos hf]
            split at h
            · cases h
            · rename_i r2 hr2
              rw [px_more1 n _ _ _ _ _ _ _ _ _ hr2]
              exact px_more1 n _ _ _ _ _ _ _ _ _ h
          · cases h
        · cases h
theorem px_more {cl : List vw_C} {lt : List (List Int32)} {P : List px_M} {n k d : Nat} {scr : Option (List Int32)} {M : px_M} {pc : Nat} {lv : List (Nat × Value)} {st : List Value} {w : px_W} {b : Nat × Nat} {r : Option Value × px_W × (Nat × Nat)} (h : px_exec cl lt P n d scr M pc lv st w b = some r) (hk : n ≤ k) : px_exec cl lt P k d scr M pc lv st w b = some r := by
  induction k with
  | zero =>
    have : n = 0 := by omega
    subst this
    exact h
  | succ k ih =>
    rcases Nat.lt_or_ge k n with q | q
    · have : n = k + 1 := by omega
      subst this
      exact h
    · exact px_more1 _ _ _ _ _ _ _ _ _ _ (ih q)
abbrev pf_F : Type := px_M × Nat × List (Nat × Value) × List Value
/-- the method that runs, and then those that wait, come to their ends, with K -/
def pf_Fin (cl : List vw_C) (lt : List (List Int32)) (P : List px_M) (scr : Option (List Int32)) (b : Nat × Nat) (K : Option Value → px_W → Prop) : List pf_F → Nat → px_M → Nat → List (Nat × Value) → List Value → px_W → Prop
  | [], d, M, pc, lv, st, w => ∃ (n : Nat) (v : Option Value) (w' : px_W), px_exec cl lt P n d scr M pc lv st w b = some (v, w', b) ∧ K v w'
  | f :: fs, d, M, pc, lv, st, w => ∃ (n : Nat) (v : Option Value) (w' : px_W), px_exec cl lt P n d none M pc lv st w b = some (v, w', b) ∧ pf_Fin cl lt P scr b K fs (d + 1) f.1 f.2.1 f.2.2.1 (v.toList ++ f.2.2.2) w'
def pf_scr (scr : Option (List Int32)) (fs : List pf_F) : Option (List Int32) := match fs with
  | [] => scr
  | _ :: _ => none
section PF
variable {cl : List vw_C} {lt : List (List Int32)} {P : List px_M} {scr : Option (List Int32)} {b : Nat × Nat} {K : Option Value → px_W → Prop} {fs : List pf_F} {d : Nat} {M : px_M} {pc : Nat} {lv : List (Nat × Value)} {st : List Value} {w : px_W}
theorem pf_next {pc' : Nat} {lv' : List (Nat × Value)} {st' : List Value} {w' : px_W} (hs : px_step cl lt P d (pf_scr scr fs) M pc lv st w = some (.inl (pc', lv', st', w', 0, 0))) (h : pf_Fin cl lt P scr b K fs d M pc' lv' st' w') : pf_Fin cl lt P scr b K fs d M pc lv st w := by
  cases fs with
  | nil =>
    obtain ⟨n, v, w2, h1, h2⟩ := h
    refine ⟨n + 1, v, w2, ?_, h2⟩
    rw [px_exec_succ]
    have hs' : px_step cl lt P d scr M pc lv st w = some (.inl (pc', lv', st', w', 0, 0)) := hs
    rw [hs']
    simp only [Nat.zero_le, and_self, if_true, Nat.sub_zero]
    exact h1
  | cons f fs =>
    obtain ⟨n, v, w2, h1, h2⟩ := h
    refine ⟨n + 1, v, w2, ?_, h2⟩
    rw [px_exec_succ]
    have hs' : px_step cl lt P d none M pc lv st w = some (.inl (pc', lv', st', w', 0, 0)) := hs
    rw [hs']
    simp only [Nat.zero_le, and_self, if_true, Nat.sub_zero]
    exact h1
theorem pf_end {v : Option Value} (hs : px_step cl lt P d scr M pc lv st w = some (.inr (.inl v))) (h : K v w) : pf_Fin cl lt P scr b K [] d M pc lv st w := by
  refine ⟨1, v, w, ?_, h⟩
  rw [px_exec_succ, hs]
theorem pf_back {f : pf_F} {v : Option Value} (hs : px_step cl lt P d none M pc lv st w = some (.inr (.inl v))) (h : pf_Fin cl lt P scr b K fs (d + 1) f.1 f.2.1 f.2.2.1 (v.toList ++ f.2.2.2) w) : pf_Fin cl lt P scr b K (f :: fs) d M pc lv st w := by
  refine ⟨1, v, w, ?_, h⟩
  rw [px_exec_succ, hs]
theorem pf_met {q : Nat × List Value × List Value} {M' : px_M} {n : Nat} {v : Option Value} {w1 : px_W} (hs : px_step cl lt P (d + 1) (pf_scr scr fs) M pc lv st w = some (.inr (.inr q))) (hM : P[q.1]? = some M') (hf : (lg_sl q.2.1).length ≤ M'.1.2.2.1) (hx : px_exec cl lt P n d none M' 0 (lv_args 0 q.2.1) [] w b = some (v, w1, b)) (h : pf_Fin cl lt P scr b K fs (d + 1) M (pc + 3) lv (v.toList ++ q.2.2) w1) : pf_Fin cl lt P scr b K fs (d + 1) M pc lv st w := by
  cases fs with
  | nil =>
    obtain ⟨n2, v2, w2, h1, h2⟩ := h
    refine ⟨max n n2 + 1, v2, w2, ?_, h2⟩
    rw [px_exec_succ]
    have hs' : px_step cl lt P (d + 1) scr M pc lv st w = some (.inr (.inr q)) := hs
    rw [hs']
    simp only [hM]
    rw [if_pos hf, px_more hx (Nat.le_max_left n n2)]
    exact px_more h1 (Nat.le_max_right n n2)
  | cons f fs =>
    obtain ⟨n2, v2, w2, h1, h2⟩ := h
    refine ⟨max n n2 + 1, v2, w2, ?_, h2⟩
    rw [px_exec_succ]
    have hs' : px_step cl lt P (d + 1) none M pc lv st w = some (.inr (.inr q)) := hs
    rw [hs']
    simp only [hM]
    rw [if_pos hf, px_more hx (Nat.le_max_left n n2)]
    exact px_more h1 (Nat.le_max_right n n2)
theorem pf_call {q : Nat × List Value × List Value} {M' : px_M} (hs : px_step cl lt P (d + 1) (pf_scr scr fs) M pc lv st w = some (.inr (.inr q))) (hM : P[q.1]? = some M') (hf : (lg_sl q.2.1).length ≤ M'.1.2.2.1) (h : pf_Fin cl lt P scr b K ((M, pc + 3, lv, q.2.2) :: fs) d M' 0 (lv_args 0 q.2.1) [] w) : pf_Fin cl lt P scr b K fs (d + 1) M pc lv st w := by
  obtain ⟨n, v, w1, h1, h2⟩ := h
  exact pf_met hs hM hf h1 h2
end PF

end
end
section
noncomputable section
/-! LINEAR FORMS OVER SYMBOLS -/
abbrev sy_L : Type := Int × List (Nat × Int)
def sy_s (ρ : Nat → Int) : List (Nat × Int) → Int
  | [] => 0
  | t :: r => t.2 * ρ t.1 + sy_s ρ r
def sy_e (ρ : Nat → Int) (e : sy_L) : Int := e.1 + sy_s ρ e.2
def sy_ins (i : Nat) (c : Int) : List (Nat × Int) → List (Nat × Int)
  | [] => if c = 0 then [] else [(i, c)]
  | t :: r => if i < t.1 then (if c = 0 then t :: r else (i, c) :: t :: r) else if i = t.1 then (if c + t.2 = 0 then r else (i, c + t.2) :: r) else t :: sy_ins i c r
theorem sy_ins_e (ρ : Nat → Int) (i : Nat) (c : Int) : ∀ l : List (Nat × Int), sy_s ρ (sy_ins i c l) = c * ρ i + sy_s ρ l
  | [] => by
    unfold sy_ins
    split
    · rename_i h; subst h; simp [sy_s]
    · simp [sy_s]
  | t :: r => by
    unfold sy_ins
    split
    · split
      · rename_i h; subst h; simp [sy_s]
      · simp [sy_s]
    · split
      · rename_i h
        split
        · rename_i h2
          show sy_s ρ r = c * ρ i + (t.2 * ρ t.1 + sy_s ρ r)
          rw [← h]
          have : (c + t.2) * ρ i = 0 := by rw [h2]; simp
          rw [Int.add_mul] at this
          omega
        · show (c + t.2) * ρ i + sy_s ρ r = c * ρ i + (t.2 * ρ t.1 + sy_s ρ r)
          rw [← h, Int.add_mul]
          omega
      · show t.2 * ρ t.1 + sy_s ρ (sy_ins i c r) = c * ρ i + (t.2 * ρ t.1 + sy_s ρ r)
        rw [sy_ins_e ρ i c r]
        omega
def sy_addl : List (Nat × Int) → List (Nat × Int) → List (Nat × Int)
  | [], b => b
  | t :: r, b => sy_ins t.1 t.2 (sy_addl r b)
theorem sy_addl_e (ρ : Nat → Int) : ∀ a b : List (Nat × Int), sy_s ρ (sy_addl a b) = sy_s ρ a + sy_s ρ b
  | [], b => by simp [sy_addl, sy_s]
  | t :: r, b => by
    show sy_s ρ (sy_ins t.1 t.2 (sy_addl r b)) = t.2 * ρ t.1 + sy_s ρ r + sy_s ρ b
    rw [sy_ins_e, sy_addl_e ρ r b]
    omega
def sy_add (a b : sy_L) : sy_L := (a.1 + b.1, sy_addl a.2 b.2)
theorem sy_add_e (ρ : Nat → Int) (a b : sy_L) : sy_e ρ (sy_add a b) = sy_e ρ a + sy_e ρ b := by
  unfold sy_e sy_add
  simp only [sy_addl_e]
  omega
def sy_scl (k : Int) (a : sy_L) : sy_L := if k = 0 then (0, []) else (k * a.1, a.2.map (fun t => (t.1, k * t.2)))
theorem sy_scl_s (ρ : Nat → Int) (k : Int) : ∀ l : List (Nat × Int), sy_s ρ (l.map (fun t => (t.1, k * t.2))) = k * sy_s ρ l
  | [] => by simp [sy_s]
  | t :: r => by
    show k * t.2 * ρ t.1 + sy_s ρ (r.map (fun t => (t.1, k * t.2))) = k * (t.2 * ρ t.1 + sy_s ρ r)
    rw [sy_scl_s ρ k r, Int.mul_add, Int.mul_assoc]
theorem sy_scl_e (ρ : Nat → Int) (k : Int) (a : sy_L) : sy_e ρ (sy_scl k a) = k * sy_e ρ a := by
  unfold sy_scl
  split
  · rename_i h; subst h; simp [sy_e, sy_s]
  · show k * a.1 + sy_s ρ (a.2.map (fun t => (t.1, k * t.2))) = k * (a.1 + sy_s ρ a.2)
    rw [sy_scl_s, Int.mul_add]
def sy_sub (a b : sy_L) : sy_L := sy_add a (sy_scl (-1) b)
theorem sy_sub_e (ρ : Nat → Int) (a b : sy_L) : sy_e ρ (sy_sub a b) = sy_e ρ a - sy_e ρ b := by
  unfold sy_sub
  rw [sy_add_e, sy_scl_e]
  omega
def sy_c (k : Int) : sy_L := (k, [])
theorem sy_c_e (ρ : Nat → Int) (k : Int) : sy_e ρ (sy_c k) = k := by simp [sy_e, sy_c, sy_s]
def sy_x (i : Nat) : sy_L := (0, [(i, 1)])
theorem sy_x_e (ρ : Nat → Int) (i : Nat) : sy_e ρ (sy_x i) = ρ i := by simp [sy_e, sy_x, sy_s]
/-! ranges -/
abbrev sy_T : Type := List (Int × Int)
def sy_ok (ρ : Nat → Int) (R : sy_T) : Prop := ∀ (i : Nat) (q : Int × Int), R[i]? = some q → q.1 ≤ ρ i ∧ ρ i ≤ q.2
def sy_los (R : sy_T) : List (Nat × Int) → Option Int
  | [] => some 0
  | t :: r => match R[t.1]?, sy_los R r with
    | some q, some z => some ((if 0 ≤ t.2 then t.2 * q.1 else t.2 * q.2) + z)
    | _, _ => none
theorem sy_los_e {ρ : Nat → Int} {R : sy_T} (h : sy_ok ρ R) : ∀ (l : List (Nat × Int)) (z : Int), sy_los R l = some z → z ≤ sy_s ρ l
  | [], z, hz => by
    simp only [sy_los, Option.some.injEq] at hz
    subst hz
    exact Int.le_refl _
  | t :: r, z, hz => by
    unfold sy_los at hz
    split at hz
    · rename_i q y hq hy
      cases hz
      have h1 := h _ _ hq
      have h2 := sy_los_e h r y hy
      show _ ≤ t.2 * ρ t.1 + sy_s ρ r
      split
      · rename_i h0
        have h3 : t.2 * q.1 ≤ t.2 * ρ t.1 := Int.mul_le_mul_of_nonneg_left h1.1 h0
        omega
      · rename_i h0
        have h3 : t.2 * q.2 ≤ t.2 * ρ t.1 := Int.mul_le_mul_of_nonpos_left (by omega) h1.2
        omega
    · cases hz
def sy_lo (R : sy_T) (e : sy_L) : Option Int := (sy_los R e.2).map (fun z => e.1 + z)
theorem sy_lo_e {ρ : Nat → Int} {R : sy_T} (h : sy_ok ρ R) {e : sy_L} {z : Int} (hz : sy_lo R e = some z) : z ≤ sy_e ρ e := by
  obtain ⟨y, hy, rfl⟩ := Option.map_eq_some_iff.mp hz
  have := sy_los_e h _ _ hy
  unfold sy_e
  omega
def sy_hi (R : sy_T) (e : sy_L) : Option Int := (sy_lo R (sy_scl (-1) e)).map (fun z => -z)
theorem sy_hi_e {ρ : Nat → Int} {R : sy_T} (h : sy_ok ρ R) {e : sy_L} {z : Int} (hz : sy_hi R e = some z) : sy_e ρ e ≤ z := by
  obtain ⟨y, hy, rfl⟩ := Option.map_eq_some_iff.mp hz
  have := sy_lo_e h hy
  rw [sy_scl_e] at this
  omega
/-- both bounds -/
def sy_b (R : sy_T) (e : sy_L) : Option (Int × Int) := match sy_lo R e, sy_hi R e with
  | some a, some b => some (a, b)
  | _, _ => none
theorem sy_b_e {ρ : Nat → Int} {R : sy_T} (h : sy_ok ρ R) {e : sy_L} {q : Int × Int} (hz : sy_b R e = some q) : q.1 ≤ sy_e ρ e ∧ sy_e ρ e ≤ q.2 := by
  unfold sy_b at hz
  split at hz
  · rename_i a b ha hb
    cases hz
    exact ⟨sy_lo_e h ha, sy_hi_e h hb⟩
  · cases hz
/-! is e at least 0, by ranges, or by some of the constraints -/
/-- the symbols that draw a form below, or all -/
def sy_neg (R : sy_T) (t : Nat × Int) : Bool := match R[t.1]? with
  | some p => decide ((if 0 ≤ t.2 then t.2 * p.1 else t.2 * p.2) < 0)
  | none => false
def sy_ngs (R : sy_T) (l : List (Nat × Int)) : List (Nat × Int) := match l.filter (sy_neg R) with
  | [] => l
  | t :: r => t :: r
def sy_cof (y : Nat) : List (Nat × Int) → Int
  | [] => 0
  | t :: r => if t.1 = y then t.2 else sy_cof y r
def sy_l0 (R : sy_T) (e : sy_L) : Bool := match sy_lo R e with
  | some z => decide (0 ≤ z)
  | none => false
def sy_ps (R : sy_T) (cs : List sy_L) : Nat → sy_L → Bool
  | 0, e => sy_l0 R e
  | n + 1, e => sy_l0 R e || (sy_ngs R e.2).any (fun t => cs.any (fun c => decide (0 < sy_cof t.1 c.2 * t.2) && (sy_ps R cs n (sy_sub e (sy_scl ((max 1 (t.2.natAbs / (sy_cof t.1 c.2).natAbs) : Nat) : Int) c)) || (decide (2 ≤ t.2.natAbs / (sy_cof t.1 c.2).natAbs) && sy_ps R cs n (sy_sub e c)))))
def sy_pos (R : sy_T) (cs : List sy_L) (e : sy_L) : Bool := if 8 ≤ cs.length then sy_ps R cs 3 e || (sy_ps R cs 3 (sy_add (sy_add e e) (sy_c 1)) || sy_ps R cs 3 (sy_add (sy_scl 16 e) (sy_c 15))) else sy_ps R cs 5 e || (!cs.isEmpty && sy_ps R cs 3 (sy_add (sy_add e e) (sy_c 1)))
def sy_cok (ρ : Nat → Int) (cs : List sy_L) : Prop := ∀ c ∈ cs, 0 ≤ sy_e ρ c
theorem sy_l0_e {ρ : Nat → Int} {R : sy_T} (h : sy_ok ρ R) {e : sy_L} (hp : sy_l0 R e = true) : 0 ≤ sy_e ρ e := by
  unfold sy_l0 at hp
  split at hp
  · rename_i z hz
    exact Int.le_trans (of_decide_eq_true hp) (sy_lo_e h hz)
  · cases hp
theorem sy_ps_e {ρ : Nat → Int} {R : sy_T} {cs : List sy_L} (h : sy_ok ρ R) (hc : sy_cok ρ cs) : ∀ (n : Nat) {e : sy_L}, sy_ps R cs n e = true → 0 ≤ sy_e ρ e
  | 0, e, hp => sy_l0_e h hp
  | n + 1, e, hp => by
    unfold sy_ps at hp
    rw [Bool.or_eq_true] at hp
    rcases hp with hp | hp
    · exact sy_l0_e h hp
    · obtain ⟨t, -, ht⟩ := List.any_eq_true.mp hp
      obtain ⟨c, h1, h2⟩ := List.any_eq_true.mp ht
      rw [Bool.and_eq_true, Bool.or_eq_true, Bool.and_eq_true] at h2
      rcases h2.2 with h2 | h2
      · have h3 := sy_ps_e h hc n h2
        rw [sy_sub_e, sy_scl_e] at h3
        have h4 := Int.mul_nonneg (Int.natCast_nonneg (max 1 (t.2.natAbs / (sy_cof t.1 c.2).natAbs))) (hc c h1)
        omega
      · have h3 := sy_ps_e h hc n h2.2
        rw [sy_sub_e] at h3
        have := hc c h1
        omega
theorem sy_pos_e {ρ : Nat → Int} {R : sy_T} {cs : List sy_L} (h : sy_ok ρ R) (hc : sy_cok ρ cs) {e : sy_L} (hp : sy_pos R cs e = true) : 0 ≤ sy_e ρ e := by
  unfold sy_pos at hp
  split at hp
  · rw [Bool.or_eq_true, Bool.or_eq_true] at hp
    rcases hp with hp | hp | hp
    · exact sy_ps_e h hc 3 hp
    · have := sy_ps_e h hc 3 hp
      rw [sy_add_e, sy_add_e, sy_c_e] at this
      omega
    · have := sy_ps_e h hc 3 hp
      rw [sy_add_e, sy_scl_e, sy_c_e] at this
      omega
  · rw [Bool.or_eq_true, Bool.and_eq_true] at hp
    rcases hp with hp | ⟨-, hp⟩
    · exact sy_ps_e h hc 5 hp
    · have := sy_ps_e h hc 3 hp
      rw [sy_add_e, sy_add_e, sy_c_e] at this
      omega
/-! values -/
abbrev sy_A : Type := sy_L ⊕ (Nat ⊕ Nat)
def sy_v (ρ : Nat → Int) (τ : Nat → Int64) (a : sy_A) : Value := match a with
  | .inl e => .int (Int32.ofInt (sy_e ρ e))
  | .inr (.inl k) => .ref k
  | .inr (.inr s) => .long (τ s)
theorem sy_v_i (ρ : Nat → Int) (τ : Nat → Int64) (e : sy_L) : sy_v ρ τ (.inl e) = .int (Int32.ofInt (sy_e ρ e)) := rfl
/-- a form's value as an int of the machine, where its range fits -/
def sy_fit (q : Int × Int) : Bool := decide (-2147483648 ≤ q.1) && decide (q.2 ≤ 2147483647)
theorem sy_fit_e {z : Int} {q : Int × Int} (hf : sy_fit q = true) (h1 : q.1 ≤ z) (h2 : z ≤ q.2) : (Int32.ofInt z).toInt = z := by
  unfold sy_fit at hf
  simp only [Bool.and_eq_true, decide_eq_true_eq] at hf
  exact Int32.toInt_ofInt_of_le (by omega) (by omega)
theorem sy_int_bounds (x : Int32) : -2147483648 ≤ x.toInt ∧ x.toInt ≤ 2147483647 := by
  have h1 := Int32.toInt_lt x
  have h2 := Int32.le_toInt x
  omega

end
end
section
noncomputable section
/-! SYMBOLIC STATES -/
abbrev sy_Sg : Type := List (Nat × Nat × List (Int × Int))
/-- what a cell is: ints (length, ranges by stretches: from, to, by turns), longs (length), an object (kind, a range or a reference for each field) -/
abbrev sy_Ce : Type := (Nat × sy_Sg) ⊕ (Nat ⊕ (Nat × List ((Int × Int) ⊕ Nat)))
def sy_full : Int × Int := (-2147483648, 2147483647)
def sy_seg : sy_Sg → Nat → Int × Int
  | [], _ => sy_full
  | g :: r, i => if g.1 ≤ i ∧ i < g.2.1 then g.2.2.getD ((i - g.1) % g.2.2.length) sy_full else sy_seg r i
def sy_in (q : Int × Int) (x : Int32) : Prop := q.1 ≤ x.toInt ∧ x.toInt ≤ q.2
def sy_ce (a : sy_Ce) (c : px_E) : Prop := match a, c with
  | .inl (n, sg), .inl l => l.length = n ∧ ∀ (i : Nat) (x : Int32), l[i]? = some x → sy_in (sy_seg sg i) x
  | .inr (.inl n), .inr (.inl l) => l.length = n
  | .inr (.inr (k, sl)), .inr (.inr o) => o.1 = k ∧ o.2.length = sl.length ∧ (∀ (i : Nat) (r : Int × Int), sl[i]? = some (.inl r) → ∃ x, o.2[i]? = some (.int x) ∧ sy_in r x) ∧ ∀ (i a : Nat), sl[i]? = some (.inr a) → o.2[i]? = some (.ref a)
  | _, _ => False
def sy_W (A : List sy_Ce) (w : px_W) : Prop := w.length = A.length ∧ ∀ (k : Nat) (a : sy_Ce), A[k]? = some a → ∃ c, w[k]? = some c ∧ sy_ce a c
/-- tables that stand in no cell: what an instruction gives of a number and a constant -/
def sy_px (k i : Nat) : Option Value := match k / 8589934592 with
  | 1 => (px_bin .ishr (Int32.ofInt ((i : Int) - 2147483648)) (Int32.ofInt ((k % 8589934592 : Nat) - 2147483648))).map Value.int
  | 2 => (px_bin .iand (Int32.ofInt ((i : Int) - 2147483648)) (Int32.ofInt ((k % 8589934592 : Nat) - 2147483648))).map Value.int
  | 3 => (px_bin .iushr (Int32.ofInt ((i : Int) - 2147483648)) (Int32.ofInt ((k % 8589934592 : Nat) - 2147483648))).map Value.int
  | 4 => some (.int (Int32.ofInt ((i : Int) - 1099511627776)))
  | 5 => (px_bin .idiv (Int32.ofInt ((i : Int) - 2147483648)) (Int32.ofInt ((k % 8589934592 : Nat) - 2147483648))).map Value.int
  | 6 => (px_bin .irem (Int32.ofInt ((i : Int) - 2147483648)) (Int32.ofInt ((k % 8589934592 : Nat) - 2147483648))).map Value.int
  | _ => none
def sy_get (w : px_W) (k i : Nat) : Option Value := match w[k]? with
  | some (.inl l) => (l[i]?).map Value.int
  | some (.inr (.inl l)) => (l[i]?).map Value.long
  | some (.inr (.inr o)) => o.2[i]?
  | none => sy_px k i
abbrev sy_Fa : Type := Nat × sy_L × sy_A
def sy_fok (ρ : Nat → Int) (τ : Nat → Int64) (w : px_W) (F : List sy_Fa) : Prop := ∀ f ∈ F, 0 ≤ sy_e ρ f.2.1 ∧ sy_get w f.1 (sy_e ρ f.2.1).toNat = some (sy_v ρ τ f.2.2)
/-- places that may be written: cell, from, to -/
abbrev sy_Wr : Type := List (Nat × Nat × Nat)
def sy_may (Wr : sy_Wr) (k i : Nat) : Bool := Wr.any (fun q => decide (q.1 = k) && (decide (q.2.1 ≤ i) && decide (i < q.2.2)))
/-! words of cells that last: a contract names those that it wants and keeps ahead of what it may write, as (1099511627776 + j, 0, 0) -/
def sy_jd (j : Nat) : List (Nat × Nat × Nat) := match j with
  | 0 => [(47, 0, 56), (48, 0, 56), (49, 0, 56)]
  | 1 => [(105, 0, 56), (106, 0, 56), (107, 0, 56)]
  | 2 => [(152, 6, 7), (152, 248, 284)]
  | 3 => [(176, 0, 4), (177, 0, 4)]
  | 4 => [(151, 2, 3), (153, 0, 1580)]
  | _ => []
def sy_ji (v : Option Value) (q : Int × Int) : Prop := ∃ x : Int32, v = some (.int x) ∧ sy_in q x
/-- the ranges of the reference's row -/
def sy_D : sy_Sg := [(2, 12, [(0, 16), (0, 12), (0, 10), (0, 8), (0, 6), (0, 10), (0, 8), (0, 12), (0, 6), (0, 7)]), (16, 24, [(10, 999)]), (24, 32, [(0, 999)]), (64, 128, [(0, 7), sy_full, sy_full, sy_full]), (128, 176, [(0, 7), (0, 7), sy_full, sy_full]), (176, 216, [(0, 50), sy_full, (0, 7), sy_full]), (216, 248, [(0, 65), (0, 7), sy_full, sy_full]), (248, 284, [sy_full, sy_full, (0, 40), sy_full, sy_full, sy_full]), (284, 294, [(0, 999)]), (294, 318, [(0, 999), sy_full, sy_full]), (318, 354, [sy_full, (0, 2147483647), sy_full]), (374, 380, [(0, 200)])]
def sy_jp (j : Nat) (w : px_W) : Prop := match j with
  | 0 => ∀ k, k < 56 → sy_get w 47 k = some (.int 2) → sy_ji (sy_get w 48 k) (0, 64) ∧ sy_ji (sy_get w 49 k) (0, 64)
  | 1 => ∀ k, k < 56 → sy_get w 105 k = some (.int 2) → sy_ji (sy_get w 106 k) (0, 64) ∧ sy_ji (sy_get w 107 k) (0, 64)
  | 2 => ∀ s : Nat, s < 6 → ∀ n : Int32, sy_get w 152 6 = some (.int n) → (s : Int) < n.toInt → sy_ji (sy_get w 152 (250 + 6 * s)) (1, 40)
  | 3 => ∀ h, h < 4 → sy_get w 176 h = some (.int 6) → sy_ji (sy_get w 177 h) (0, 7)
  | 4 => sy_get w 151 2 = some (.int 1) → (∀ k, k < 1580 → sy_ji (sy_get w 153 k) (sy_seg sy_D k)) ∧ ∀ s : Nat, s < 6 → ∀ n : Int32, sy_get w 153 6 = some (.int n) → (s : Int) < n.toInt → sy_ji (sy_get w 153 (250 + 6 * s)) (1, 40)
  | _ => True
theorem sy_jp_fr {j : Nat} {w w' : px_W} (h : ∀ p ∈ sy_jd j, ∀ i, p.2.1 ≤ i → i < p.2.2 → sy_get w' p.1 i = sy_get w p.1 i) (hj : sy_jp j w) : sy_jp j w' := by
  unfold sy_jp at hj ⊢
  split
  · intro k hk h1
    rw [h (47, 0, 56) (by decide) k (Nat.zero_le _) hk] at h1
    rw [h (48, 0, 56) (by decide) k (Nat.zero_le _) hk, h (49, 0, 56) (by decide) k (Nat.zero_le _) hk]
    exact hj k hk h1
  · intro k hk h1
    rw [h (105, 0, 56) (by decide) k (Nat.zero_le _) hk] at h1
    rw [h (106, 0, 56) (by decide) k (Nat.zero_le _) hk, h (107, 0, 56) (by decide) k (Nat.zero_le _) hk]
    exact hj k hk h1
  · intro s hs n h1 h2
    rw [h (152, 6, 7) (by decide) 6 (Nat.le_refl _) (by decide)] at h1
    rw [h (152, 248, 284) (by decide) (250 + 6 * s) (by show 248 ≤ _; omega) (by show _ < 284; omega)]
    exact hj s hs n h1 h2
  · intro k hk h1
    rw [h (176, 0, 4) (by decide) k (Nat.zero_le _) hk] at h1
    rw [h (177, 0, 4) (by decide) k (Nat.zero_le _) hk]
    exact hj k hk h1
  · intro h1
    rw [h (151, 2, 3) (by decide) 2 (Nat.le_refl _) (by decide)] at h1
    obtain ⟨h2, h3⟩ := hj h1
    refine ⟨fun k hk => ?_, fun s hs n h4 h5 => ?_⟩
    · rw [h (153, 0, 1580) (by decide) k (Nat.zero_le _) hk]
      exact h2 k hk
    · rw [h (153, 0, 1580) (by decide) 6 (Nat.zero_le _) (by decide)] at h4
      rw [h (153, 0, 1580) (by decide) (250 + 6 * s) (Nat.zero_le _) (by show _ < 1580; omega)]
      exact h3 s hs n h4 h5
  · trivial
def sy_js : sy_Wr → List Nat
  | [] => []
  | p :: r => if p.1 < 1099511627776 then [] else (p.1 - 1099511627776) :: sy_js r
def sy_fj (Wr : sy_Wr) (w : px_W) : Prop := ∀ j ∈ sy_js Wr, sy_jp j w
/-- is what is written at a to b of cell k beyond all lasting words -/
def sy_jw (Wr : sy_Wr) (k : Nat) (a b : Int) : Bool := (sy_js Wr).all (fun j => (sy_jd j).all (fun q => !(q.1 == k) || (decide (b < (q.2.1 : Int)) || decide ((q.2.2 : Int) ≤ a))))
/-- the lasting words behind a call -/
def sy_jc (C Wr : sy_Wr) : Bool := (sy_js C).all (fun j => (sy_js Wr).contains j) && (sy_js Wr).all (fun j => (sy_js C).contains j || C.all (fun p => (sy_jd j).all (fun q => !(q.1 == p.1) || (decide (p.2.2 ≤ q.2.1) || decide (q.2.2 ≤ p.2.1)))))
def sy_fr (Wr : sy_Wr) (w0 w : px_W) : Prop := (∀ k i : Nat, sy_may Wr k i = false → sy_get w k i = sy_get w0 k i) ∧ sy_fj Wr w
theorem sy_jw_ok {Wr : sy_Wr} {k i : Nat} {a b : Int} {w w' : px_W} (h : sy_fj Wr w) (hw : sy_jw Wr k a b = true) (ha : a ≤ (i : Int)) (hb : (i : Int) ≤ b) (hg : ∀ k' i' : Nat, ¬ (k' = k ∧ i' = i) → sy_get w' k' i' = sy_get w k' i') : sy_fj Wr w' := by
  intro j hj
  refine sy_jp_fr (fun p hp i' h1 h2 => hg p.1 i' ?_) (h j hj)
  rintro ⟨e1, e2⟩
  have h3 := List.all_eq_true.mp (List.all_eq_true.mp hw j hj) p hp
  rw [e1] at h3
  simp only [beq_self_eq_true, Bool.not_true, Bool.false_or, Bool.or_eq_true, decide_eq_true_eq] at h3
  omega
theorem sy_jc_ok {C Wr : sy_Wr} {w w' : px_W} (hc : sy_jc C Wr = true) (h : sy_fj Wr w) (h2 : sy_fr C w w') : sy_fj Wr w' := by
  unfold sy_jc at hc
  rw [Bool.and_eq_true] at hc
  intro j hj
  have h3 := List.all_eq_true.mp hc.2 j hj
  rw [Bool.or_eq_true] at h3
  rcases h3 with h3 | h3
  · exact h2.2 j (by simpa using h3)
  · refine sy_jp_fr (fun p hp i h4 h5 => h2.1 p.1 i ?_) (h j hj)
    cases hm : sy_may C p.1 i with
    | false => rfl
    | true =>
      obtain ⟨q, hq, h6⟩ := List.any_eq_true.mp hm
      simp only [Bool.and_eq_true, decide_eq_true_eq] at h6
      have h7 := List.all_eq_true.mp (List.all_eq_true.mp h3 q hq) p hp
      rw [h6.1] at h7
      simp only [beq_self_eq_true, Bool.not_true, Bool.false_or, Bool.or_eq_true, decide_eq_true_eq] at h7
      omega
theorem sy_jc_pre {C Wr : sy_Wr} {w : px_W} (hc : sy_jc C Wr = true) (h : sy_fj Wr w) : sy_fj C w := by
  unfold sy_jc at hc
  rw [Bool.and_eq_true] at hc
  intro j hj
  exact h j (by simpa using List.all_eq_true.mp hc.1 j hj)
abbrev sy_G : Type := sy_T × Nat × List sy_L × List sy_Fa
abbrev sy_Fr : Type := Nat × Nat × List (Nat × sy_A) × List sy_A
abbrev sy_S : Type := sy_G × sy_Fr × List sy_Fr
def sy_lvok (ρ : Nat → Int) (τ : Nat → Int64) (lv : List (Nat × sy_A)) (lc : List (Nat × Value)) : Prop := ∀ q ∈ lv, px_look lc q.1 = some (sy_v ρ τ q.2)
def sy_frok (ρ : Nat → Int) (τ : Nat → Int64) (PM : List px_M) (f : sy_Fr) (c : pf_F) : Prop := PM[f.1]? = some c.1 ∧ c.2.1 = f.2.1 ∧ sy_lvok ρ τ f.2.2.1 c.2.2.1 ∧ c.2.2.2 = f.2.2.2.map (sy_v ρ τ)
def sy_frs (ρ : Nat → Int) (τ : Nat → Int64) (PM : List px_M) : List sy_Fr → List pf_F → Prop
  | [], [] => True
  | f :: fs, c :: cs => sy_frok ρ τ PM f c ∧ sy_frs ρ τ PM fs cs
  | _, _ => False
/-- what does not change in the check of one contract: methods, shape, what may be written, the first cells, the first symbols -/
abbrev sy_Q : Type := List px_M × List sy_Ce × sy_Wr × px_W × (Nat → Int) × Nat
def sy_mem (q : sy_Q) (g : sy_G) (ρ : Nat → Int) (τ : Nat → Int64) (w : px_W) : Prop := (q.2.2.2.2.2 ≤ g.1.length ∧ ∀ i, i < q.2.2.2.2.2 → ρ i = q.2.2.2.2.1 i) ∧ sy_ok ρ g.1 ∧ sy_cok ρ g.2.2.1 ∧ sy_fok ρ τ w g.2.2.2 ∧ sy_W q.2.1 w ∧ sy_fr q.2.2.1 q.2.2.2.1 w
def sy_Rel (q : sy_Q) (S : sy_S) (ρ : Nat → Int) (τ : Nat → Int64) (w : px_W) (c : pf_F) (cf : List pf_F) : Prop := sy_mem q S.1 ρ τ w ∧ sy_frok ρ τ q.1 S.2.1 c ∧ sy_frs ρ τ q.1 S.2.2 cf
/-- what does not change in the runs -/
abbrev sy_X : Type := List vw_C × List (List Int32) × List px_M × Option (List Int32) × (Nat × Nat) × (Option Value → px_W → Prop) × Nat
def sy_Good (x : sy_X) (q : sy_Q) (S : sy_S) : Prop := ∀ (ρ : Nat → Int) (τ : Nat → Int64) (w : px_W) (c : pf_F) (cf : List pf_F) (d : Nat), sy_Rel q S ρ τ w c cf → d + cf.length = x.2.2.2.2.2.2 → pf_Fin x.1 x.2.1 x.2.2.1 x.2.2.2.1 x.2.2.2.2.1 x.2.2.2.2.2.1 cf d c.1 c.2.1 c.2.2.1 c.2.2.2 w
/-! symbols that a state holds -/
def sy_wl (N : Nat) (e : sy_L) : Bool := e.2.all (fun t => decide (t.1 < N))
def sy_wa (N n : Nat) (a : sy_A) : Bool := match a with
  | .inl e => sy_wl N e
  | .inr (.inl _) => true
  | .inr (.inr s) => decide (s < n)
def sy_wf (N n : Nat) (f : sy_Fr) : Bool := f.2.2.1.all (fun q => sy_wa N n q.2) && f.2.2.2.all (sy_wa N n)
def sy_wg (N n : Nat) (g : sy_G) : Bool := g.2.2.1.all (sy_wl N) && g.2.2.2.all (fun f => sy_wl N f.2.1 && sy_wa N n f.2.2)
def sy_wS (S : sy_S) : Bool := sy_wg S.1.1.length S.1.2.1 S.1 && (sy_wf S.1.1.length S.1.2.1 S.2.1 && S.2.2.all (sy_wf S.1.1.length S.1.2.1))
section SY1
variable {ρ ρ' : Nat → Int} {τ τ' : Nat → Int64} {N n : Nat}
theorem sy_ext_l (h : ∀ i, i < N → ρ' i = ρ i) {e : sy_L} (hw : sy_wl N e = true) : sy_e ρ' e = sy_e ρ e := by
  have key : ∀ l : List (Nat × Int), l.all (fun t => decide (t.1 < N)) = true → sy_s ρ' l = sy_s ρ l := by
    intro l
    induction l with
    | nil => intro _; rfl
    | cons t r ih =>
      intro hl
      simp only [List.all_cons, Bool.and_eq_true, decide_eq_true_eq] at hl
      show t.2 * ρ' t.1 + sy_s ρ' r = t.2 * ρ t.1 + sy_s ρ r
      rw [h _ hl.1, ih hl.2]
  unfold sy_e
  rw [key _ hw]
theorem sy_ext_a (h : ∀ i, i < N → ρ' i = ρ i) (ht : ∀ i, i < n → τ' i = τ i) {a : sy_A} (hw : sy_wa N n a = true) : sy_v ρ' τ' a = sy_v ρ τ a := by
  match a, hw with
  | .inl e, hw =>
    show Value.int _ = Value.int _
    rw [sy_ext_l h hw]
  | .inr (.inl k), _ => rfl
  | .inr (.inr s), hw =>
    show Value.long _ = Value.long _
    rw [ht s (of_decide_eq_true hw)]
theorem sy_ext_f (h : ∀ i, i < N → ρ' i = ρ i) (ht : ∀ i, i < n → τ' i = τ i) {PM : List px_M} {f : sy_Fr} {c : pf_F} (hw : sy_wf N n f = true) (hr : sy_frok ρ τ PM f c) : sy_frok ρ' τ' PM f c := by
  unfold sy_wf at hw
  simp only [Bool.and_eq_true, List.all_eq_true] at hw
  obtain ⟨h1, h2, h3, h4⟩ := hr
  refine ⟨h1, h2, fun q hq => ?_, ?_⟩
  · rw [sy_ext_a h ht (hw.1 q hq)]
    exact h3 q hq
  · rw [h4]
    exact List.map_congr_left (fun a ha => (sy_ext_a h ht (hw.2 a ha)).symm)
theorem sy_ext_fs (h : ∀ i, i < N → ρ' i = ρ i) (ht : ∀ i, i < n → τ' i = τ i) {PM : List px_M} : ∀ {fs : List sy_Fr} {cf : List pf_F}, fs.all (sy_wf N n) = true → sy_frs ρ τ PM fs cf → sy_frs ρ' τ' PM fs cf
  | [], [], _, _ => trivial
  | f :: fs, c :: cf, hw, hr => by
    simp only [List.all_cons, Bool.and_eq_true] at hw
    exact ⟨sy_ext_f h ht hw.1 hr.1, sy_ext_fs h ht hw.2 hr.2⟩
  | [], _ :: _, _, hr => hr.elim
  | _ :: _, [], _, hr => hr.elim
end SY1
/-- a new symbol -/
def sy_new (g : sy_G) (r : Int × Int) : sy_G := (g.1 ++ [r], g.2)
theorem sy_fresh {q : sy_Q} {S : sy_S} {ρ : Nat → Int} {τ : Nat → Int64} {w : px_W} {c : pf_F} {cf : List pf_F} (hw : sy_wS S = true) (h : sy_Rel q S ρ τ w c cf) {v : Int} {r : Int × Int} (h1 : r.1 ≤ v) (h2 : v ≤ r.2) :
    ∃ ρ' : Nat → Int, (∀ i, i < S.1.1.length → ρ' i = ρ i) ∧ ρ' S.1.1.length = v ∧ sy_Rel q (sy_new S.1 r, S.2) ρ' τ w c cf := by
  unfold sy_wS sy_wg at hw
  simp only [Bool.and_eq_true] at hw
  obtain ⟨⟨hw1, hw2⟩, hw3, hw4⟩ := hw
  obtain ⟨⟨⟨m1, m1'⟩, m2, m3, m4, m5, m6⟩, f1, f2⟩ := h
  have hag : ∀ i, i < S.1.1.length → (fun i => if i = S.1.1.length then v else ρ i) i = ρ i := fun i hi => if_neg (by omega)
  refine ⟨fun i => if i = S.1.1.length then v else ρ i, hag, if_pos rfl, ⟨⟨?_, fun i hi => ?_⟩, fun i p hp => ?_, fun e he => ?_, fun f hf => ?_, m5, m6⟩, sy_ext_f hag (fun _ _ => rfl) hw3 f1, sy_ext_fs hag (fun _ _ => rfl) hw4 f2⟩
  · show _ ≤ (S.1.1 ++ [r]).length
    rw [List.length_append]
    omega
  · rw [hag i (by omega)]
    exact m1' i hi
  · have hp' : (S.1.1 ++ [r])[i]? = some p := hp
    by_cases hi : i < S.1.1.length
    · rw [List.getElem?_append_left hi] at hp'
      rw [hag i hi]
      exact m2 i p hp'
    · rw [List.getElem?_append_right (by omega)] at hp'
      have hz : i - S.1.1.length < 1 := (List.getElem?_eq_some_iff.mp hp').1
      have hi0 : i = S.1.1.length := by omega
      subst hi0
      rw [Nat.sub_self] at hp'
      cases hp'
      have hv : (fun i => if i = S.1.1.length then v else ρ i) S.1.1.length = v := if_pos rfl
      rw [hv]
      exact ⟨h1, h2⟩
  · rw [sy_ext_l hag (List.all_eq_true.mp hw1 e he)]
    exact m3 e he
  · have hf2 := List.all_eq_true.mp hw2 f hf
    rw [Bool.and_eq_true] at hf2
    rw [sy_ext_l hag hf2.1, sy_ext_a hag (fun _ _ => rfl) hf2.2]
    exact m4 f hf
/-- a new long -/
theorem sy_freshL {q : sy_Q} {S : sy_S} {ρ : Nat → Int} {τ : Nat → Int64} {w : px_W} {c : pf_F} {cf : List pf_F} (hw : sy_wS S = true) (h : sy_Rel q S ρ τ w c cf) (v : Int64) :
    ∃ τ' : Nat → Int64, τ' S.1.2.1 = v ∧ (∀ a : sy_A, sy_wa S.1.1.length S.1.2.1 a = true → sy_v ρ τ' a = sy_v ρ τ a) ∧ sy_Rel q ((S.1.1, S.1.2.1 + 1, S.1.2.2), S.2) ρ τ' w c cf := by
  unfold sy_wS sy_wg at hw
  simp only [Bool.and_eq_true] at hw
  obtain ⟨⟨hw1, hw2⟩, hw3, hw4⟩ := hw
  obtain ⟨⟨m1, m2, m3, m4, m5, m6⟩, f1, f2⟩ := h
  have hag : ∀ i, i < S.1.2.1 → (fun i => if i = S.1.2.1 then v else τ i) i = τ i := fun i hi => if_neg (by omega)
  refine ⟨fun i => if i = S.1.2.1 then v else τ i, if_pos rfl, fun a ha => sy_ext_a (fun _ _ => rfl) hag ha, ⟨m1, m2, m3, fun f hf => ?_, m5, m6⟩, sy_ext_f (fun _ _ => rfl) hag hw3 f1, sy_ext_fs (fun _ _ => rfl) hag hw4 f2⟩
  have hf2 := List.all_eq_true.mp hw2 f hf
  rw [Bool.and_eq_true] at hf2
  rw [sy_ext_a (fun _ _ => rfl) hag hf2.2]
  exact m4 f hf
/-- a range is made smaller -/
def sy_rng (g : sy_G) (i : Nat) (r : Int × Int) : sy_G := (g.1.set i r, g.2)

end
end
section
noncomputable section
/-! WHAT A BRANCH TELLS -/
/-- a constraint makes the ranges of its symbols smaller -/
def sy_nar (e : sy_L) : List (Nat × Int) → sy_T → sy_T
  | [], R => R
  | t :: r, R => sy_nar e r (match R[t.1]?, sy_hi R (sy_sub e (0, [t])) with
    | some p, some h => if 0 < t.2 then R.set t.1 (max p.1 (-(h / t.2)), p.2) else if t.2 < 0 then R.set t.1 (p.1, min p.2 (h / (-t.2))) else R
    | _, _ => R)
def sy_pro : List sy_L → sy_T → sy_T
  | [], R => R
  | c :: r, R => sy_pro r (sy_nar c c.2 R)
/-- with few constraints, all of them once more -/
def sy_pr8 (cs : List sy_L) (R : sy_T) : sy_T := if 8 ≤ cs.length then R else sy_pro cs R
def sy_con (R : sy_T) (cs : List sy_L) (e : sy_L) : Bool := cs.any (fun c => match sy_hi R (sy_add e c) with
  | some z => decide (z < 0)
  | none => false)
/-- e is at least 0 -/
def sy_asm (g : sy_G) (e : sy_L) : Option sy_G := match sy_hi g.1 e with
  | none => some g
  | some h => if h < 0 then none else match e.2 with
    | [] => some g
    | [_] => if sy_con g.1 g.2.2.1 e = true then none else some (sy_pr8 g.2.2.1 (sy_nar e e.2 g.1), g.2)
    | _ => if sy_con g.1 g.2.2.1 e = true then none else some (sy_pr8 g.2.2.1 (sy_nar e e.2 g.1), g.2.1, e :: g.2.2.1, g.2.2.2)
theorem sy_rng_ok {q : sy_Q} {g : sy_G} {ρ : Nat → Int} {τ : Nat → Int64} {w : px_W} (h : sy_mem q g ρ τ w) {i : Nat} {r : Int × Int} (h1 : r.1 ≤ ρ i) (h2 : ρ i ≤ r.2) : sy_mem q (sy_rng g i r) ρ τ w := by
  obtain ⟨⟨m1, m1'⟩, m2, m3, m4, m5, m6⟩ := h
  refine ⟨⟨?_, m1'⟩, fun j p hp => ?_, m3, m4, m5, m6⟩
  · show _ ≤ (g.1.set i r).length
    rw [List.length_set]
    exact m1
  · have hp' : (g.1.set i r)[j]? = some p := hp
    by_cases hj : i = j
    · subst hj
      by_cases hl : i < g.1.length
      · rw [List.getElem?_set_self hl] at hp'
        cases hp'
        exact ⟨h1, h2⟩
      · rw [List.getElem?_eq_none (by rw [List.length_set]; omega)] at hp'
        cases hp'
    · rw [List.getElem?_set_ne hj] at hp'
      exact m2 j p hp'
theorem sy_set_ok {ρ : Nat → Int} {R : sy_T} (h : sy_ok ρ R) {i : Nat} {r : Int × Int} (h1 : r.1 ≤ ρ i) (h2 : ρ i ≤ r.2) : sy_ok ρ (R.set i r) := by
  intro j p hp
  by_cases hj : i = j
  · subst hj
    by_cases hl : i < R.length
    · rw [List.getElem?_set_self hl] at hp
      cases hp
      exact ⟨h1, h2⟩
    · rw [List.getElem?_eq_none (by rw [List.length_set]; omega)] at hp
      cases hp
  · rw [List.getElem?_set_ne hj] at hp
    exact h j p hp
theorem sy_nar_ok {ρ : Nat → Int} {e : sy_L} (he : 0 ≤ sy_e ρ e) : ∀ (l : List (Nat × Int)) (R : sy_T), sy_ok ρ R → sy_ok ρ (sy_nar e l R) ∧ (sy_nar e l R).length = R.length
  | [], R, h => ⟨h, rfl⟩
  | t :: r, R, h => by
    unfold sy_nar
    have key : sy_ok ρ (match R[t.1]?, sy_hi R (sy_sub e (0, [t])) with
        | some p, some h => if 0 < t.2 then R.set t.1 (max p.1 (-(h / t.2)), p.2) else if t.2 < 0 then R.set t.1 (p.1, min p.2 (h / (-t.2))) else R
        | _, _ => R) ∧ (match R[t.1]?, sy_hi R (sy_sub e (0, [t])) with
        | some p, some h => if 0 < t.2 then R.set t.1 (max p.1 (-(h / t.2)), p.2) else if t.2 < 0 then R.set t.1 (p.1, min p.2 (h / (-t.2))) else R
        | _, _ => R).length = R.length := by
      split
      · rename_i p z hp hz
        have h1 := h _ _ hp
        have h2 := sy_hi_e h hz
        have h3 : sy_e ρ (0, [t]) = t.2 * ρ t.1 := by simp [sy_e, sy_s]
        rw [sy_sub_e, h3] at h2
        split
        · rename_i h0
          refine ⟨sy_set_ok h ?_ h1.2, List.length_set⟩
          show max p.1 (-(z / t.2)) ≤ ρ t.1
          have h5 : -(ρ t.1) ≤ z / t.2 := by
            rw [Int.le_ediv_iff_mul_le h0, Int.neg_mul, Int.mul_comm]
            omega
          omega
        · split
          · rename_i h0
            refine ⟨sy_set_ok h h1.1 ?_, List.length_set⟩
            show ρ t.1 ≤ min p.2 (z / (-t.2))
            have h5 : ρ t.1 ≤ z / (-t.2) := by
              rw [Int.le_ediv_iff_mul_le (by omega), Int.mul_neg, Int.mul_comm]
              omega
            omega
          · exact ⟨h, rfl⟩
      · exact ⟨h, rfl⟩
    obtain ⟨k1, k2⟩ := sy_nar_ok he r _ key.1
    exact ⟨k1, k2.trans key.2⟩
theorem sy_pro_ok {ρ : Nat → Int} : ∀ (cs : List sy_L) (R : sy_T), sy_cok ρ cs → sy_ok ρ R → sy_ok ρ (sy_pro cs R) ∧ (sy_pro cs R).length = R.length
  | [], R, _, h => ⟨h, rfl⟩
  | c :: r, R, hc, h => by
    obtain ⟨k1, k2⟩ := sy_nar_ok (hc c List.mem_cons_self) c.2 R h
    obtain ⟨j1, j2⟩ := sy_pro_ok r (sy_nar c c.2 R) (fun x hx => hc x (List.mem_cons_of_mem _ hx)) k1
    exact ⟨j1, j2.trans k2⟩
theorem sy_pr8_ok {ρ : Nat → Int} (cs : List sy_L) (R : sy_T) (hc : sy_cok ρ cs) (h : sy_ok ρ R) : sy_ok ρ (sy_pr8 cs R) ∧ (sy_pr8 cs R).length = R.length := by
  unfold sy_pr8
  split
  · exact ⟨h, rfl⟩
  · exact sy_pro_ok cs R hc h
theorem sy_con_ok {ρ : Nat → Int} {R : sy_T} {cs : List sy_L} (h : sy_ok ρ R) (hc : sy_cok ρ cs) {e : sy_L} (he : 0 ≤ sy_e ρ e) : ¬ sy_con R cs e = true := by
  intro hn
  obtain ⟨c, h1, h2⟩ := List.any_eq_true.mp hn
  split at h2
  · rename_i z hz
    have h3 := sy_hi_e h hz
    rw [sy_add_e] at h3
    have := hc c h1
    have := of_decide_eq_true h2
    omega
  · cases h2
theorem sy_asm_ok {q : sy_Q} {g : sy_G} {ρ : Nat → Int} {τ : Nat → Int64} {w : px_W} (h : sy_mem q g ρ τ w) {e : sy_L} (he : 0 ≤ sy_e ρ e) : ∃ g', sy_asm g e = some g' ∧ sy_mem q g' ρ τ w := by
  have hcon := sy_con_ok h.2.1 h.2.2.1 he
  obtain ⟨n1, n2⟩ := sy_nar_ok he e.2 g.1 h.2.1
  obtain ⟨p1, p2⟩ := sy_pr8_ok g.2.2.1 _ h.2.2.1 n1
  have hl : q.2.2.2.2.2 ≤ (sy_pr8 g.2.2.1 (sy_nar e e.2 g.1)).length := by rw [p2, n2]; exact h.1.1
  unfold sy_asm
  split
  · exact ⟨_, rfl, h⟩
  · rename_i z hz
    have hz1 := sy_hi_e h.2.1 hz
    rw [if_neg (by omega)]
    split
    · exact ⟨_, rfl, h⟩
    · rw [if_neg hcon]
      exact ⟨_, rfl, ⟨hl, h.1.2⟩, p1, h.2.2⟩
    · rw [if_neg hcon]
      refine ⟨_, rfl, ⟨hl, h.1.2⟩, p1, fun x hx => ?_, h.2.2.2⟩
      rcases List.mem_cons.mp hx with rfl | hx
      · exact he
      · exact h.2.2.1 x hx
/-- e is not 0 -/
def sy_ane (g : sy_G) (e : sy_L) : Option sy_G := match e.2 with
  | [] => if e.1 = 0 then none else some g
  | [(i, c)] => (match g.1[i]? with
    | none => some g
    | some r => if c = 1 ∨ c = -1 then (if r.1 = -(e.1 * c) then (if r.1 = r.2 then none else some (sy_rng g i (r.1 + 1, r.2))) else if r.2 = -(e.1 * c) then some (sy_rng g i (r.1, r.2 - 1)) else some g) else some g)
  | _ => if (!g.2.2.1.isEmpty && (sy_pos g.1 g.2.2.1 e && sy_pos g.1 g.2.2.1 (sy_scl (-1) e))) = true then none else some g
theorem sy_ane_ok {q : sy_Q} {g : sy_G} {ρ : Nat → Int} {τ : Nat → Int64} {w : px_W} (h : sy_mem q g ρ τ w) {e : sy_L} (he : sy_e ρ e ≠ 0) : ∃ g', sy_ane g e = some g' ∧ sy_mem q g' ρ τ w := by
  unfold sy_ane
  split
  · rename_i hc
    have hev : sy_e ρ e = e.1 := by
      unfold sy_e
      rw [hc]
      simp [sy_s]
    rw [if_neg (by omega)]
    exact ⟨_, rfl, h⟩
  · rename_i i c hc
    have hev : sy_e ρ e = e.1 + c * ρ i := by
      unfold sy_e
      rw [hc]
      simp [sy_s]
    rw [hev] at he
    split
    · exact ⟨_, rfl, h⟩
    · rename_i r hr
      have hr1 := h.2.1 i r hr
      split
      · rename_i hc1
        have hne : ρ i ≠ -(e.1 * c) := by
          rcases hc1 with rfl | rfl <;> omega
        split
        · rename_i hl
          rw [if_neg (by omega)]
          exact ⟨_, rfl, sy_rng_ok h (by show r.1 + 1 ≤ ρ i; omega) hr1.2⟩
        · split
          · exact ⟨_, rfl, sy_rng_ok h hr1.1 (by show ρ i ≤ r.2 - 1; omega)⟩
          · exact ⟨_, rfl, h⟩
      · exact ⟨_, rfl, h⟩
  · rw [if_neg]
    · exact ⟨_, rfl, h⟩
    · intro hn
      simp only [Bool.and_eq_true] at hn
      have h1 := sy_pos_e h.2.1 h.2.2.1 hn.2.1
      have h2 := sy_pos_e h.2.1 h.2.2.1 hn.2.2
      rw [sy_scl_e] at h2
      omega
def sy_asms (g : sy_G) : List sy_L → Option sy_G
  | [] => some g
  | e :: r => (sy_asm g e).bind (fun g => sy_asms g r)
theorem sy_asms_ok {q : sy_Q} {ρ : Nat → Int} {τ : Nat → Int64} {w : px_W} : ∀ {l : List sy_L} {g : sy_G}, sy_mem q g ρ τ w → (∀ e ∈ l, 0 ≤ sy_e ρ e) → ∃ g', sy_asms g l = some g' ∧ sy_mem q g' ρ τ w
  | [], g, h, _ => ⟨g, rfl, h⟩
  | e :: r, g, h, he => by
    obtain ⟨g1, h1, h2⟩ := sy_asm_ok h (he e List.mem_cons_self)
    obtain ⟨g2, h3, h4⟩ := sy_asms_ok h2 (fun x hx => he x (List.mem_cons_of_mem _ hx))
    exact ⟨g2, by show (sy_asm g e).bind _ = _; rw [h1]; exact h3, h4⟩
/-- the two ways of a comparison of forms -/
def sy_cmp (g : sy_G) (k : Jvm.ClassFile.Cond) (x y : sy_L) : Option sy_G × Option sy_G := match k with
  | .eq => (sy_asms g [sy_sub x y, sy_sub y x], sy_ane g (sy_sub x y))
  | .ne => (sy_ane g (sy_sub x y), sy_asms g [sy_sub x y, sy_sub y x])
  | .lt => (sy_asms g [sy_add (sy_sub y x) (sy_c (-1))], sy_asms g [sy_sub x y])
  | .ge => (sy_asms g [sy_sub x y], sy_asms g [sy_add (sy_sub y x) (sy_c (-1))])
  | .gt => (sy_asms g [sy_add (sy_sub x y) (sy_c (-1))], sy_asms g [sy_sub y x])
  | .le => (sy_asms g [sy_sub y x], sy_asms g [sy_add (sy_sub x y) (sy_c (-1))])
def sy_two (g : sy_G) (k : Jvm.ClassFile.Cond) (x y : sy_L) : Option sy_G × Option sy_G := match sy_b g.1 x, sy_b g.1 y with
  | some a, some b => if sy_fit a = true ∧ sy_fit b = true then sy_cmp g k x y else (some g, some g)
  | _, _ => (some g, some g)
theorem sy_two_ok {q : sy_Q} {g : sy_G} {ρ : Nat → Int} {τ : Nat → Int64} {w : px_W} (h : sy_mem q g ρ τ w) (k : Jvm.ClassFile.Cond) (x y : sy_L) : (px_cnd k (Int32.ofInt (sy_e ρ x)) (Int32.ofInt (sy_e ρ y)) = true → ∃ g', (sy_two g k x y).1 = some g' ∧ sy_mem q g' ρ τ w) ∧ (¬ px_cnd k (Int32.ofInt (sy_e ρ x)) (Int32.ofInt (sy_e ρ y)) = true → ∃ g', (sy_two g k x y).2 = some g' ∧ sy_mem q g' ρ τ w) := by
  unfold sy_two
  split
  · rename_i a b ha hb
    split
    · rename_i hf
      obtain ⟨a1, a2⟩ := sy_b_e h.2.1 ha
      obtain ⟨b1, b2⟩ := sy_b_e h.2.1 hb
      have ex := sy_fit_e hf.1 a1 a2
      have ey := sy_fit_e hf.2 b1 b2
      have heq : Int32.ofInt (sy_e ρ x) = Int32.ofInt (sy_e ρ y) ↔ sy_e ρ x = sy_e ρ y := by
        rw [← Int32.toInt_inj, ex, ey]
      have hlt : Int32.ofInt (sy_e ρ x) < Int32.ofInt (sy_e ρ y) ↔ sy_e ρ x < sy_e ρ y := by
        rw [Int32.lt_iff_toInt_lt, ex, ey]
      have hgt : Int32.ofInt (sy_e ρ y) < Int32.ofInt (sy_e ρ x) ↔ sy_e ρ y < sy_e ρ x := by
        rw [Int32.lt_iff_toInt_lt, ex, ey]
      have hle : Int32.ofInt (sy_e ρ x) ≤ Int32.ofInt (sy_e ρ y) ↔ sy_e ρ x ≤ sy_e ρ y := by
        rw [Int32.le_iff_toInt_le, ex, ey]
      have hge : Int32.ofInt (sy_e ρ y) ≤ Int32.ofInt (sy_e ρ x) ↔ sy_e ρ y ≤ sy_e ρ x := by
        rw [Int32.le_iff_toInt_le, ex, ey]
      have s1 := sy_sub_e ρ x y
      have s2 := sy_sub_e ρ y x
      have one : ∀ e : sy_L, 0 ≤ sy_e ρ e → ∃ g', sy_asms g [e] = some g' ∧ sy_mem q g' ρ τ w := fun e he => sy_asms_ok h (fun z hz => by rw [List.mem_singleton.mp hz]; exact he)
      have both : sy_e ρ x = sy_e ρ y → ∃ g', sy_asms g [sy_sub x y, sy_sub y x] = some g' ∧ sy_mem q g' ρ τ w := fun he => sy_asms_ok h (fun z hz => by
        rcases List.mem_cons.mp hz with rfl | hz
        · omega
        · rw [List.mem_singleton.mp hz]; omega)
      have m1 : ∀ e : sy_L, sy_e ρ (sy_add e (sy_c (-1))) = sy_e ρ e - 1 := fun e => by rw [sy_add_e, sy_c_e]; omega
      cases k <;> simp only [px_cnd, decide_eq_true_eq, sy_cmp]
      · exact ⟨fun z => both (heq.mp z), fun z => sy_ane_ok h (by rw [s1]; intro q; exact z (heq.mpr (by omega)))⟩
      · exact ⟨fun z => sy_ane_ok h (by rw [s1]; intro q; exact z (heq.mpr (by omega))), fun z => both (heq.mp (Classical.not_not.mp z))⟩
      · exact ⟨fun z => one _ (by rw [m1, s2]; have := hlt.mp z; omega), fun z => one _ (by rw [s1]; have := mt hlt.mpr z; omega)⟩
      · exact ⟨fun z => one _ (by rw [s1]; have := hge.mp z; omega), fun z => one _ (by rw [m1, s2]; have := mt hge.mpr z; omega)⟩
      · exact ⟨fun z => one _ (by rw [m1, s1]; have := hgt.mp z; omega), fun z => one _ (by rw [s2]; have := mt hgt.mpr z; omega)⟩
      · exact ⟨fun z => one _ (by rw [s2]; have := hle.mp z; omega), fun z => one _ (by rw [m1, s1]; have := mt hle.mpr z; omega)⟩
    · exact ⟨fun _ => ⟨g, rfl, h⟩, fun _ => ⟨g, rfl, h⟩⟩
  · exact ⟨fun _ => ⟨g, rfl, h⟩, fun _ => ⟨g, rfl, h⟩⟩

end
end
section
noncomputable section
/-! ONE STEP: the pure step, by parts -/
def px_a1 (i : Instr) (len pc : Nat) (lv : List (Nat × Value)) (st : List Value) : Option (Nat × List (Nat × Value) × List Value) := match st with
    | .int y :: .int x :: r => if len = 1 then (px_bin i x y).map (fun z => (pc + 1, lv, .int z :: r)) else none
    | _ => none
def px_a2 (i : Instr) (len pc : Nat) (lv : List (Nat × Value)) (st : List Value) : Option (Nat × List (Nat × Value) × List Value) := (px_ld i).bind (fun q => (px_look lv q.1).bind (fun v => if len = q.2.1 ∧ px_so v = q.2.2 then some (pc + len, lv, v :: st) else none))
def px_a3 (i : Instr) (len pc : Nat) (lv : List (Nat × Value)) (st : List Value) : Option (Nat × List (Nat × Value) × List Value) := (px_cst i).bind (fun q => if len = q.2 then some (pc + len, lv, q.1 :: st) else none)
def px_a4 (i : Instr) (len pc : Nat) (lv : List (Nat × Value)) (st : List Value) : Option (Nat × List (Nat × Value) × List Value) := (px_br i pc len st).map (fun q => (q.1, lv, q.2))
def px_a5 (i : Instr) (len pc mx : Nat) (lv : List (Nat × Value)) (st : List Value) : Option (Nat × List (Nat × Value) × List Value) := match st with
    | v :: r => (px_st i).bind (fun q => if len = q.2.1 ∧ px_so v = q.2.2 ∧ q.1 < mx then some (pc + len, px_sto lv q.1 v, r) else none)
    | _ => none
def px_a6 (i : Instr) (len pc mx : Nat) (lv : List (Nat × Value)) (st : List Value) : Option (Nat × List (Nat × Value) × List Value) := match i with
    | .iinc k n => (px_look lv k).bind (fun v => match v with
      | .int x => if len = 3 ∧ k < mx then some (pc + 3, px_sto lv k (.int (x + Int32.ofInt n)), st) else none
      | _ => none)
    | _ => none
def px_a7 (i : Instr) (len pc : Nat) (lv : List (Nat × Value)) (st : List Value) : Option (Nat × List (Nat × Value) × List Value) := if len = 1 then (px_stk i st).map (fun r => (pc + 1, lv, r)) else none
def px_a8 (i : Instr) (len pc : Nat) (lv : List (Nat × Value)) (st : List Value) : Option (Nat × List (Nat × Value) × List Value) := match st with
    | v :: r => if len = 1 then (px_un i v).map (fun z => (pc + 1, lv, z :: r)) else none
    | _ => none
def px_a9 (i : Instr) (len pc : Nat) (lv : List (Nat × Value)) (st : List Value) : Option (Nat × List (Nat × Value) × List Value) := match st with
    | v :: .long x :: r => if len = 1 then (px_lb i x v).map (fun z => (pc + 1, lv, .long z :: r)) else none
    | _ => none
theorem px_s1_eq (i : Instr) (len pc mx : Nat) (lv : List (Nat × Value)) (st : List Value) : px_s1 i len pc mx lv st = px_or (px_a1 i len pc lv st) (px_or (px_a2 i len pc lv st) (px_or (px_a3 i len pc lv st) (px_or (px_a4 i len pc lv st) (px_or (px_a5 i len pc mx lv st) (px_or (px_a6 i len pc mx lv st) (px_or (px_a7 i len pc lv st) (px_or (px_a8 i len pc lv st) (px_a9 i len pc lv st)))))))) := rfl
/-- sorts of instructions: 1 two ints, 2 loads, 3 constants, 4 branches, 5 stores, 6 iinc, 7 stack, 8 one value, 9 two longs, 0 all else -/
def px_so1 (i : Instr) : Nat := match i with
  | .iadd | .isub | .imul | .iand | .ior | .ixor | .ishl | .ishr | .iushr | .idiv | .irem => 1
  | .iload_n _ | .iload _ | .lload_n _ | .lload _ | .aload_n _ | .aload _ => 2
  | .iconst _ | .bipush _ | .sipush _ | .lconst _ => 3
  | .goto _ | .ifCond _ _ | .if_icmp _ _ | .tableswitch _ _ _ _ => 4
  | .istore_n _ | .istore _ | .astore_n _ | .astore _ => 5
  | .iinc _ _ => 6
  | .dup | .pop | .dup_x1 | .dup2 => 7
  | .ineg | .i2l | .i2b | .i2s | .i2c | .l2i => 8
  | .land | .lor | .lshl | .lshr => 9
  | _ => 0
section ONE
variable {i : Instr} {len pc mx : Nat} {lv : List (Nat × Value)} {st : List Value}
theorem px_a1_no (h : px_so1 i ≠ 1) : px_a1 i len pc lv st = none := by
  have h1 : ∀ x y, px_bin i x y = none := by
    intro x y
    unfold px_bin
    split <;> first | rfl | exact absurd rfl h
  unfold px_a1
  split
  · split
    · rw [h1]; rfl
    · rfl
  · rfl
theorem px_a2_no (h : px_so1 i ≠ 2) : px_a2 i len pc lv st = none := by
  have h1 : px_ld i = none := by
    unfold px_ld
    split <;> first | rfl | exact absurd rfl h
  unfold px_a2
  rw [h1]
  rfl
theorem px_a3_no (h : px_so1 i ≠ 3) : px_a3 i len pc lv st = none := by
  have h1 : px_cst i = none := by
    unfold px_cst
    split <;> first | rfl | exact absurd rfl h
  unfold px_a3
  rw [h1]
  rfl
theorem px_a4_no (h : px_so1 i ≠ 4) : px_a4 i len pc lv st = none := by
  have h1 : px_br i pc len st = none := by
    unfold px_br
    split <;> first | rfl | exact absurd rfl h
  unfold px_a4
  rw [h1]
  rfl
theorem px_a5_no (h : px_so1 i ≠ 5) : px_a5 i len pc mx lv st = none := by
  have h1 : px_st i = none := by
    unfold px_st
    split <;> first | rfl | exact absurd rfl h
  unfold px_a5
  split
  · rw [h1]; rfl
  · rfl
theorem px_a6_no (h : px_so1 i ≠ 6) : px_a6 i len pc mx lv st = none := by
  unfold px_a6
  split
  · exact absurd rfl h
  · rfl
theorem px_a7_no (h : px_so1 i ≠ 7) : px_a7 i len pc lv st = none := by
  have h1 : px_stk i st = none := by
    unfold px_stk
    split <;> first | rfl | exact absurd rfl h
  unfold px_a7
  rw [h1]
  split <;> rfl
theorem px_a8_no (h : px_so1 i ≠ 8) : px_a8 i len pc lv st = none := by
  have h1 : ∀ v, px_un i v = none := by
    intro v
    unfold px_un
    split <;> first | rfl | exact absurd rfl h
  unfold px_a8
  split
  · rw [h1]; split <;> rfl
  · rfl
theorem px_a9_no (h : px_so1 i ≠ 9) : px_a9 i len pc lv st = none := by
  have h1 : ∀ x v, px_lb i x v = none := by
    intro x v
    unfold px_lb
    split <;> first | rfl | exact absurd rfl h
  unfold px_a9
  split
  · rw [h1]; split <;> rfl
  · rfl
theorem px_or_n {α : Type} {a b : Option α} (h : a = none) : px_or a b = b := by rw [h]; rfl
theorem px_or_s {α : Type} {a b : Option α} {x : α} (h : a = some x) : px_or a b = some x := by rw [h]; rfl
theorem px_s1_0 (h : px_so1 i = 0) : px_s1 i len pc mx lv st = none := by
  rw [px_s1_eq, px_or_n (px_a1_no (by omega)), px_or_n (px_a2_no (by omega)), px_or_n (px_a3_no (by omega)), px_or_n (px_a4_no (by omega)), px_or_n (px_a5_no (by omega)), px_or_n (px_a6_no (by omega)), px_or_n (px_a7_no (by omega)), px_or_n (px_a8_no (by omega)), px_a9_no (by omega)]
theorem px_s1_1 (h : px_so1 i = 1) {z : Nat × List (Nat × Value) × List Value} (hz : px_a1 i len pc lv st = some z) : px_s1 i len pc mx lv st = some z := by
  rw [px_s1_eq, px_or_s hz]
theorem px_s1_2 (h : px_so1 i = 2) {z : Nat × List (Nat × Value) × List Value} (hz : px_a2 i len pc lv st = some z) : px_s1 i len pc mx lv st = some z := by
  rw [px_s1_eq, px_or_n (px_a1_no (by omega)), px_or_s hz]
theorem px_s1_3 (h : px_so1 i = 3) {z : Nat × List (Nat × Value) × List Value} (hz : px_a3 i len pc lv st = some z) : px_s1 i len pc mx lv st = some z := by
  rw [px_s1_eq, px_or_n (px_a1_no (by omega)), px_or_n (px_a2_no (by omega)), px_or_s hz]
theorem px_s1_4 (h : px_so1 i = 4) {z : Nat × List (Nat × Value) × List Value} (hz : px_a4 i len pc lv st = some z) : px_s1 i len pc mx lv st = some z := by
  rw [px_s1_eq, px_or_n (px_a1_no (by omega)), px_or_n (px_a2_no (by omega)), px_or_n (px_a3_no (by omega)), px_or_s hz]
theorem px_s1_5 (h : px_so1 i = 5) {z : Nat × List (Nat × Value) × List Value} (hz : px_a5 i len pc mx lv st = some z) : px_s1 i len pc mx lv st = some z := by
  rw [px_s1_eq, px_or_n (px_a1_no (by omega)), px_or_n (px_a2_no (by omega)), px_or_n (px_a3_no (by omega)), px_or_n (px_a4_no (by omega)), px_or_s hz]
theorem px_s1_6 (h : px_so1 i = 6) {z : Nat × List (Nat × Value) × List Value} (hz : px_a6 i len pc mx lv st = some z) : px_s1 i len pc mx lv st = some z := by
  rw [px_s1_eq, px_or_n (px_a1_no (by omega)), px_or_n (px_a2_no (by omega)), px_or_n (px_a3_no (by omega)), px_or_n (px_a4_no (by omega)), px_or_n (px_a5_no (by omega)), px_or_s hz]
theorem px_s1_7 (h : px_so1 i = 7) {z : Nat × List (Nat × Value) × List Value} (hz : px_a7 i len pc lv st = some z) : px_s1 i len pc mx lv st = some z := by
  rw [px_s1_eq, px_or_n (px_a1_no (by omega)), px_or_n (px_a2_no (by omega)), px_or_n (px_a3_no (by omega)), px_or_n (px_a4_no (by omega)), px_or_n (px_a5_no (by omega)), px_or_n (px_a6_no (by omega)), px_or_s hz]
theorem px_s1_8 (h : px_so1 i = 8) {z : Nat × List (Nat × Value) × List Value} (hz : px_a8 i len pc lv st = some z) : px_s1 i len pc mx lv st = some z := by
  rw [px_s1_eq, px_or_n (px_a1_no (by omega)), px_or_n (px_a2_no (by omega)), px_or_n (px_a3_no (by omega)), px_or_n (px_a4_no (by omega)), px_or_n (px_a5_no (by omega)), px_or_n (px_a6_no (by omega)), px_or_n (px_a7_no (by omega)), px_or_s hz]
theorem px_s1_9 (h : px_so1 i = 9) {z : Nat × List (Nat × Value) × List Value} (hz : px_a9 i len pc lv st = some z) : px_s1 i len pc mx lv st = some z := by
  rw [px_s1_eq, px_or_n (px_a1_no (by omega)), px_or_n (px_a2_no (by omega)), px_or_n (px_a3_no (by omega)), px_or_n (px_a4_no (by omega)), px_or_n (px_a5_no (by omega)), px_or_n (px_a6_no (by omega)), px_or_n (px_a7_no (by omega)), px_or_n (px_a8_no (by omega))]
  exact hz
end ONE
section ONE2
variable {cl : List vw_C} {lt : List (List Int32)} {P : List px_M} {d : Nat} {scr : Option (List Int32)} {M : px_M} {pc : Nat} {lv : List (Nat × Value)} {st : List Value} {w : px_W} {i : Instr} {len : Nat}
theorem px_step_1 (hq : px_look M.2.1 pc = some (i, len)) {z : Nat × List (Nat × Value) × List Value} (hz : px_s1 i len pc M.1.2.2.1 lv st = some z) : px_step cl lt P d scr M pc lv st w = some (.inl (z.1, z.2.1, z.2.2, w, 0, 0)) := by
  unfold px_step
  rw [hq]
  show px_or ((px_s1 i len pc M.1.2.2.1 lv st).map _) _ = _
  rw [hz]
  rfl
theorem px_step_2 (hq : px_look M.2.1 pc = some (i, len)) (h0 : px_so1 i = 0) {z : List Value × px_W × Nat × Nat} (hz : px_s2 cl lt i len scr M.1.1.name M.1.1.cls M.2.2 st w = some z) : px_step cl lt P d scr M pc lv st w = some (.inl (pc + len, lv, z.1, z.2.1, z.2.2)) := by
  unfold px_step
  rw [hq]
  show px_or ((px_s1 i len pc M.1.2.2.1 lv st).map _) (px_or ((px_s2 cl lt i len scr M.1.1.name M.1.1.cls M.2.2 st w).map _) _) = _
  rw [px_s1_0 h0, hz]
  rfl
/-- calls and returns: 1 returns, 2 static, 3 virtual, 4 special -/
def px_so2 (i : Instr) : Nat := match i with
  | .ireturn | .lreturn | .return_ => 1
  | .invokestatic _ => 2
  | .invokevirtual _ => 3
  | .invokespecial _ => 4
  | _ => 0
theorem px_so2_0 (h : px_so2 i ≠ 0) : px_so1 i = 0 := by
  unfold px_so2 at h
  split at h <;> first | rfl | exact absurd rfl h
theorem px_s2_no (h : px_so2 i ≠ 0) {nm own : String} {L : px_L} : px_s2 cl lt i len scr nm own L st w = none := by
  unfold px_s2
  split <;> first | rfl | exact absurd rfl h
theorem px_s5_no (h : px_so2 i ≠ 1) {ret : Option FieldType} : px_s5 i len ret st = none := by
  unfold px_s5
  split <;> first | rfl | exact absurd rfl h
theorem px_step_5 (hq : px_look M.2.1 pc = some (i, len)) (h0 : px_so2 i = 1) {z : Option Value} (hz : px_s5 i len M.1.2.2.2.1 st = some z) : px_step cl lt P d scr M pc lv st w = some (.inr (.inl z)) := by
  unfold px_step
  rw [hq]
  show px_or ((px_s1 i len pc M.1.2.2.1 lv st).map _) (px_or ((px_s2 cl lt i len scr M.1.1.name M.1.1.cls M.2.2 st w).map _) (px_or ((px_s5 i len M.1.2.2.2.1 st).map _) _)) = _
  rw [px_s1_0 (px_so2_0 (by omega)), px_s2_no (by omega), hz]
  rfl
theorem px_step_3 (hq : px_look M.2.1 pc = some (i, len)) (h0 : 2 ≤ px_so2 i) {z : List Value × px_W} (hz : px_s3 i len d M.2.2 st w = some z) : px_step cl lt P d scr M pc lv st w = some (.inl (pc + 3, lv, z.1, z.2, 0, 0)) := by
  unfold px_step
  rw [hq]
  show px_or ((px_s1 i len pc M.1.2.2.1 lv st).map _) (px_or ((px_s2 cl lt i len scr M.1.1.name M.1.1.cls M.2.2 st w).map _) (px_or ((px_s5 i len M.1.2.2.2.1 st).map _) (px_or ((px_s3 i len d M.2.2 st w).map _) _))) = _
  rw [px_s1_0 (px_so2_0 (by omega)), px_s2_no (by omega), px_s5_no (by omega), hz]
  rfl
theorem px_step_6 (hq : px_look M.2.1 pc = some (i, len)) (h0 : 2 ≤ px_so2 i) (h3 : px_s3 i len d M.2.2 st w = none) {z : List Value} (hz : px_s6 i len d M.2.2 st = some z) : px_step cl lt P d scr M pc lv st w = some (.inl (pc + 3, lv, z, w, 0, 0)) := by
  unfold px_step
  rw [hq]
  show px_or ((px_s1 i len pc M.1.2.2.1 lv st).map _) (px_or ((px_s2 cl lt i len scr M.1.1.name M.1.1.cls M.2.2 st w).map _) (px_or ((px_s5 i len M.1.2.2.2.1 st).map _) (px_or ((px_s3 i len d M.2.2 st w).map _) (px_or ((px_s6 i len d M.2.2 st).map _) _)))) = _
  rw [px_s1_0 (px_so2_0 (by omega)), px_s2_no (by omega), px_s5_no (by omega), h3, hz]
  rfl
theorem px_step_4 (hq : px_look M.2.1 pc = some (i, len)) (h0 : 2 ≤ px_so2 i) (h3 : px_s3 i len d M.2.2 st w = none) (h6 : px_s6 i len d M.2.2 st = none) {z : Nat × List Value × List Value} (hz : px_s4 cl P i len M.2.2 st w = some z) : px_step cl lt P d scr M pc lv st w = some (.inr (.inr z)) := by
  unfold px_step
  rw [hq]
  show px_or ((px_s1 i len pc M.1.2.2.1 lv st).map _) (px_or ((px_s2 cl lt i len scr M.1.1.name M.1.1.cls M.2.2 st w).map _) (px_or ((px_s5 i len M.1.2.2.2.1 st).map _) (px_or ((px_s3 i len d M.2.2 st w).map _) (px_or ((px_s6 i len d M.2.2 st).map _) ((px_s4 cl P i len M.2.2 st w).map _))))) = _
  rw [px_s1_0 (px_so2_0 (by omega)), px_s2_no (by omega), px_s5_no (by omega), h3, h6, hz]
  rfl
end ONE2

end
end
section
noncomputable section
/-! SIMPLE INSTRUCTIONS ON FORMS -/
def sy_cat (a : sy_A) : Nat := match a with
  | .inr (.inr _) => 2
  | _ => 1
def sy_so (a : sy_A) : Nat := match a with
  | .inl _ => 0
  | .inr (.inr _) => 1
  | .inr (.inl _) => 2
section SIM
variable {ρ : Nat → Int} {τ : Nat → Int64}
theorem sy_cat_v (a : sy_A) : (sy_v ρ τ a).category = sy_cat a := by
  match a with
  | .inl _ => rfl
  | .inr (.inl _) => rfl
  | .inr (.inr _) => rfl
theorem sy_so_v (a : sy_A) : px_so (sy_v ρ τ a) = sy_so a := by
  match a with
  | .inl _ => rfl
  | .inr (.inl _) => rfl
  | .inr (.inr _) => rfl
theorem px_look_filter {α : Type} {p : Nat × α → Bool} {k : Nat} {v : α} : ∀ {l : List (Nat × α)}, px_look l k = some v → p (k, v) = true → px_look (l.filter p) k = some v
  | [], h, _ => by cases h
  | q :: r, h, hp => by
    rw [px_look_cons] at h
    by_cases hk : q.1 = k
    · rw [if_pos hk] at h
      cases h
      have hq : q = (k, q.2) := by rw [← hk]
      have hpq : p q = true := by rw [hq]; exact hp
      rw [List.filter_cons_of_pos hpq]
      rw [px_look_cons]
      rw [if_pos hk]
    · rw [if_neg hk] at h
      have ih := px_look_filter h hp
      by_cases hpq : p q = true
      · rw [List.filter_cons_of_pos hpq]
        rw [px_look_cons]
        rw [if_neg hk]
        exact ih
      · rw [List.filter_cons_of_neg hpq]
        exact ih
def sy_sto (lv : List (Nat × sy_A)) (i : Nat) (a : sy_A) : List (Nat × sy_A) := (i, a) :: lv.filter (fun q => !(q.1 == i) && !(q.1 + 1 == i && sy_cat q.2 == 2))
theorem sy_sto_ok {lv : List (Nat × sy_A)} {lc : List (Nat × Value)} (h : sy_lvok ρ τ lv lc) (i : Nat) (a : sy_A) : sy_lvok ρ τ (sy_sto lv i a) (px_sto lc i (sy_v ρ τ a)) := by
  intro q hq
  rcases List.mem_cons.mp hq with rfl | hq
  · show px_look ((i, sy_v ρ τ a) :: _) i = _
    rw [px_look_cons]
    rw [if_pos rfl]
  · obtain ⟨h1, h2⟩ := List.mem_filter.mp hq
    have h3 := h q h1
    have h4 : q.1 ≠ i := by
      intro e
      simp [e] at h2
    show px_look ((i, sy_v ρ τ a) :: _) q.1 = _
    rw [px_look_cons]
    rw [if_neg (fun e => h4 e.symm)]
    refine px_look_filter h3 ?_
    show (!(q.1 == i) && !(q.1 + 1 == i && (sy_v ρ τ q.2).category == 2)) = true
    rw [sy_cat_v]
    exact h2
def sy_stk (i : Instr) (st : List sy_A) : Option (List sy_A) := match i, st with
  | .dup, a :: r => if sy_cat a = 1 then some (a :: a :: r) else none
  | .pop, a :: r => if sy_cat a = 1 then some r else none
  | .dup_x1, a :: b :: r => if sy_cat a = 1 ∧ sy_cat b = 1 then some (a :: b :: a :: r) else none
  | .dup2, a :: b :: r => if sy_cat a = 1 ∧ sy_cat b = 1 then some (a :: b :: a :: b :: r) else none
  | _, _ => none
theorem sy_stk_ok {i : Instr} {st z : List sy_A} (hz : sy_stk i st = some z) : px_so1 i = 7 ∧ px_stk i (st.map (sy_v ρ τ)) = some (z.map (sy_v ρ τ)) := by
  unfold sy_stk at hz
  split at hz
  · split at hz
    · rename_i h
      cases hz
      refine ⟨rfl, ?_⟩
      show (if (sy_v ρ τ _).category = 1 then _ else none) = _
      rw [sy_cat_v, if_pos h]
      rfl
    · cases hz
  · split at hz
    · rename_i h
      cases hz
      refine ⟨rfl, ?_⟩
      show (if (sy_v ρ τ _).category = 1 then _ else none) = _
      rw [sy_cat_v, if_pos h]
    · cases hz
  · split at hz
    · rename_i h
      cases hz
      refine ⟨rfl, ?_⟩
      show (if (sy_v ρ τ _).category = 1 ∧ (sy_v ρ τ _).category = 1 then _ else none) = _
      rw [sy_cat_v, sy_cat_v, if_pos h]
      rfl
    · cases hz
  · split at hz
    · rename_i h
      cases hz
      refine ⟨rfl, ?_⟩
      show (if (sy_v ρ τ _).category = 1 ∧ (sy_v ρ τ _).category = 1 then _ else none) = _
      rw [sy_cat_v, sy_cat_v, if_pos h]
      rfl
    · cases hz
  · cases hz
/-- arithmetic that stays linear, constants, goto -/
def sy_ari (i : Instr) (len pc : Nat) (st : List sy_A) : Option (Nat × List sy_A) := match i, st with
  | .iadd, .inl y :: .inl x :: r => if len = 1 then some (pc + 1, .inl (sy_add x y) :: r) else none
  | .isub, .inl y :: .inl x :: r => if len = 1 then some (pc + 1, .inl (sy_sub x y) :: r) else none
  | .imul, .inl y :: .inl x :: r => if len = 1 then (if x.2 = [] then some (pc + 1, .inl (sy_scl x.1 y) :: r) else if y.2 = [] then some (pc + 1, .inl (sy_scl y.1 x) :: r) else none) else none
  | .ineg, .inl x :: r => if len = 1 then some (pc + 1, .inl (sy_scl (-1) x) :: r) else none
  | .iconst n, r => if len = 1 then some (pc + 1, .inl (sy_c n) :: r) else none
  | .bipush n, r => if len = 2 then some (pc + 2, .inl (sy_c (Int8.ofInt n).toInt32.toInt) :: r) else none
  | .sipush n, r => if len = 3 then some (pc + 3, .inl (sy_c (Int16.ofInt n).toInt32.toInt) :: r) else none
  | .goto off, r => if len = 3 then (px_tgt pc off).map (fun t => (t, r)) else none
  | _, _ => none
theorem sy_e_nil {e : sy_L} (h : e.2 = []) : sy_e ρ e = e.1 := by
  unfold sy_e
  rw [h]
  simp [sy_s]
theorem sy_ari_ok {i : Instr} {len pc mx : Nat} {st : List sy_A} {z : Nat × List sy_A} {lc : List (Nat × Value)} (hz : sy_ari i len pc st = some z) : px_s1 i len pc mx lc (st.map (sy_v ρ τ)) = some (z.1, lc, z.2.map (sy_v ρ τ)) := by
  unfold sy_ari at hz
  split at hz
  · split at hz
    · rename_i h
      cases hz
      subst h
      refine px_s1_1 rfl ?_
      show some (pc + 1, lc, Value.int (Int32.ofInt _ + Int32.ofInt _) :: _) = some (pc + 1, lc, Value.int (Int32.ofInt (sy_e ρ (sy_add _ _))) :: _)
      rw [sy_add_e, Int32.ofInt_add]
    · cases hz
  · split at hz
    · rename_i h
      cases hz
      subst h
      refine px_s1_1 rfl ?_
      show some (pc + 1, lc, Value.int (Int32.ofInt _ - Int32.ofInt _) :: _) = some (pc + 1, lc, Value.int (Int32.ofInt (sy_e ρ (sy_sub _ _))) :: _)
      rw [sy_sub_e, Int32.ofInt_sub]
    · cases hz
  · split at hz
    · rename_i h
      subst h
      split at hz
      · rename_i hx
        cases hz
        refine px_s1_1 rfl ?_
        show some (pc + 1, lc, Value.int (Int32.ofInt _ * Int32.ofInt _) :: _) = some (pc + 1, lc, Value.int (Int32.ofInt (sy_e ρ (sy_scl _ _))) :: _)
        rw [sy_scl_e, Int32.ofInt_mul, sy_e_nil hx]
      · split at hz
        · rename_i hy
          cases hz
          refine px_s1_1 rfl ?_
          show some (pc + 1, lc, Value.int (Int32.ofInt _ * Int32.ofInt _) :: _) = some (pc + 1, lc, Value.int (Int32.ofInt (sy_e ρ (sy_scl _ _))) :: _)
          rw [sy_scl_e, Int32.ofInt_mul, sy_e_nil hy, Int32.mul_comm]
        · cases hz
    · cases hz
  · split at hz
    · rename_i h
      cases hz
      subst h
      refine px_s1_8 rfl ?_
      show some (pc + 1, lc, Value.int (-Int32.ofInt _) :: _) = some (pc + 1, lc, Value.int (Int32.ofInt (sy_e ρ (sy_scl (-1) _))) :: _)
      rw [sy_scl_e, Int.neg_mul, Int.one_mul, Int32.ofInt_neg]
    · cases hz
  · split at hz
    · rename_i h
      cases hz
      subst h
      refine px_s1_3 rfl ?_
      show some (pc + 1, lc, Value.int (Int32.ofInt _) :: _) = some (pc + 1, lc, Value.int (Int32.ofInt (sy_e ρ (sy_c _))) :: _)
      rw [sy_c_e]
    · cases hz
  · split at hz
    · rename_i h
      cases hz
      subst h
      refine px_s1_3 rfl ?_
      show some (pc + 2, lc, Value.int _ :: _) = some (pc + 2, lc, Value.int (Int32.ofInt (sy_e ρ (sy_c _))) :: _)
      rw [sy_c_e, Int32.ofInt_toInt]
    · cases hz
  · split at hz
    · rename_i h
      cases hz
      subst h
      refine px_s1_3 rfl ?_
      show some (pc + 3, lc, Value.int _ :: _) = some (pc + 3, lc, Value.int (Int32.ofInt (sy_e ρ (sy_c _))) :: _)
      rw [sy_c_e, Int32.ofInt_toInt]
    · cases hz
  · split at hz
    · rename_i h
      subst h
      obtain ⟨t, ht, h2⟩ := Option.map_eq_some_iff.mp hz
      clear hz
      subst h2
      refine px_s1_4 rfl ?_
      show ((if 3 = 3 then (px_tgt pc _).map (fun t => (t, _)) else none).map _) = _
      rw [if_pos rfl, ht]
      rfl
    · cases hz
  · cases hz
def sy_1 (i : Instr) (len pc mx : Nat) (lv : List (Nat × sy_A)) (st : List sy_A) : Option (Nat × List (Nat × sy_A) × List sy_A) :=
  if px_so1 i = 2 then (px_ld i).bind (fun q => (px_look lv q.1).bind (fun a => if len = q.2.1 ∧ sy_so a = q.2.2 then some (pc + len, lv, a :: st) else none))
  else if px_so1 i = 5 then (match st with
    | a :: r => (px_st i).bind (fun q => if len = q.2.1 ∧ sy_so a = q.2.2 ∧ q.1 < mx then some (pc + len, sy_sto lv q.1 a, r) else none)
    | [] => none)
  else if px_so1 i = 7 then (if len = 1 then (sy_stk i st).map (fun r => (pc + 1, lv, r)) else none)
  else match i with
    | .iinc k n => (px_look lv k).bind (fun a => match a with
      | .inl e => if len = 3 ∧ k < mx then some (pc + 3, sy_sto lv k (.inl (sy_add e (sy_c n))), st) else none
      | _ => none)
    | _ => (sy_ari i len pc st).map (fun z => (z.1, lv, z.2))
theorem sy_1_ok {i : Instr} {len pc mx : Nat} {lv : List (Nat × sy_A)} {st : List sy_A} {z : Nat × List (Nat × sy_A) × List sy_A} {lc : List (Nat × Value)} (hl : sy_lvok ρ τ lv lc) (hz : sy_1 i len pc mx lv st = some z) : ∃ lc', px_s1 i len pc mx lc (st.map (sy_v ρ τ)) = some (z.1, lc', z.2.2.map (sy_v ρ τ)) ∧ sy_lvok ρ τ z.2.1 lc' := by
  unfold sy_1 at hz
  split at hz
  · rename_i h2
    obtain ⟨q, hq, hz1⟩ := Option.bind_eq_some_iff.mp hz
    obtain ⟨a, ha, hz2⟩ := Option.bind_eq_some_iff.mp hz1
    clear hz hz1
    split at hz2
    · rename_i hc
      cases hz2
      refine ⟨lc, px_s1_2 h2 ?_, hl⟩
      unfold px_a2
      have h3 := hl _ (px_look_mem ha)
      rw [hq]
      show (px_look lc q.1).bind _ = _
      rw [h3]
      show (if len = q.2.1 ∧ px_so (sy_v ρ τ a) = q.2.2 then _ else none) = _
      rw [sy_so_v, if_pos hc]
      rfl
    · cases hz2
  · split at hz
    · rename_i h5
      split at hz
      · rename_i a r
        obtain ⟨q, hq, hz1⟩ := Option.bind_eq_some_iff.mp hz
        clear hz
        split at hz1
        · rename_i hc
          cases hz1
          refine ⟨px_sto lc q.1 (sy_v ρ τ a), px_s1_5 h5 ?_, sy_sto_ok hl _ _⟩
          show (px_st i).bind _ = _
          rw [hq]
          show (if len = q.2.1 ∧ px_so (sy_v ρ τ a) = q.2.2 ∧ q.1 < mx then _ else none) = _
          rw [sy_so_v, if_pos hc]
        · cases hz1
      · cases hz
    · split at hz
      · split at hz
        · rename_i h7 hc
          obtain ⟨r, hr, h2⟩ := Option.map_eq_some_iff.mp hz
          clear hz
          subst h2
          refine ⟨lc, px_s1_7 h7 ?_, hl⟩
          unfold px_a7
          rw [if_pos hc, (sy_stk_ok hr).2]
          rfl
        · cases hz
      · split at hz
        · obtain ⟨a, ha, hz1⟩ := Option.bind_eq_some_iff.mp hz
          clear hz
          split at hz1
          · rename_i e
            split at hz1
            · rename_i hc
              cases hz1
              have h3 := hl _ (px_look_mem ha)
              refine ⟨_, px_s1_6 rfl ?_, sy_sto_ok hl _ _⟩
              show (px_look lc _).bind _ = _
              rw [h3]
              show (if len = 3 ∧ _ < mx then some (pc + 3, px_sto lc _ (Value.int (Int32.ofInt (sy_e ρ e) + Int32.ofInt _)), _) else none) = some (pc + 3, px_sto lc _ (Value.int (Int32.ofInt (sy_e ρ (sy_add e (sy_c _))))), _)
              rw [if_pos hc, sy_add_e, sy_c_e, Int32.ofInt_add]
            · cases hz1
          · cases hz1
        · obtain ⟨r, hr, h2⟩ := Option.map_eq_some_iff.mp hz
          clear hz
          subst h2
          exact ⟨lc, sy_ari_ok hr, hl⟩
end SIM

end
end
section
noncomputable section
/-! STEPS OF SYMBOLIC STATES -/
def sy_at (S : sy_S) (g : sy_G) (pc : Nat) (lv : List (Nat × sy_A)) (st : List sy_A) : sy_S := (g, (S.2.1.1, pc, lv, st), S.2.2)
section STEP
variable {x : sy_X} {q : sy_Q} {S : sy_S} {M : px_M} {i : Instr} {len : Nat}
theorem sy_open (h : ∀ (ρ : Nat → Int) (τ : Nat → Int64) (w : px_W) (lc : List (Nat × Value)) (cf : List pf_F) (d : Nat), sy_mem q S.1 ρ τ w → sy_lvok ρ τ S.2.1.2.2.1 lc → sy_frs ρ τ q.1 S.2.2 cf → d + cf.length = x.2.2.2.2.2.2 → pf_Fin x.1 x.2.1 x.2.2.1 x.2.2.2.1 x.2.2.2.2.1 x.2.2.2.2.2.1 cf d M S.2.1.2.1 lc (S.2.1.2.2.2.map (sy_v ρ τ)) w) (hM : q.1[S.2.1.1]? = some M) : sy_Good x q S := by
  intro ρ τ w c cf d hR hd
  obtain ⟨hm, ⟨h1, h2, h3, h4⟩, hf⟩ := hR
  have hc : c.1 = M := Option.some.inj (h1.symm.trans hM)
  rw [hc, h2, h4]
  exact h ρ τ w c.2.2.1 cf d hm h3 hf hd
theorem sy_use {g : sy_G} {pc : Nat} {lv : List (Nat × sy_A)} {st : List sy_A} (hG : sy_Good x q (sy_at S g pc lv st)) (hM : q.1[S.2.1.1]? = some M) {ρ : Nat → Int} {τ : Nat → Int64} {w : px_W} {lc : List (Nat × Value)} {cf : List pf_F} {d : Nat} (hm : sy_mem q g ρ τ w) (hl : sy_lvok ρ τ lv lc) (hf : sy_frs ρ τ q.1 S.2.2 cf) (hd : d + cf.length = x.2.2.2.2.2.2) : pf_Fin x.1 x.2.1 x.2.2.1 x.2.2.2.1 x.2.2.2.2.1 x.2.2.2.2.2.1 cf d M pc lc (st.map (sy_v ρ τ)) w := hG ρ τ w (M, pc, lc, st.map (sy_v ρ τ)) cf d ⟨hm, ⟨hM, rfl, hl, rfl⟩, hf⟩ hd
theorem sy_go1 (hM : q.1[S.2.1.1]? = some M) (hq : px_look M.2.1 S.2.1.2.1 = some (i, len)) {z : Nat × List (Nat × sy_A) × List sy_A} (hz : sy_1 i len S.2.1.2.1 M.1.2.2.1 S.2.1.2.2.1 S.2.1.2.2.2 = some z) (hG : sy_Good x q (sy_at S S.1 z.1 z.2.1 z.2.2)) : sy_Good x q S := by
  refine sy_open (fun ρ τ w lc cf d hm hl hf hd => ?_) hM
  obtain ⟨lc', hs, hl'⟩ := sy_1_ok hl hz
  exact pf_next (px_step_1 hq hs) (sy_use hG hM hm hl' hf hd)
theorem sy_zero {ρ : Nat → Int} : Int32.ofInt (sy_e ρ (sy_c 0)) = 0 := by
  rw [sy_c_e]
  rfl
theorem sy_goIf {k : Jvm.ClassFile.Cond} {off : Int} {t : Nat} {e : sy_L} {r : List sy_A} (hM : q.1[S.2.1.1]? = some M) (hq : px_look M.2.1 S.2.1.2.1 = some (.ifCond k off, 3)) (hst : S.2.1.2.2.2 = .inl e :: r) (ht : px_tgt S.2.1.2.1 off = some t)
    (hT : ∀ g', (sy_two S.1 k e (sy_c 0)).1 = some g' → sy_Good x q (sy_at S g' t S.2.1.2.2.1 r)) (hF : ∀ g', (sy_two S.1 k e (sy_c 0)).2 = some g' → sy_Good x q (sy_at S g' (S.2.1.2.1 + 3) S.2.1.2.2.1 r)) : sy_Good x q S := by
  refine sy_open (fun ρ τ w lc cf d hm hl hf hd => ?_) hM
  rw [hst]
  have h2 := sy_two_ok hm k e (sy_c 0)
  rw [sy_zero] at h2
  have hs : ∀ mx, px_s1 (.ifCond k off) 3 S.2.1.2.1 mx lc ((.inl e :: r : List sy_A).map (sy_v ρ τ)) = some (if px_cnd k (Int32.ofInt (sy_e ρ e)) 0 = true then t else S.2.1.2.1 + 3, lc, r.map (sy_v ρ τ)) := by
    intro mx
    refine px_s1_4 rfl ?_
    show ((if 3 = 3 then (px_tgt S.2.1.2.1 off).map (fun t => (if px_cnd k (Int32.ofInt (sy_e ρ e)) 0 = true then t else S.2.1.2.1 + 3, r.map (sy_v ρ τ))) else none).map _) = _
    rw [if_pos rfl, ht]
    rfl
  refine pf_next (px_step_1 hq (hs _)) ?_
  by_cases hc : px_cnd k (Int32.ofInt (sy_e ρ e)) 0 = true
  · obtain ⟨g', h3, h4⟩ := h2.1 hc
    rw [if_pos hc]
    exact sy_use (hT g' h3) hM h4 hl hf hd
  · obtain ⟨g', h3, h4⟩ := h2.2 hc
    rw [if_neg hc]
    exact sy_use (hF g' h3) hM h4 hl hf hd
theorem sy_goCmp {k : Jvm.ClassFile.Cond} {off : Int} {t : Nat} {a b : sy_L} {r : List sy_A} (hM : q.1[S.2.1.1]? = some M) (hq : px_look M.2.1 S.2.1.2.1 = some (.if_icmp k off, 3)) (hst : S.2.1.2.2.2 = .inl b :: .inl a :: r) (ht : px_tgt S.2.1.2.1 off = some t)
    (hT : ∀ g', (sy_two S.1 k a b).1 = some g' → sy_Good x q (sy_at S g' t S.2.1.2.2.1 r)) (hF : ∀ g', (sy_two S.1 k a b).2 = some g' → sy_Good x q (sy_at S g' (S.2.1.2.1 + 3) S.2.1.2.2.1 r)) : sy_Good x q S := by
  refine sy_open (fun ρ τ w lc cf d hm hl hf hd => ?_) hM
  rw [hst]
  have h2 := sy_two_ok hm k a b
  have hs : ∀ mx, px_s1 (.if_icmp k off) 3 S.2.1.2.1 mx lc ((.inl b :: .inl a :: r : List sy_A).map (sy_v ρ τ)) = some (if px_cnd k (Int32.ofInt (sy_e ρ a)) (Int32.ofInt (sy_e ρ b)) = true then t else S.2.1.2.1 + 3, lc, r.map (sy_v ρ τ)) := by
    intro mx
    refine px_s1_4 rfl ?_
    show ((if 3 = 3 then (px_tgt S.2.1.2.1 off).map (fun t => (if px_cnd k (Int32.ofInt (sy_e ρ a)) (Int32.ofInt (sy_e ρ b)) = true then t else S.2.1.2.1 + 3, r.map (sy_v ρ τ))) else none).map _) = _
    rw [if_pos rfl, ht]
    rfl
  refine pf_next (px_step_1 hq (hs _)) ?_
  by_cases hc : px_cnd k (Int32.ofInt (sy_e ρ a)) (Int32.ofInt (sy_e ρ b)) = true
  · obtain ⟨g', h3, h4⟩ := h2.1 hc
    rw [if_pos hc]
    exact sy_use (hT g' h3) hM h4 hl hf hd
  · obtain ⟨g', h3, h4⟩ := h2.2 hc
    rw [if_neg hc]
    exact sy_use (hF g' h3) hM h4 hl hf hd
/-- the ways of a switch: from place n on -/
def sy_tab (g : sy_G) (e : sy_L) (lo : Int) (pc : Nat) : List Int → Int → Option (List (sy_G × Nat))
  | [], _ => some []
  | o :: r, n => match px_tgt pc o, sy_tab g e lo pc r (n + 1) with
    | some t, some l => some (match sy_asms g [sy_sub e (sy_c (lo + n)), sy_sub (sy_c (lo + n)) e] with
      | some g' => (g', t) :: l
      | none => l)
    | _, _ => none
theorem sy_tab_ok {g : sy_G} {e : sy_L} {lo : Int} {pc : Nat} {ρ : Nat → Int} {τ : Nat → Int64} {w : px_W} (hm : sy_mem q g ρ τ w) : ∀ (os : List Int) (n : Int) (l : List (sy_G × Nat)), sy_tab g e lo pc os n = some l → ∀ (k : Nat) (o : Int), os[k]? = some o → sy_e ρ e = lo + n + k → ∃ z ∈ l, px_tgt pc o = some z.2 ∧ sy_mem q z.1 ρ τ w
  | [], _, _, _, k, o, h, _ => by simp at h
  | o1 :: r, n, l, hl, k, o, h, he => by
    unfold sy_tab at hl
    split at hl
    · rename_i t l2 ht hl2
      cases hl
      cases k with
      | zero =>
        rw [List.getElem?_cons_zero] at h
        cases h
        obtain ⟨g', h1, h2⟩ := sy_asms_ok (l := [sy_sub e (sy_c (lo + n)), sy_sub (sy_c (lo + n)) e]) hm (fun z hz => by
          rcases List.mem_cons.mp hz with rfl | hz
          · rw [sy_sub_e, sy_c_e]; omega
          · rw [List.mem_singleton.mp hz, sy_sub_e, sy_c_e]; omega)
        rw [h1]
        exact ⟨(g', t), List.mem_cons_self, ht, h2⟩
      | succ k =>
        rw [List.getElem?_cons_succ] at h
        obtain ⟨z, h1, h2⟩ := sy_tab_ok hm r (n + 1) l2 hl2 k o h (by omega)
        refine ⟨z, ?_, h2⟩
        split
        · exact List.mem_cons_of_mem _ h1
        · exact h1
    · cases hl
theorem sy_goTab {dflt lo hi : Int} {offs : Array Int} {t : Nat} {e : sy_L} {r : List sy_A} {b : Int × Int} {l : List (sy_G × Nat)} (hM : q.1[S.2.1.1]? = some M) (hq : px_look M.2.1 S.2.1.2.1 = some (.tableswitch dflt lo hi offs, len)) (hst : S.2.1.2.2.2 = .inl e :: r) (ht : px_tgt S.2.1.2.1 dflt = some t) (hb : sy_b S.1.1 e = some b) (hfit : sy_fit b = true) (hlen : offs.size = (hi - lo + 1).toNat) (hl : sy_tab S.1 e lo S.2.1.2.1 offs.toList 0 = some l)
    (hT : ∀ z ∈ l, sy_Good x q (sy_at S z.1 z.2 S.2.1.2.2.1 r)) (hF1 : ∀ g', sy_asm S.1 (sy_add (sy_sub (sy_c lo) e) (sy_c (-1))) = some g' → sy_Good x q (sy_at S g' t S.2.1.2.2.1 r)) (hF2 : ∀ g', sy_asm S.1 (sy_add (sy_sub e (sy_c hi)) (sy_c (-1))) = some g' → sy_Good x q (sy_at S g' t S.2.1.2.2.1 r)) : sy_Good x q S := by
  refine sy_open (fun ρ τ w lc cf d hm hlv hf hd => ?_) hM
  rw [hst]
  obtain ⟨b1, b2⟩ := sy_b_e hm.2.1 hb
  have ex := sy_fit_e hfit b1 b2
  have hbr : px_br (.tableswitch dflt lo hi offs) S.2.1.2.1 len ((.inl e :: r : List sy_A).map (sy_v ρ τ)) = (if (Int32.ofInt (sy_e ρ e)).toInt < lo ∨ hi < (Int32.ofInt (sy_e ρ e)).toInt then (px_tgt S.2.1.2.1 dflt).map (fun t => (t, r.map (sy_v ρ τ))) else (offs[((Int32.ofInt (sy_e ρ e)).toInt - lo).toNat]?.bind (fun o => px_tgt S.2.1.2.1 o)).map (fun t => (t, r.map (sy_v ρ τ)))) := rfl
  rw [ex] at hbr
  have fin : ∀ t2 : Nat, px_br (.tableswitch dflt lo hi offs) S.2.1.2.1 len ((.inl e :: r : List sy_A).map (sy_v ρ τ)) = some (t2, r.map (sy_v ρ τ)) → ∀ mx, px_s1 (.tableswitch dflt lo hi offs) len S.2.1.2.1 mx lc ((.inl e :: r : List sy_A).map (sy_v ρ τ)) = some (t2, lc, r.map (sy_v ρ τ)) := by
    intro t2 h mx
    refine px_s1_4 rfl ?_
    unfold px_a4
    rw [h]
    rfl
  by_cases hc : sy_e ρ e < lo ∨ hi < sy_e ρ e
  · rw [if_pos hc, ht] at hbr
    refine pf_next (px_step_1 hq (fin t hbr _)) ?_
    rcases hc with hc | hc
    · obtain ⟨g', h1, h2⟩ := sy_asm_ok hm (e := sy_add (sy_sub (sy_c lo) e) (sy_c (-1))) (by rw [sy_add_e, sy_sub_e, sy_c_e, sy_c_e]; omega)
      exact sy_use (hF1 g' h1) hM h2 hlv hf hd
    · obtain ⟨g', h1, h2⟩ := sy_asm_ok hm (e := sy_add (sy_sub e (sy_c hi)) (sy_c (-1))) (by rw [sy_add_e, sy_sub_e, sy_c_e, sy_c_e]; omega)
      exact sy_use (hF2 g' h1) hM h2 hlv hf hd
  · rw [if_neg hc] at hbr
    have hk : (sy_e ρ e - lo).toNat < offs.size := by rw [hlen]; omega
    have ho : offs[(sy_e ρ e - lo).toNat]? = some offs[(sy_e ρ e - lo).toNat] := Array.getElem?_eq_getElem hk
    obtain ⟨z, z1, z2, z3⟩ := sy_tab_ok hm offs.toList 0 l hl (sy_e ρ e - lo).toNat offs[(sy_e ρ e - lo).toNat] (by rw [Array.getElem?_toList]; exact ho) (by omega)
    rw [ho] at hbr
    simp only [Option.bind_some, z2, Option.map_some] at hbr
    refine pf_next (px_step_1 hq (fin z.2 hbr _)) ?_
    exact sy_use (hT z z1) hM z3 hlv hf hd
end STEP

end
end
section
noncomputable section
/-! STEPS THAT GIVE A NEW NUMBER -/
section FR
variable {x : sy_X} {q : sy_Q} {S : sy_S} {M : px_M} {i : Instr} {len : Nat}
theorem sy_goF {rg : Int × Int} {pc' : Nat} {pre r : List sy_A} (hw : sy_wS S = true) (hM : q.1[S.2.1.1]? = some M) (hst : S.2.1.2.2.2 = pre ++ r)
    (hs : ∀ (ρ : Nat → Int) (τ : Nat → Int64) (w : px_W) (lc : List (Nat × Value)) (cf : List pf_F) (d : Nat), sy_mem q S.1 ρ τ w → d + cf.length = x.2.2.2.2.2.2 → ∃ Z : Int32, rg.1 ≤ Z.toInt ∧ Z.toInt ≤ rg.2 ∧ px_step x.1 x.2.1 x.2.2.1 d (pf_scr x.2.2.2.1 cf) M S.2.1.2.1 lc (S.2.1.2.2.2.map (sy_v ρ τ)) w = some (.inl (pc', lc, .int Z :: r.map (sy_v ρ τ), w, 0, 0)))
    (hG : sy_Good x q (sy_at S (sy_new S.1 rg) pc' S.2.1.2.2.1 (.inl (sy_x S.1.1.length) :: r))) : sy_Good x q S := by
  refine sy_open (fun ρ τ w lc cf d hm hl hf hd => ?_) hM
  obtain ⟨Z, h1, h2, h3⟩ := hs ρ τ w lc cf d hm hd
  obtain ⟨ρ', e1, e2, hm', ⟨f1, f2, f3, f4⟩, hf'⟩ := sy_fresh (c := (M, S.2.1.2.1, lc, S.2.1.2.2.2.map (sy_v ρ τ))) hw ⟨hm, ⟨hM, rfl, hl, rfl⟩, hf⟩ h1 h2
  refine pf_next h3 ?_
  have f4' : S.2.1.2.2.2.map (sy_v ρ τ) = S.2.1.2.2.2.map (sy_v ρ' τ) := f4
  rw [hst, List.map_append, List.map_append] at f4'
  have hr := (List.append_inj' f4' (by rw [List.length_map, List.length_map])).2
  have hu := sy_use hG hM hm' f3 hf' hd
  have e3 : (.inl (sy_x S.1.1.length) :: r : List sy_A).map (sy_v ρ' τ) = .int Z :: r.map (sy_v ρ τ) := by
    show Value.int (Int32.ofInt (sy_e ρ' (sy_x S.1.1.length))) :: r.map (sy_v ρ' τ) = _
    rw [sy_x_e, e2, Int32.ofInt_toInt, hr]
  rw [e3] at hu
  exact hu
theorem sy_goFL {pc' : Nat} {pre r : List sy_A} (hw : sy_wS S = true) (hM : q.1[S.2.1.1]? = some M) (hst : S.2.1.2.2.2 = pre ++ r)
    (hs : ∀ (ρ : Nat → Int) (τ : Nat → Int64) (w : px_W) (lc : List (Nat × Value)) (cf : List pf_F) (d : Nat), sy_mem q S.1 ρ τ w → d + cf.length = x.2.2.2.2.2.2 → ∃ Z : Int64, px_step x.1 x.2.1 x.2.2.1 d (pf_scr x.2.2.2.1 cf) M S.2.1.2.1 lc (S.2.1.2.2.2.map (sy_v ρ τ)) w = some (.inl (pc', lc, .long Z :: r.map (sy_v ρ τ), w, 0, 0)))
    (hG : sy_Good x q (sy_at S (S.1.1, S.1.2.1 + 1, S.1.2.2) pc' S.2.1.2.2.1 (.inr (.inr S.1.2.1) :: r))) : sy_Good x q S := by
  refine sy_open (fun ρ τ w lc cf d hm hl hf hd => ?_) hM
  obtain ⟨Z, h3⟩ := hs ρ τ w lc cf d hm hd
  obtain ⟨τ', e2, -, hm', ⟨f1, f2, f3, f4⟩, hf'⟩ := sy_freshL (c := (M, S.2.1.2.1, lc, S.2.1.2.2.2.map (sy_v ρ τ))) hw ⟨hm, ⟨hM, rfl, hl, rfl⟩, hf⟩ Z
  refine pf_next h3 ?_
  have f4' : S.2.1.2.2.2.map (sy_v ρ τ) = S.2.1.2.2.2.map (sy_v ρ τ') := f4
  rw [hst, List.map_append, List.map_append] at f4'
  have hr := (List.append_inj' f4' (by rw [List.length_map, List.length_map])).2
  have hu := sy_use hG hM hm' f3 hf' hd
  have e3 : (.inr (.inr S.1.2.1) :: r : List sy_A).map (sy_v ρ τ') = .long Z :: r.map (sy_v ρ τ) := by
    show Value.long (τ' S.1.2.1) :: r.map (sy_v ρ τ') = _
    rw [e2, hr]
  rw [e3] at hu
  exact hu
end FR
/-! forms with known symbols put in -/
def sy_nml (R : sy_T) : List (Nat × Int) → sy_L
  | [] => (0, [])
  | t :: r => match R[t.1]? with
    | some p => if p.1 = p.2 then ((sy_nml R r).1 + t.2 * p.1, (sy_nml R r).2) else ((sy_nml R r).1, t :: (sy_nml R r).2)
    | none => ((sy_nml R r).1, t :: (sy_nml R r).2)
def sy_nm (R : sy_T) (e : sy_L) : sy_L := (e.1 + (sy_nml R e.2).1, (sy_nml R e.2).2)
theorem sy_nml_e {ρ : Nat → Int} {R : sy_T} (h : sy_ok ρ R) : ∀ l : List (Nat × Int), sy_e ρ (sy_nml R l) = sy_s ρ l
  | [] => by simp [sy_nml, sy_e, sy_s]
  | t :: r => by
    have ih := sy_nml_e h r
    unfold sy_e at ih
    unfold sy_nml
    split
    · rename_i p hp
      have h1 := h _ _ hp
      split
      · rename_i he
        show (sy_nml R r).1 + t.2 * p.1 + sy_s ρ (sy_nml R r).2 = t.2 * ρ t.1 + sy_s ρ r
        have : ρ t.1 = p.1 := by omega
        rw [this, ← ih]
        omega
      · show (sy_nml R r).1 + (t.2 * ρ t.1 + sy_s ρ (sy_nml R r).2) = t.2 * ρ t.1 + sy_s ρ r
        rw [← ih]
        omega
    · show (sy_nml R r).1 + (t.2 * ρ t.1 + sy_s ρ (sy_nml R r).2) = t.2 * ρ t.1 + sy_s ρ r
      rw [← ih]
      omega
theorem sy_nm_e {ρ : Nat → Int} {R : sy_T} (h : sy_ok ρ R) (e : sy_L) : sy_e ρ (sy_nm R e) = sy_e ρ e := by
  have := sy_nml_e h e.2
  unfold sy_e at this ⊢
  show e.1 + (sy_nml R e.2).1 + sy_s ρ (sy_nml R e.2).2 = _
  omega
/-! what two ints give: a range -/
def sy_lim (p : Int) : Int := if p ≤ 1 then 1 else if p ≤ 3 then 3 else if p ≤ 7 then 7 else if p ≤ 15 then 15 else if p ≤ 31 then 31 else if p ≤ 63 then 63 else if p ≤ 127 then 127 else if p ≤ 255 then 255 else if p ≤ 511 then 511 else if p ≤ 1023 then 1023 else if p ≤ 2047 then 2047 else if p ≤ 4095 then 4095 else 2147483647
def sy_rl (i : Instr) (a b : Int × Int) : Option (Int × Int) := match i with
  | .iand => if 0 ≤ b.1 then some (0, b.2) else if 0 ≤ a.1 then some (0, a.2) else some sy_full
  | .ior => if 0 ≤ a.1 ∧ 0 ≤ b.1 then some (0, sy_lim (max a.2 b.2)) else some sy_full
  | .idiv => if 0 < b.1 ∨ b.2 < 0 then (if 0 < b.1 then some (if 0 ≤ a.1 then 0 else -((-a.1) / b.1), if 0 ≤ a.2 then a.2 / b.1 else 0) else some sy_full) else none
  | .irem => if 0 < b.1 ∨ b.2 < 0 then (if 0 ≤ a.1 ∧ 0 < b.1 then some (0, b.2 - 1) else some sy_full) else none
  | .imul | .ixor | .ishl | .ishr | .iushr => some sy_full
  | _ => none
theorem sy_full_in (z : Int32) : sy_full.1 ≤ z.toInt ∧ z.toInt ≤ sy_full.2 := sy_int_bounds z
theorem sy_nn {v : BitVec 32} (h : 0 ≤ v.toInt) : v.msb = false := by
  rw [BitVec.msb_eq_toInt]
  simp
  omega
theorem sy_and_r (a b : Int32) (h : 0 ≤ b.toInt) : 0 ≤ (a &&& b).toInt ∧ (a &&& b).toInt ≤ b.toInt := by
  have hb : b.toBitVec.msb = false := sy_nn h
  have hm : (a.toBitVec &&& b.toBitVec).msb = false := by rw [BitVec.msb_and, hb, Bool.and_false]
  have e1 : (a &&& b).toInt = ((a.toBitVec &&& b.toBitVec).toNat : Int) := BitVec.toInt_eq_toNat_of_msb hm
  have e2 : b.toInt = (b.toBitVec.toNat : Int) := BitVec.toInt_eq_toNat_of_msb hb
  rw [e1, e2, BitVec.toNat_and]
  have := Nat.and_le_right (n := a.toBitVec.toNat) (m := b.toBitVec.toNat)
  omega
theorem sy_and_l (a b : Int32) (h : 0 ≤ a.toInt) : 0 ≤ (a &&& b).toInt ∧ (a &&& b).toInt ≤ a.toInt := by
  rw [Int32.and_comm]
  exact sy_and_r b a h
theorem sy_or_b (a b : Int32) (ha : 0 ≤ a.toInt) (hb : 0 ≤ b.toInt) (n : Nat) (h1 : a.toInt < (2 ^ n : Nat)) (h2 : b.toInt < (2 ^ n : Nat)) : 0 ≤ (a ||| b).toInt ∧ (a ||| b).toInt < (2 ^ n : Nat) := by
  have ma : a.toBitVec.msb = false := sy_nn ha
  have mb : b.toBitVec.msb = false := sy_nn hb
  have hm : (a.toBitVec ||| b.toBitVec).msb = false := by rw [BitVec.msb_or, ma, mb]; rfl
  have e1 : (a ||| b).toInt = ((a.toBitVec ||| b.toBitVec).toNat : Int) := BitVec.toInt_eq_toNat_of_msb hm
  have e2 : b.toInt = (b.toBitVec.toNat : Int) := BitVec.toInt_eq_toNat_of_msb mb
  have e3 : a.toInt = (a.toBitVec.toNat : Int) := BitVec.toInt_eq_toNat_of_msb ma
  rw [e1, BitVec.toNat_or]
  have := Nat.or_lt_two_pow (x := a.toBitVec.toNat) (y := b.toBitVec.toNat) (n := n) (by omega) (by omega)
  omega
theorem sy_or_lim (a b : Int32) (ha : 0 ≤ a.toInt) (hb : 0 ≤ b.toInt) (p : Int) (h1 : a.toInt ≤ p) (h2 : b.toInt ≤ p) : 0 ≤ (a ||| b).toInt ∧ (a ||| b).toInt ≤ sy_lim p := by
  have key : ∀ n : Nat, p < (2 ^ n : Nat) → 0 ≤ (a ||| b).toInt ∧ (a ||| b).toInt < (2 ^ n : Nat) := fun n h => sy_or_b a b ha hb n (by omega) (by omega)
  have hb2 := sy_int_bounds (a ||| b)
  unfold sy_lim
  split
  · have := key 1 (by omega); omega
  split
  · have := key 2 (by omega); omega
  split
  · have := key 3 (by omega); omega
  split
  · have := key 4 (by omega); omega
  split
  · have := key 5 (by omega); omega
  split
  · have := key 6 (by omega); omega
  split
  · have := key 7 (by omega); omega
  split
  · have := key 8 (by omega); omega
  split
  · have := key 9 (by omega); omega
  split
  · have := key 10 (by omega); omega
  split
  · have := key 11 (by omega); omega
  split
  · have := key 12 (by omega); omega
  · refine ⟨?_, by omega⟩
    have ma : a.toBitVec.msb = false := sy_nn ha
    have mb : b.toBitVec.msb = false := sy_nn hb
    have hm : (a.toBitVec ||| b.toBitVec).msb = false := by rw [BitVec.msb_or, ma, mb]; rfl
    have e1 : (a ||| b).toInt = ((a.toBitVec ||| b.toBitVec).toNat : Int) := BitVec.toInt_eq_toNat_of_msb hm
    omega

end
end
section
noncomputable section
/-! TWO INTS, BY RANGES -/
theorem sy_dv0 {x y a b : Int} (h0 : 0 ≤ x) (h : x ≤ a) (hb : 0 < b) (hy : b ≤ y) : 0 ≤ x.tdiv y ∧ x.tdiv y ≤ a / b := by
  rw [Int.tdiv_eq_ediv_of_nonneg h0]
  have h1 : 0 ≤ x / y := Int.ediv_nonneg h0 (by omega)
  refine ⟨h1, (Int.le_ediv_iff_mul_le hb).mpr ?_⟩
  have h2 := Int.mul_le_mul_of_nonneg_left hy h1
  have h3 := Int.ediv_mul_le x (show y ≠ 0 by omega)
  omega
theorem sy_dv {x y a1 a2 b1 : Int} (h1 : a1 ≤ x) (h2 : x ≤ a2) (hb : 0 < b1) (hy : b1 ≤ y) : (if 0 ≤ a1 then 0 else -((-a1) / b1)) ≤ x.tdiv y ∧ x.tdiv y ≤ (if 0 ≤ a2 then a2 / b1 else 0) := by
  by_cases hx : 0 ≤ x
  · obtain ⟨h3, h4⟩ := sy_dv0 hx h2 hb hy
    rw [if_pos (show 0 ≤ a2 by omega)]
    refine ⟨?_, h4⟩
    split
    · exact h3
    · have := Int.ediv_nonneg (show 0 ≤ -a1 by omega) (Int.le_of_lt hb)
      omega
  · obtain ⟨h3, h4⟩ := sy_dv0 (x := -x) (by omega) (show -x ≤ -a1 by omega) hb hy
    rw [Int.neg_tdiv] at h3 h4
    rw [if_neg (show ¬ 0 ≤ a1 by omega)]
    refine ⟨by omega, ?_⟩
    split
    · have := Int.ediv_nonneg (show 0 ≤ a2 by assumption) (Int.le_of_lt hb)
      omega
    · omega
theorem sy_ne0 {b : Int × Int} {Y : Int32} (h : 0 < b.1 ∨ b.2 < 0) (hb : b.1 ≤ Y.toInt ∧ Y.toInt ≤ b.2) : ¬ Y = 0 := by
  intro e
  rw [e] at hb
  have : (0 : Int32).toInt = 0 := rfl
  omega
theorem sy_rl_ok {i : Instr} {a b r : Int × Int} {X Y : Int32} (h : sy_rl i a b = some r) (ha : a.1 ≤ X.toInt ∧ X.toInt ≤ a.2) (hb : b.1 ≤ Y.toInt ∧ Y.toInt ≤ b.2) : ∃ Z, px_bin i X Y = some Z ∧ r.1 ≤ Z.toInt ∧ Z.toInt ≤ r.2 := by
  unfold sy_rl at h
  split at h
  · split at h
    · cases h
      have := sy_and_r X Y (by omega)
      exact ⟨_, rfl, by show 0 ≤ _; omega, by show _ ≤ b.2; omega⟩
    · split at h
      · cases h
        have := sy_and_l X Y (by omega)
        exact ⟨_, rfl, by show 0 ≤ _; omega, by show _ ≤ a.2; omega⟩
      · cases h
        exact ⟨_, rfl, sy_full_in _⟩
  · split at h
    · cases h
      have := sy_or_lim X Y (by omega) (by omega) (max a.2 b.2) (by omega) (by omega)
      exact ⟨_, rfl, this.1, this.2⟩
    · cases h
      exact ⟨_, rfl, sy_full_in _⟩
  · split at h
    · rename_i hn
      have hne := sy_ne0 hn hb
      have hp : px_bin .idiv X Y = some (X / Y) := if_neg hne
      split at h
      · rename_i hc
        cases h
        have hm1 : Y ≠ -1 := by
          intro e
          rw [e] at hb
          have : (-1 : Int32).toInt = -1 := rfl
          omega
        have e1 := Int32.toInt_div_of_ne_right X Y hm1
        refine ⟨_, hp, ?_⟩
        rw [e1]
        exact sy_dv ha.1 ha.2 hc hb.1
      · cases h
        exact ⟨_, hp, sy_full_in _⟩
    · cases h
  · split at h
    · rename_i hn
      have hne := sy_ne0 hn hb
      have hp : px_bin .irem X Y = some (X - X / Y * Y) := if_neg hne
      split at h
      · rename_i hc
        cases h
        have hm1 : Y ≠ -1 := by
          intro e
          rw [e] at hb
          have : (-1 : Int32).toInt = -1 := rfl
          omega
        have e1 := Int32.toInt_div_of_ne_right X Y hm1
        have e2 : X - X / Y * Y = Int32.ofInt (X.toInt.tmod Y.toInt) := by
          rw [Int.tmod_def, Int32.ofInt_sub, Int32.ofInt_toInt, Int32.ofInt_mul, ← e1, Int32.ofInt_toInt, Int32.ofInt_toInt, Int32.mul_comm]
        have h1 := Int.tmod_nonneg (a := X.toInt) Y.toInt (by omega)
        have h2 := Int.tmod_lt_of_pos X.toInt (b := Y.toInt) (by omega)
        have hY := sy_int_bounds Y
        have e3 : (X - X / Y * Y).toInt = X.toInt.tmod Y.toInt := by
          rw [e2]
          exact Int32.toInt_ofInt_of_le (by omega) (by omega)
        exact ⟨_, hp, by show 0 ≤ (X - X / Y * Y).toInt; omega, by show (X - X / Y * Y).toInt ≤ b.2 - 1; omega⟩
      · cases h
        exact ⟨_, hp, sy_full_in _⟩
    · cases h
  all_goals first
    | (cases h; exact ⟨_, rfl, sy_full_in _⟩)
    | cases h
def sy_enY (i : Instr) (X : Int32) (lo : Int) : Nat → Option (Int × Int)
  | 0 => (px_bin i X (Int32.ofInt lo)).map (fun z => (z.toInt, z.toInt))
  | n + 1 => match px_bin i X (Int32.ofInt (lo + ((n + 1 : Nat) : Int))), sy_enY i X lo n with
    | some z, some r => some (min r.1 z.toInt, max r.2 z.toInt)
    | _, _ => none
theorem sy_enY_ok {i : Instr} {X : Int32} {lo : Int} : ∀ (n : Nat) (r : Int × Int), sy_enY i X lo n = some r → ∀ k : Nat, k ≤ n → ∃ Z, px_bin i X (Int32.ofInt (lo + (k : Int))) = some Z ∧ r.1 ≤ Z.toInt ∧ Z.toInt ≤ r.2
  | 0, r, h, k, hk => by
    obtain ⟨z, hz, rfl⟩ := Option.map_eq_some_iff.mp h
    have hk0 : k = 0 := by omega
    subst hk0
    refine ⟨z, ?_, Int.le_refl _, Int.le_refl _⟩
    rw [show lo + ((0 : Nat) : Int) = lo by omega]
    exact hz
  | n + 1, r, h, k, hk => by
    unfold sy_enY at h
    split at h
    · rename_i z r' hz hr
      cases h
      rcases Nat.lt_or_ge n k with hk1 | hk1
      · have hk2 : k = n + 1 := by omega
        subst hk2
        exact ⟨z, hz, by show min _ _ ≤ _; omega, by show _ ≤ max _ _; omega⟩
      · obtain ⟨Z, h1, h2, h3⟩ := sy_enY_ok n r' hr k hk1
        exact ⟨Z, h1, by show min _ _ ≤ _; omega, by show _ ≤ max _ _; omega⟩
    · cases h
def sy_enX (i : Instr) (Y : Int32) (lo : Int) : Nat → Option (Int × Int)
  | 0 => (px_bin i (Int32.ofInt lo) Y).map (fun z => (z.toInt, z.toInt))
  | n + 1 => match px_bin i (Int32.ofInt (lo + ((n + 1 : Nat) : Int))) Y, sy_enX i Y lo n with
    | some z, some r => some (min r.1 z.toInt, max r.2 z.toInt)
    | _, _ => none
theorem sy_enX_ok {i : Instr} {Y : Int32} {lo : Int} : ∀ (n : Nat) (r : Int × Int), sy_enX i Y lo n = some r → ∀ k : Nat, k ≤ n → ∃ Z, px_bin i (Int32.ofInt (lo + (k : Int))) Y = some Z ∧ r.1 ≤ Z.toInt ∧ Z.toInt ≤ r.2
  | 0, r, h, k, hk => by
    obtain ⟨z, hz, rfl⟩ := Option.map_eq_some_iff.mp h
    have hk0 : k = 0 := by omega
    subst hk0
    refine ⟨z, ?_, Int.le_refl _, Int.le_refl _⟩
    rw [show lo + ((0 : Nat) : Int) = lo by omega]
    exact hz
  | n + 1, r, h, k, hk => by
    unfold sy_enX at h
    split at h
    · rename_i z r' hz hr
      cases h
      rcases Nat.lt_or_ge n k with hk1 | hk1
      · have hk2 : k = n + 1 := by omega
        subst hk2
        exact ⟨z, hz, by show min _ _ ≤ _; omega, by show _ ≤ max _ _; omega⟩
      · obtain ⟨Z, h1, h2, h3⟩ := sy_enX_ok n r' hr k hk1
        exact ⟨Z, h1, by show min _ _ ≤ _; omega, by show _ ≤ max _ _; omega⟩
    · cases h
def sy_tot (i : Instr) : Bool := match i with
  | .iadd | .isub | .imul | .iand | .ior | .ixor | .ishl | .ishr | .iushr => true
  | _ => false
theorem sy_tot_ok {i : Instr} (h : sy_tot i = true) (X Y : Int32) : ∃ Z, px_bin i X Y = some Z := by
  unfold sy_tot at h
  split at h <;> first | exact ⟨_, rfl⟩ | cases h
/-- a range for what two ints give -/
def sy_bn (R : sy_T) (i : Instr) (x y : sy_L) : Option (Int × Int) := match sy_b R x, sy_b R y with
  | some a, some b => if sy_fit a = true ∧ sy_fit b = true then
      (if a.1 = a.2 ∧ b.2 - b.1 ≤ 200 then sy_enY i (Int32.ofInt a.1) b.1 (b.2 - b.1).toNat
      else if b.1 = b.2 ∧ a.2 - a.1 ≤ 200 then sy_enX i (Int32.ofInt b.1) a.1 (a.2 - a.1).toNat
      else sy_rl i a b)
    else if sy_tot i = true then some sy_full else none
  | _, _ => if sy_tot i = true then some sy_full else none
theorem sy_bn_ok {ρ : Nat → Int} {R : sy_T} (h : sy_ok ρ R) {i : Instr} {x y : sy_L} {r : Int × Int} (hr : sy_bn R i x y = some r) : ∃ Z, px_bin i (Int32.ofInt (sy_e ρ x)) (Int32.ofInt (sy_e ρ y)) = some Z ∧ r.1 ≤ Z.toInt ∧ Z.toInt ≤ r.2 := by
  have tot : sy_tot i = true → r = sy_full → ∃ Z, px_bin i (Int32.ofInt (sy_e ρ x)) (Int32.ofInt (sy_e ρ y)) = some Z ∧ r.1 ≤ Z.toInt ∧ Z.toInt ≤ r.2 := fun ht e => by
    obtain ⟨Z, hZ⟩ := sy_tot_ok ht (Int32.ofInt (sy_e ρ x)) (Int32.ofInt (sy_e ρ y))
    subst e
    exact ⟨Z, hZ, sy_full_in Z⟩
  unfold sy_bn at hr
  split at hr
  · rename_i a b ha hb
    obtain ⟨a1, a2⟩ := sy_b_e h ha
    obtain ⟨b1, b2⟩ := sy_b_e h hb
    split at hr
    · rename_i hf
      have ex := sy_fit_e hf.1 a1 a2
      have ey := sy_fit_e hf.2 b1 b2
      split at hr
      · rename_i hc
        obtain ⟨Z, h1, h2⟩ := sy_enY_ok _ _ hr (sy_e ρ y - b.1).toNat (by omega)
        rw [show b.1 + (((sy_e ρ y - b.1).toNat : Nat) : Int) = sy_e ρ y by omega, show a.1 = sy_e ρ x by omega] at h1
        exact ⟨Z, h1, h2⟩
      · split at hr
        · rename_i hc
          obtain ⟨Z, h1, h2⟩ := sy_enX_ok _ _ hr (sy_e ρ x - a.1).toNat (by omega)
          rw [show a.1 + (((sy_e ρ x - a.1).toNat : Nat) : Int) = sy_e ρ x by omega, show b.1 = sy_e ρ y by omega] at h1
          exact ⟨Z, h1, h2⟩
        · exact sy_rl_ok hr (by omega) (by omega)
    · split at hr
      · rename_i ht
        exact tot ht (Option.some.inj hr).symm
      · cases hr
  · split at hr
    · rename_i ht
      exact tot ht (Option.some.inj hr).symm
    · cases hr
section BN
variable {x : sy_X} {q : sy_Q} {S : sy_S} {M : px_M} {i : Instr}
theorem sy_goBin {a b : sy_L} {r : List sy_A} {rg : Int × Int} (hw : sy_wS S = true) (hM : q.1[S.2.1.1]? = some M) (hq : px_look M.2.1 S.2.1.2.1 = some (i, 1)) (h1 : px_so1 i = 1) (hst : S.2.1.2.2.2 = .inl b :: .inl a :: r) (hr : sy_bn S.1.1 i a b = some rg)
    (hG : sy_Good x q (sy_at S (sy_new S.1 rg) (S.2.1.2.1 + 1) S.2.1.2.2.1 (.inl (sy_x S.1.1.length) :: r))) : sy_Good x q S := by
  refine sy_goF (pre := [.inl b, .inl a]) hw hM hst (fun ρ τ w lc cf d hm _ => ?_) hG
  obtain ⟨Z, h2, h3, h4⟩ := sy_bn_ok hm.2.1 hr
  refine (fun hs : px_s1 i 1 S.2.1.2.1 M.1.2.2.1 lc (S.2.1.2.2.2.map (sy_v ρ τ)) = some (S.2.1.2.1 + 1, lc, .int Z :: r.map (sy_v ρ τ)) => ⟨Z, h3, h4, px_step_1 hq hs⟩) ?_
  refine px_s1_1 h1 ?_
  rw [hst]
  show (if 1 = 1 then (px_bin i (Int32.ofInt (sy_e ρ a)) (Int32.ofInt (sy_e ρ b))).map _ else none) = _
  rw [if_pos rfl, h2]
  rfl
/-- narrowing and widening: 1 to a byte, 2 to a short, 3 to a char, 4 to a long; of a long 5 to an int -/
theorem sy_ch0 {z : UInt32} (h : z.toNat < 65536) : 0 ≤ z.toInt32.toInt ∧ z.toInt32.toInt ≤ 65535 := by
  have h1 : z.toInt32.toInt = z.toBitVec.toInt := rfl
  rw [BitVec.toInt_eq_toNat_cond] at h1
  have hn : z.toBitVec.toNat = z.toNat := rfl
  rw [hn] at h1
  split at h1 <;> omega
theorem sy_ch1 {x : Int32} (h0 : 0 ≤ x.toInt) (h1 : x.toInt ≤ 65535) : x.toUInt32.toUInt16.toUInt32.toInt32 = x := by
  have h2 : x.toInt = x.toUInt32.toBitVec.toInt := rfl
  rw [BitVec.toInt_eq_toNat_cond] at h2
  have hn : x.toUInt32.toBitVec.toNat = x.toUInt32.toNat := rfl
  rw [hn] at h2
  have h3 := x.toUInt32.toNat_lt
  have h4 : x.toUInt32.toNat < 65536 := by split at h2 <;> omega
  have h5 : x.toUInt32.toUInt16.toUInt32 = x.toUInt32 := by
    apply UInt32.toNat_inj.mp
    rw [UInt16.toNat_toUInt32, UInt32.toNat_toUInt16]
    exact Nat.mod_eq_of_lt h4
  rw [h5]
  rfl
def sy_u (i : Instr) (a : sy_A) : Option (Int × Int) := match i, a with
  | .i2b, .inl _ => some (-128, 127)
  | .i2s, .inl _ => some (-32768, 32767)
  | .i2c, .inl _ => some (0, 65535)
  | .l2i, .inr (.inr _) => some sy_full
  | _, _ => none
theorem sy_u_ok {ρ : Nat → Int} {τ : Nat → Int64} {i : Instr} {a : sy_A} {r : Int × Int} (h : sy_u i a = some r) : px_so1 i = 8 ∧ ∃ Z : Int32, px_un i (sy_v ρ τ a) = some (.int Z) ∧ r.1 ≤ Z.toInt ∧ Z.toInt ≤ r.2 := by
  unfold sy_u at h
  split at h
  · rename_i e
    cases h
    refine ⟨rfl, _, rfl, ?_, ?_⟩
    · rw [Int8.toInt_toInt32]
      have := Int8.le_toInt (Int32.ofInt (sy_e ρ e)).toInt8
      show (-128 : Int) ≤ _
      omega
    · rw [Int8.toInt_toInt32]
      have := Int8.toInt_lt (Int32.ofInt (sy_e ρ e)).toInt8
      show _ ≤ (127 : Int)
      omega
  · rename_i e
    cases h
    refine ⟨rfl, _, rfl, ?_, ?_⟩
    · rw [Int16.toInt_toInt32]
      have := Int16.le_toInt (Int32.ofInt (sy_e ρ e)).toInt16
      show (-32768 : Int) ≤ _
      omega
    · rw [Int16.toInt_toInt32]
      have := Int16.toInt_lt (Int32.ofInt (sy_e ρ e)).toInt16
      show _ ≤ (32767 : Int)
      omega
  · rename_i e
    cases h
    refine ⟨rfl, _, rfl, sy_ch0 ?_⟩
    rw [UInt32.toNat_mod]
    exact Nat.mod_lt _ (by decide)
  · cases h
    exact ⟨rfl, _, rfl, sy_full_in _⟩
  · cases h
theorem sy_goU {a : sy_A} {r : List sy_A} {rg : Int × Int} (hw : sy_wS S = true) (hM : q.1[S.2.1.1]? = some M) (hq : px_look M.2.1 S.2.1.2.1 = some (i, 1)) (hst : S.2.1.2.2.2 = a :: r) (hr : sy_u i a = some rg)
    (hG : sy_Good x q (sy_at S (sy_new S.1 rg) (S.2.1.2.1 + 1) S.2.1.2.2.1 (.inl (sy_x S.1.1.length) :: r))) : sy_Good x q S := by
  refine sy_goF (pre := [a]) hw hM hst (fun ρ τ w lc cf d hm _ => ?_) hG
  obtain ⟨h8, Z, h2, h3, h4⟩ := sy_u_ok (ρ := ρ) (τ := τ) hr
  refine (fun hs : px_s1 i 1 S.2.1.2.1 M.1.2.2.1 lc (S.2.1.2.2.2.map (sy_v ρ τ)) = some (S.2.1.2.1 + 1, lc, .int Z :: r.map (sy_v ρ τ)) => ⟨Z, h3, h4, px_step_1 hq hs⟩) ?_
  refine px_s1_8 h8 ?_
  rw [hst]
  show (if 1 = 1 then (px_un i (sy_v ρ τ a)).map _ else none) = _
  rw [if_pos rfl, h2]
  rfl
/-- what gives a long: 1 taken from the stack, or 2 -/
def sy_ul (i : Instr) (st : List sy_A) : Option (List sy_A × List sy_A) := match i, st with
  | .lconst _, r => some ([], r)
  | .i2l, .inl a :: r => some ([.inl a], r)
  | .land, .inr (.inr b) :: .inr (.inr a) :: r => some ([.inr (.inr b), .inr (.inr a)], r)
  | .lor, .inr (.inr b) :: .inr (.inr a) :: r => some ([.inr (.inr b), .inr (.inr a)], r)
  | .lshl, .inl b :: .inr (.inr a) :: r => some ([.inl b, .inr (.inr a)], r)
  | .lshr, .inl b :: .inr (.inr a) :: r => some ([.inl b, .inr (.inr a)], r)
  | _, _ => none
theorem sy_ul_ok {ρ : Nat → Int} {τ : Nat → Int64} {i : Instr} {st : List sy_A} {z : List sy_A × List sy_A} {pc mx : Nat} {lc : List (Nat × Value)} (h : sy_ul i st = some z) : st = z.1 ++ z.2 ∧ ∃ Z : Int64, px_s1 i 1 pc mx lc (st.map (sy_v ρ τ)) = some (pc + 1, lc, .long Z :: z.2.map (sy_v ρ τ)) := by
  unfold sy_ul at h
  split at h
  · cases h
    exact ⟨rfl, _, px_s1_3 rfl rfl⟩
  · cases h
    exact ⟨rfl, _, px_s1_8 rfl rfl⟩
  · cases h
    exact ⟨rfl, _, px_s1_9 rfl rfl⟩
  · cases h
    exact ⟨rfl, _, px_s1_9 rfl rfl⟩
  · cases h
    exact ⟨rfl, _, px_s1_9 rfl rfl⟩
  · cases h
    exact ⟨rfl, _, px_s1_9 rfl rfl⟩
  · cases h
theorem sy_goUL {z : List sy_A × List sy_A} (hw : sy_wS S = true) (hM : q.1[S.2.1.1]? = some M) (hq : px_look M.2.1 S.2.1.2.1 = some (i, 1)) (hz : sy_ul i S.2.1.2.2.2 = some z)
    (hG : sy_Good x q (sy_at S (S.1.1, S.1.2.1 + 1, S.1.2.2) (S.2.1.2.1 + 1) S.2.1.2.2.1 (.inr (.inr S.1.2.1) :: z.2))) : sy_Good x q S := by
  refine sy_goFL (pre := z.1) hw hM (sy_ul_ok (ρ := fun _ => 0) (τ := fun _ => 0) (pc := 0) (mx := 0) (lc := []) hz).1 (fun ρ τ w lc cf d hm _ => ?_) hG
  obtain ⟨-, Z, h⟩ := sy_ul_ok (ρ := ρ) (τ := τ) (pc := S.2.1.2.1) (mx := M.1.2.2.1) (lc := lc) hz
  exact ⟨Z, px_step_1 hq h⟩
end BN

end
end
section
noncomputable section
/-! READING CELLS -/
theorem px_ix_of {z : Int} {n : Nat} (h0 : 0 ≤ z) (h1 : z < (n : Int)) (hn : n ≤ 2147483647) : px_ix (Int32.ofInt z) n = true ∧ (Int32.ofInt z).toNatClampNeg = z.toNat := by
  have e1 : (Int32.ofInt z).toInt = z := Int32.toInt_ofInt_of_le (by omega) (by omega)
  have e2 : (Int32.ofInt z).toNatClampNeg = z.toNat := Int32.toNatClampNeg_ofInt_of_le (by omega) (by omega)
  refine ⟨?_, e2⟩
  unfold px_ix
  rw [Bool.and_eq_true]
  refine ⟨?_, ?_⟩
  · have h2 : ¬ Int32.ofInt z < 0 := by
      intro q
      have := Int32.lt_iff_toInt_lt.mp q
      rw [e1] at this
      have h3 : (0 : Int32).toInt = 0 := rfl
      omega
    simp [h2]
  · rw [e2]
    exact decide_eq_true (by omega)
/-- where a form may lie: start, step, how many steps -/
def sy_pr (R : sy_T) (e : sy_L) : Option (Int × Int × Nat) := match e.2 with
  | [] => some (e.1, 1, 0)
  | [(i, c)] => (R[i]?).map (fun p => (e.1 + c * p.1, c, (p.2 - p.1).toNat))
  | _ => (sy_b R e).map (fun p => (p.1, 1, (p.2 - p.1).toNat))
theorem sy_pr_ok {ρ : Nat → Int} {R : sy_T} (h : sy_ok ρ R) {e : sy_L} {z : Int × Int × Nat} (hz : sy_pr R e = some z) : ∃ k : Nat, k ≤ z.2.2 ∧ sy_e ρ e = z.1 + z.2.1 * (k : Int) := by
  unfold sy_pr at hz
  split at hz
  · rename_i hc
    cases hz
    refine ⟨0, Nat.le_refl _, ?_⟩
    rw [sy_e_nil hc]
    simp
  · rename_i i c hc
    obtain ⟨p, hp, rfl⟩ := Option.map_eq_some_iff.mp hz
    have h1 := h i p hp
    refine ⟨(ρ i - p.1).toNat, by show _ ≤ (p.2 - p.1).toNat; omega, ?_⟩
    have hev : sy_e ρ e = e.1 + c * ρ i := by
      unfold sy_e
      rw [hc]
      simp [sy_s]
    show sy_e ρ e = e.1 + c * p.1 + c * (((ρ i - p.1).toNat : Nat) : Int)
    rw [show (((ρ i - p.1).toNat : Nat) : Int) = ρ i - p.1 by omega, Int.mul_sub, hev]
    omega
  · obtain ⟨p, hp, rfl⟩ := Option.map_eq_some_iff.mp hz
    obtain ⟨h1, h2⟩ := sy_b_e h hp
    refine ⟨(sy_e ρ e - p.1).toNat, by show _ ≤ (p.2 - p.1).toNat; omega, ?_⟩
    show sy_e ρ e = p.1 + 1 * (((sy_e ρ e - p.1).toNat : Nat) : Int)
    omega
def sy_jn (sg : sy_Sg) (s c : Int) : Nat → Int × Int
  | 0 => sy_seg sg s.toNat
  | n + 1 => (min (sy_seg sg (s + c * ((n + 1 : Nat) : Int)).toNat).1 (sy_jn sg s c n).1, max (sy_seg sg (s + c * ((n + 1 : Nat) : Int)).toNat).2 (sy_jn sg s c n).2)
theorem sy_jn_ok {sg : sy_Sg} {s c : Int} : ∀ (n k : Nat), k ≤ n → (sy_jn sg s c n).1 ≤ (sy_seg sg (s + c * (k : Int)).toNat).1 ∧ (sy_seg sg (s + c * (k : Int)).toNat).2 ≤ (sy_jn sg s c n).2
  | 0, k, hk => by
    have hk0 : k = 0 := by omega
    subst hk0
    rw [show s + c * ((0 : Nat) : Int) = s by simp]
    exact ⟨Int.le_refl _, Int.le_refl _⟩
  | n + 1, k, hk => by
    unfold sy_jn
    rcases Nat.lt_or_ge n k with h | h
    · have hk1 : k = n + 1 := by omega
      subst hk1
      exact ⟨by show min _ _ ≤ _; omega, by show _ ≤ max _ _; omega⟩
    · have := sy_jn_ok (sg := sg) (s := s) (c := c) n k h
      exact ⟨by show min _ _ ≤ _; omega, by show _ ≤ max _ _; omega⟩
/-- the range of what stands at a place -/
def sy_rd (R : sy_T) (sg : sy_Sg) (e : sy_L) : Option (Int × Int) := match sg with
  | [] => some sy_full
  | _ => (sy_pr R e).bind (fun z => if z.2.2 ≤ 3000 then some (sy_jn sg z.1 z.2.1 z.2.2) else none)
theorem sy_rd_ok {ρ : Nat → Int} {R : sy_T} (h : sy_ok ρ R) {sg : sy_Sg} {e : sy_L} {r : Int × Int} (hr : sy_rd R sg e = some r) {x : Int32} (hx : sy_in (sy_seg sg (sy_e ρ e).toNat) x) : r.1 ≤ x.toInt ∧ x.toInt ≤ r.2 := by
  unfold sy_rd at hr
  split at hr
  · cases hr
    exact sy_full_in x
  · obtain ⟨z, hz, hr2⟩ := Option.bind_eq_some_iff.mp hr
    split at hr2
    · cases hr2
      obtain ⟨k, hk, he⟩ := sy_pr_ok h hz
      have := sy_jn_ok (sg := sg) (s := z.1) (c := z.2.1) z.2.2 k hk
      rw [← he] at this
      unfold sy_in at hx
      omega
    · cases hr2
section RD
variable {x : sy_X} {q : sy_Q} {S : sy_S} {M : px_M} {i : Instr} {len : Nat}
/-- a new number that stands at a place -/
theorem sy_goFa {rg : Int × Int} {pc' k : Nat} {ix : sy_L} {pre r : List sy_A} (hw : sy_wS S = true) (hwi : sy_wl S.1.1.length ix = true) (hM : q.1[S.2.1.1]? = some M) (hst : S.2.1.2.2.2 = pre ++ r)
    (hs : ∀ (ρ : Nat → Int) (τ : Nat → Int64) (w : px_W) (lc : List (Nat × Value)) (cf : List pf_F) (d : Nat), sy_mem q S.1 ρ τ w → d + cf.length = x.2.2.2.2.2.2 → ∃ Z : Int32, rg.1 ≤ Z.toInt ∧ Z.toInt ≤ rg.2 ∧ 0 ≤ sy_e ρ ix ∧ sy_get w k (sy_e ρ ix).toNat = some (.int Z) ∧ px_step x.1 x.2.1 x.2.2.1 d (pf_scr x.2.2.2.1 cf) M S.2.1.2.1 lc (S.2.1.2.2.2.map (sy_v ρ τ)) w = some (.inl (pc', lc, .int Z :: r.map (sy_v ρ τ), w, 0, 0)))
    (hG : sy_Good x q (sy_at S (S.1.1 ++ [rg], S.1.2.1, S.1.2.2.1, (k, ix, .inl (sy_x S.1.1.length)) :: S.1.2.2.2) pc' S.2.1.2.2.1 (.inl (sy_x S.1.1.length) :: r))) : sy_Good x q S := by
  refine sy_open (fun ρ τ w lc cf d hm hl hf hd => ?_) hM
  obtain ⟨Z, h1, h2, h2a, h2b, h3⟩ := hs ρ τ w lc cf d hm hd
  obtain ⟨ρ', e1, e2, ⟨m1, m2, m3, m4, m5, m6⟩, ⟨f1, f2, f3, f4⟩, hf'⟩ := sy_fresh (c := (M, S.2.1.2.1, lc, S.2.1.2.2.2.map (sy_v ρ τ))) hw ⟨hm, ⟨hM, rfl, hl, rfl⟩, hf⟩ h1 h2
  refine pf_next h3 ?_
  have f4' : S.2.1.2.2.2.map (sy_v ρ τ) = S.2.1.2.2.2.map (sy_v ρ' τ) := f4
  rw [hst, List.map_append, List.map_append] at f4'
  have hr := (List.append_inj' f4' (by rw [List.length_map, List.length_map])).2
  have ei := sy_ext_l e1 hwi
  have hm' : sy_mem q (S.1.1 ++ [rg], S.1.2.1, S.1.2.2.1, (k, ix, .inl (sy_x S.1.1.length)) :: S.1.2.2.2) ρ' τ w := by
    refine ⟨m1, m2, m3, fun f hf => ?_, m5, m6⟩
    rcases List.mem_cons.mp hf with rfl | hf
    · show 0 ≤ sy_e ρ' ix ∧ sy_get w k (sy_e ρ' ix).toNat = some (.int (Int32.ofInt (sy_e ρ' (sy_x S.1.1.length))))
      rw [ei, sy_x_e, e2, Int32.ofInt_toInt]
      exact ⟨h2a, h2b⟩
    · exact m4 f hf
  have hu := sy_use hG hM hm' f3 hf' hd
  have e3 : (.inl (sy_x S.1.1.length) :: r : List sy_A).map (sy_v ρ' τ) = .int Z :: r.map (sy_v ρ τ) := by
    show Value.int (Int32.ofInt (sy_e ρ' (sy_x S.1.1.length))) :: r.map (sy_v ρ' τ) = _
    rw [sy_x_e, e2, Int32.ofInt_toInt, hr]
  rw [e3] at hu
  exact hu
theorem sy_cell_i {w : px_W} {k n : Nat} {sg : sy_Sg} (hW : sy_W q.2.1 w) (hA : q.2.1[k]? = some (.inl (n, sg))) : ∃ l : List Int32, w[k]? = some (.inl l) ∧ l.length = n ∧ ∀ (i : Nat) (x : Int32), l[i]? = some x → sy_in (sy_seg sg i) x := by
  obtain ⟨c, h1, h2⟩ := hW.2 k _ hA
  match c, h2 with
  | .inl l, h2 => exact ⟨l, h1, h2.1, h2.2⟩
theorem sy_cell_l {w : px_W} {k n : Nat} (hW : sy_W q.2.1 w) (hA : q.2.1[k]? = some (.inr (.inl n))) : ∃ l : List Int64, w[k]? = some (.inr (.inl l)) ∧ l.length = n := by
  obtain ⟨c, h1, h2⟩ := hW.2 k _ hA
  match c, h2 with
  | .inr (.inl l), h2 => exact ⟨l, h1, h2⟩
theorem sy_cell_o {w : px_W} {k ci : Nat} {sl : List ((Int × Int) ⊕ Nat)} (hW : sy_W q.2.1 w) (hA : q.2.1[k]? = some (.inr (.inr (ci, sl)))) : ∃ o : Nat × List Value, w[k]? = some (.inr (.inr o)) ∧ o.1 = ci ∧ o.2.length = sl.length ∧ (∀ (i : Nat) (r : Int × Int), sl[i]? = some (.inl r) → ∃ x, o.2[i]? = some (.int x) ∧ sy_in r x) ∧ ∀ (i a : Nat), sl[i]? = some (.inr a) → o.2[i]? = some (.ref a) := by
  obtain ⟨c, h1, h2⟩ := hW.2 k _ hA
  match c, h2 with
  | .inr (.inr o), h2 => exact ⟨o, h1, h2⟩
theorem sy_getI {w : px_W} {k : Nat} {l : List Int32} (h : w[k]? = some (.inl l)) (j : Nat) : sy_get w k j = (l[j]?).map Value.int := by
  unfold sy_get
  rw [h]
theorem sy_getO {w : px_W} {k : Nat} {o : Nat × List Value} (h : w[k]? = some (.inr (.inr o))) (j : Nat) : sy_get w k j = o.2[j]? := by
  unfold sy_get
  rw [h]
/-- an int out of an int array, at a place not read before -/
theorem sy_goIald {a n : Nat} {sg : sy_Sg} {ix : sy_L} {b rg : Int × Int} {r : List sy_A} (hw : sy_wS S = true) (hM : q.1[S.2.1.1]? = some M) (hq : px_look M.2.1 S.2.1.2.1 = some (.iaload, 1)) (hst : S.2.1.2.2.2 = .inl ix :: .inr (.inl a) :: r) (ha : 64 ≤ a) (hA : q.2.1[a - 64]? = some (.inl (n, sg))) (hn : n ≤ 2147483647) (hb : sy_b S.1.1 ix = some b) (hb1 : 0 ≤ b.1) (hb2 : b.2 < (n : Int)) (hr : sy_rd S.1.1 sg ix = some rg)
    (hG : sy_Good x q (sy_at S (S.1.1 ++ [rg], S.1.2.1, S.1.2.2.1, (a - 64, sy_nm S.1.1 ix, .inl (sy_x S.1.1.length)) :: S.1.2.2.2) (S.2.1.2.1 + 1) S.2.1.2.2.1 (.inl (sy_x S.1.1.length) :: r))) (hwi : sy_wl S.1.1.length (sy_nm S.1.1 ix) = true) : sy_Good x q S := by
  refine sy_goFa (pre := [.inl ix, .inr (.inl a)]) hw hwi hM hst (fun ρ τ w lc cf d hm _ => ?_) hG
  obtain ⟨l, l1, l2, l3⟩ := sy_cell_i hm.2.2.2.2.1 hA
  obtain ⟨c1, c2⟩ := sy_b_e hm.2.1 hb
  have hz : (sy_e ρ ix).toNat < l.length := by rw [l2]; omega
  obtain ⟨x1, x2⟩ := px_ix_of (z := sy_e ρ ix) (n := l.length) (by omega) (by omega) (by omega)
  have hg : l[(sy_e ρ ix).toNat]? = some l[(sy_e ρ ix).toNat] := List.getElem?_eq_getElem hz
  have hd : l.getD (sy_e ρ ix).toNat 0 = l[(sy_e ρ ix).toNat] := by
    rw [List.getD_eq_getElem?_getD, hg]
    rfl
  obtain ⟨r1, r2⟩ := sy_rd_ok hm.2.1 hr (l3 _ _ hg)
  refine ⟨l[(sy_e ρ ix).toNat], r1, r2, ?_, ?_, ?_⟩
  · rw [sy_nm_e hm.2.1]; omega
  · rw [sy_nm_e hm.2.1, sy_getI l1, hg]
    rfl
  · refine (fun hs : px_s2 x.1 x.2.1 .iaload 1 (pf_scr x.2.2.2.1 cf) M.1.1.name M.1.1.cls M.2.2 (S.2.1.2.2.2.map (sy_v ρ τ)) w = some (.int l[(sy_e ρ ix).toNat] :: r.map (sy_v ρ τ), w, 0, 0) => px_step_2 hq rfl hs) ?_
    rw [hst]
    show (if 1 = 1 then (if a = 0 then _ else if 64 ≤ a then (match w[a - 64]? with
      | some (.inl l) => if px_ix (Int32.ofInt (sy_e ρ ix)) l.length = true then some (.int (l.getD (Int32.ofInt (sy_e ρ ix)).toNatClampNeg 0) :: r.map (sy_v ρ τ), w, 0, 0) else none
      | _ => none) else none) else none) = _
    rw [if_pos rfl, if_neg (by omega), if_pos ha, l1]
    show (if px_ix (Int32.ofInt (sy_e ρ ix)) l.length = true then _ else none) = _
    rw [if_pos x1, x2, hd]
/-- a field of an object that holds an int, not read before -/
theorem sy_goGetI {a idx ci sl0 : Nat} {sl : List ((Int × Int) ⊕ Nat)} {rg : Int × Int} {r : List sy_A} (hw : sy_wS S = true) (hM : q.1[S.2.1.1]? = some M) (hq : px_look M.2.1 S.2.1.2.1 = some (.getfield idx, 3)) (hst : S.2.1.2.2.2 = .inr (.inl a) :: r) (ha : 64 ≤ a) (hA : q.2.1[a - 64]? = some (.inr (.inr (ci, sl)))) (hL : px_look M.2.2.1 idx = some (ci, sl0)) (hr : sl[sl0]? = some (.inl rg))
    (hG : sy_Good x q (sy_at S (S.1.1 ++ [rg], S.1.2.1, S.1.2.2.1, (a - 64, sy_c sl0, .inl (sy_x S.1.1.length)) :: S.1.2.2.2) (S.2.1.2.1 + 3) S.2.1.2.2.1 (.inl (sy_x S.1.1.length) :: r))) : sy_Good x q S := by
  refine sy_goFa (pre := [.inr (.inl a)]) hw rfl hM hst (fun ρ τ w lc cf d hm _ => ?_) hG
  obtain ⟨o, l1, l2, l3, l4, l5⟩ := sy_cell_o hm.2.2.2.2.1 hA
  obtain ⟨Z, z1, z2⟩ := l4 _ _ hr
  refine ⟨Z, z2.1, z2.2, ?_, ?_, ?_⟩
  · rw [sy_c_e]; omega
  · rw [sy_c_e, sy_getO l1]
    exact z1
  · refine (fun hs : px_s2 x.1 x.2.1 (.getfield idx) 3 (pf_scr x.2.2.2.1 cf) M.1.1.name M.1.1.cls M.2.2 (S.2.1.2.2.2.map (sy_v ρ τ)) w = some (.int Z :: r.map (sy_v ρ τ), w, 0, 0) => px_step_2 hq rfl hs) ?_
    rw [hst]
    show (if 3 = 3 ∧ 64 ≤ a then (match px_look M.2.2.1 idx, w[a - 64]? with
      | some q, some (.inr (.inr o)) => if q.1 = o.1 then (o.2[q.2]?).map (fun v => (v :: r.map (sy_v ρ τ), w, 0, 0)) else none
      | _, _ => none) else _) = _
    rw [if_pos ⟨rfl, ha⟩, hL, l1]
    show (if ci = o.1 then (o.2[sl0]?).map _ else none) = _
    rw [if_pos l2.symm, z1]
    rfl
end RD

end
end
section
noncomputable section
/-! STEPS THAT GIVE A KNOWN VALUE -/
section DT
variable {x : sy_X} {q : sy_Q} {S : sy_S} {M : px_M} {i : Instr} {len : Nat}
theorem sy_goD {pc' : Nat} {st' : List sy_A} (hM : q.1[S.2.1.1]? = some M)
    (hs : ∀ (ρ : Nat → Int) (τ : Nat → Int64) (w : px_W) (lc : List (Nat × Value)) (cf : List pf_F) (d : Nat), sy_mem q S.1 ρ τ w → d + cf.length = x.2.2.2.2.2.2 → px_step x.1 x.2.1 x.2.2.1 d (pf_scr x.2.2.2.1 cf) M S.2.1.2.1 lc (S.2.1.2.2.2.map (sy_v ρ τ)) w = some (.inl (pc', lc, st'.map (sy_v ρ τ), w, 0, 0)))
    (hG : sy_Good x q (sy_at S S.1 pc' S.2.1.2.2.1 st')) : sy_Good x q S := by
  refine sy_open (fun ρ τ w lc cf d hm hl hf hd => ?_) hM
  exact pf_next (hs ρ τ w lc cf d hm hd) (sy_use hG hM hm hl hf hd)
/-- an int out of an int array, at a place known -/
theorem sy_goIaldK {a n : Nat} {sg : sy_Sg} {ix e : sy_L} {r : List sy_A} (hM : q.1[S.2.1.1]? = some M) (hq : px_look M.2.1 S.2.1.2.1 = some (.iaload, 1)) (hst : S.2.1.2.2.2 = .inl ix :: .inr (.inl a) :: r) (ha : 64 ≤ a) (hA : q.2.1[a - 64]? = some (.inl (n, sg))) (hn : n ≤ 2147483647) (hf : (a - 64, sy_nm S.1.1 ix, .inl e) ∈ S.1.2.2.2)
    (hG : sy_Good x q (sy_at S S.1 (S.2.1.2.1 + 1) S.2.1.2.2.1 (.inl e :: r))) : sy_Good x q S := by
  refine sy_goD hM (fun ρ τ w lc cf d hm _ => ?_) hG
  obtain ⟨l, l1, l2, l3⟩ := sy_cell_i hm.2.2.2.2.1 hA
  have hf2 := hm.2.2.2.1 _ hf
  dsimp only at hf2
  rw [sy_nm_e hm.2.1, sy_getI l1] at hf2
  obtain ⟨v, hv, hve⟩ := Option.map_eq_some_iff.mp hf2.2
  have hz : (sy_e ρ ix).toNat < l.length := (List.getElem?_eq_some_iff.mp hv).1
  obtain ⟨x1, x2⟩ := px_ix_of (z := sy_e ρ ix) (n := l.length) hf2.1 (by omega) (by omega)
  have hd : l.getD (sy_e ρ ix).toNat 0 = v := by
    rw [List.getD_eq_getElem?_getD, hv]
    rfl
  refine (fun hs : px_s2 x.1 x.2.1 .iaload 1 (pf_scr x.2.2.2.1 cf) M.1.1.name M.1.1.cls M.2.2 (S.2.1.2.2.2.map (sy_v ρ τ)) w = some ((.inl e :: r : List sy_A).map (sy_v ρ τ), w, 0, 0) => px_step_2 hq rfl hs) ?_
  rw [hst]
  show (if 1 = 1 then (if a = 0 then _ else if 64 ≤ a then (match w[a - 64]? with
      | some (.inl l) => if px_ix (Int32.ofInt (sy_e ρ ix)) l.length = true then some (.int (l.getD (Int32.ofInt (sy_e ρ ix)).toNatClampNeg 0) :: r.map (sy_v ρ τ), w, 0, 0) else none
      | _ => none) else none) else none) = _
  rw [if_pos rfl, if_neg (by omega), if_pos ha, l1]
  show (if px_ix (Int32.ofInt (sy_e ρ ix)) l.length = true then _ else none) = some (sy_v ρ τ (.inl e) :: r.map (sy_v ρ τ), w, 0, 0)
  rw [if_pos x1, x2, hd, ← hve]
/-- a field known, or a reference -/
theorem sy_goGetK {a idx ci sl0 : Nat} {sl : List ((Int × Int) ⊕ Nat)} {v : sy_A} {r : List sy_A} (hM : q.1[S.2.1.1]? = some M) (hq : px_look M.2.1 S.2.1.2.1 = some (.getfield idx, 3)) (hst : S.2.1.2.2.2 = .inr (.inl a) :: r) (ha : 64 ≤ a) (hA : q.2.1[a - 64]? = some (.inr (.inr (ci, sl)))) (hL : px_look M.2.2.1 idx = some (ci, sl0)) (hv : (a - 64, sy_c sl0, v) ∈ S.1.2.2.2 ∨ ∃ b, v = .inr (.inl b) ∧ sl[sl0]? = some (.inr b))
    (hG : sy_Good x q (sy_at S S.1 (S.2.1.2.1 + 3) S.2.1.2.2.1 (v :: r))) : sy_Good x q S := by
  refine sy_goD hM (fun ρ τ w lc cf d hm _ => ?_) hG
  obtain ⟨o, l1, l2, l3, l4, l5⟩ := sy_cell_o hm.2.2.2.2.1 hA
  have hz : o.2[sl0]? = some (sy_v ρ τ v) := by
    rcases hv with hv | ⟨b, rfl, hb⟩
    · have hf2 := (hm.2.2.2.1 _ hv).2
      dsimp only at hf2
      rw [sy_c_e, sy_getO l1] at hf2
      exact hf2
    · exact l5 _ _ hb
  refine (fun hs : px_s2 x.1 x.2.1 (.getfield idx) 3 (pf_scr x.2.2.2.1 cf) M.1.1.name M.1.1.cls M.2.2 (S.2.1.2.2.2.map (sy_v ρ τ)) w = some ((v :: r).map (sy_v ρ τ), w, 0, 0) => px_step_2 hq rfl hs) ?_
  rw [hst]
  show (if 3 = 3 ∧ 64 ≤ a then (match px_look M.2.2.1 idx, w[a - 64]? with
      | some q, some (.inr (.inr o)) => if q.1 = o.1 then (o.2[q.2]?).map (fun v => (v :: r.map (sy_v ρ τ), w, 0, 0)) else none
      | _, _ => none) else _) = _
  rw [if_pos ⟨rfl, ha⟩, hL, l1]
  show (if ci = o.1 then (o.2[sl0]?).map _ else none) = _
  rw [if_pos l2.symm, hz]
  rfl
/-- constants of the pool, statics, texts, lengths -/
def sy_k (lt : List (List Int32)) (A : List sy_Ce) (i : Instr) (len : Nat) (L : px_L) (st : List sy_A) : Option (List sy_A) := match i, st with
  | .ldc k, r => if len = 2 then px_or ((px_look L.2.2.2.1 k).map (fun v => .inl (sy_c v.toInt) :: r)) ((px_look L.2.2.2.2.2.1 k).map (fun j => .inr (.inl (1 + j)) :: r)) else none
  | .ldc_w k, r => if len = 3 then (px_look L.2.2.2.1 k).map (fun v => .inl (sy_c v.toInt) :: r) else none
  | .getstatic k, r => if len = 3 then (px_look L.2.2.2.2.2.2.1 k).bind (fun j => if j = 0 then some (.inl (sy_c 1) :: r) else if j = 1 then some (.inr (.inl 33) :: r) else none) else none
  | .getfield k, .inr (.inl a) :: r => if len = 3 ∧ ¬ 64 ≤ a ∧ 1 ≤ a ∧ a ≤ 16 then (px_look L.2.2.2.2.2.2.2 k).bind (fun j => if j = 0 then some (.inr (.inl (a + 16)) :: r) else if j = 1 then some (.inl (sy_c 0) :: r) else none) else none
  | .arraylength, .inr (.inl a) :: r => if len = 1 ∧ ¬ a = 0 then (if 64 ≤ a then (match A[a - 64]? with
      | some (.inl z) => if z.1 ≤ 2147483647 then some (.inl (sy_c z.1) :: r) else none
      | _ => none) else if 17 ≤ a ∧ a ≤ 32 ∧ (lt.map List.length).getD (a - 17) 0 ≤ 2147483647 then some (.inl (sy_c ((lt.map List.length).getD (a - 17) 0 : Nat)) :: r) else none) else none
  | _, _ => none
theorem sy_ofN {n : Nat} {ρ : Nat → Int} : Value.int (Int32.ofNat n) = Value.int (Int32.ofInt (sy_e ρ (sy_c (n : Int)))) := by
  rw [sy_c_e]
  rfl
theorem sy_k_ok {ρ : Nat → Int} {τ : Nat → Int64} {w : px_W} {cl : List vw_C} {lt : List (List Int32)} {scr : Option (List Int32)} {nm own : String} {L : px_L} {st z : List sy_A} (hW : sy_W q.2.1 w) (hz : sy_k lt q.2.1 i len L st = some z) : px_so1 i = 0 ∧ px_s2 cl lt i len scr nm own L (st.map (sy_v ρ τ)) w = some (z.map (sy_v ρ τ), w, 0, 0) := by
  unfold sy_k at hz
  split at hz
  · rename_i k
    split at hz
    · rename_i hc
      subst hc
      refine ⟨rfl, ?_⟩
      show (if 2 = 2 then px_or ((px_look L.2.2.2.1 k).map (fun v => (Value.int v :: st.map (sy_v ρ τ), w, 0, 0))) ((px_look L.2.2.2.2.2.1 k).map (fun j => (Value.ref (1 + j) :: st.map (sy_v ρ τ), w, 0, 0))) else none) = _
      rw [if_pos rfl]
      cases h1 : px_look L.2.2.2.1 k with
      | some v =>
        rw [h1] at hz
        cases hz
        show some (Value.int v :: st.map (sy_v ρ τ), w, 0, 0) = some (Value.int (Int32.ofInt (sy_e ρ (sy_c v.toInt))) :: st.map (sy_v ρ τ), w, 0, 0)
        rw [sy_c_e, Int32.ofInt_toInt]
      | none =>
        rw [h1] at hz
        cases h2 : px_look L.2.2.2.2.2.1 k with
        | none => rw [h2] at hz; cases hz
        | some j =>
          rw [h2] at hz
          cases hz
          rfl
    · cases hz
  · rename_i k
    split at hz
    · rename_i hc
      subst hc
      refine ⟨rfl, ?_⟩
      obtain ⟨v, h1, rfl⟩ := Option.map_eq_some_iff.mp hz
      show (if 3 = 3 then (px_look L.2.2.2.1 k).map (fun v => (Value.int v :: st.map (sy_v ρ τ), w, 0, 0)) else none) = _
      rw [if_pos rfl, h1]
      show some (Value.int v :: st.map (sy_v ρ τ), w, 0, 0) = some (Value.int (Int32.ofInt (sy_e ρ (sy_c v.toInt))) :: st.map (sy_v ρ τ), w, 0, 0)
      rw [sy_c_e, Int32.ofInt_toInt]
    · cases hz
  · rename_i k
    split at hz
    · rename_i hc
      subst hc
      refine ⟨rfl, ?_⟩
      obtain ⟨j, h1, h2⟩ := Option.bind_eq_some_iff.mp hz
      show (if 3 = 3 then (px_look L.2.2.2.2.2.2.1 k).bind (fun k => if k = 0 then some (Value.int 1 :: st.map (sy_v ρ τ), w, 0, 0) else if k = 1 then some (Value.ref 33 :: st.map (sy_v ρ τ), w, 0, 0) else none) else none) = _
      rw [if_pos rfl, h1]
      show (if j = 0 then some (Value.int 1 :: st.map (sy_v ρ τ), w, 0, 0) else if j = 1 then some (Value.ref 33 :: st.map (sy_v ρ τ), w, 0, 0) else none) = _
      split at h2
      · rename_i hj
        cases h2
        rw [if_pos hj]
        show some (Value.int 1 :: st.map (sy_v ρ τ), w, 0, 0) = some (Value.int (Int32.ofInt (sy_e ρ (sy_c 1))) :: st.map (sy_v ρ τ), w, 0, 0)
        rw [sy_c_e]
        rfl
      · split at h2
        · rename_i hj0 hj
          cases h2
          rw [if_neg hj0, if_pos hj]
          rfl
        · cases h2
    · cases hz
  · rename_i k a r
    split at hz
    · rename_i hc
      refine ⟨rfl, ?_⟩
      obtain ⟨j, h1, h2⟩ := Option.bind_eq_some_iff.mp hz
      show (if len = 3 ∧ 64 ≤ a then _ else if len = 3 ∧ 1 ≤ a ∧ a ≤ 16 then (px_look L.2.2.2.2.2.2.2 k).bind (fun k => if k = 0 then some (Value.ref (a + 16) :: r.map (sy_v ρ τ), w, 0, 0) else if k = 1 then some (Value.int 0 :: r.map (sy_v ρ τ), w, 0, 0) else none) else none) = _
      rw [if_neg (fun z => hc.2.1 z.2), if_pos ⟨hc.1, hc.2.2⟩, h1]
      show (if j = 0 then some (Value.ref (a + 16) :: r.map (sy_v ρ τ), w, 0, 0) else if j = 1 then some (Value.int 0 :: r.map (sy_v ρ τ), w, 0, 0) else none) = _
      split at h2
      · rename_i hj
        cases h2
        rw [if_pos hj]
        rfl
      · split at h2
        · rename_i hj0 hj
          cases h2
          rw [if_neg hj0, if_pos hj]
          show some (Value.int 0 :: r.map (sy_v ρ τ), w, 0, 0) = some (Value.int (Int32.ofInt (sy_e ρ (sy_c 0))) :: r.map (sy_v ρ τ), w, 0, 0)
          rw [sy_c_e]
          rfl
        · cases h2
    · cases hz
  · rename_i a r
    split at hz
    · rename_i hc
      refine ⟨rfl, ?_⟩
      show (if len = 1 then (if a = 0 then _ else if 64 ≤ a then (match w[a - 64]? with
        | some (.inl l) => some (Value.int (Int32.ofNat l.length) :: r.map (sy_v ρ τ), w, 0, 0)
        | _ => none) else if 17 ≤ a ∧ a ≤ 32 then some (Value.int (Int32.ofNat ((lt.map List.length).getD (a - 17) 0)) :: r.map (sy_v ρ τ), w, 0, 0) else none) else none) = _
      rw [if_pos hc.1, if_neg hc.2]
      split at hz
      · rename_i h64
        rw [if_pos h64]
        split at hz
        · rename_i zz hA
          split at hz
          · cases hz
            obtain ⟨n, sg⟩ := zz
            obtain ⟨l, l1, l2, l3⟩ := sy_cell_i hW hA
            rw [l1]
            show some (Value.int (Int32.ofNat l.length) :: r.map (sy_v ρ τ), w, 0, 0) = some (Value.int (Int32.ofInt (sy_e ρ (sy_c (n : Int)))) :: r.map (sy_v ρ τ), w, 0, 0)
            rw [l2, ← sy_ofN]
          · cases hz
        · cases hz
      · rename_i h64
        rw [if_neg h64]
        split at hz
        · rename_i h17
          cases hz
          rw [if_pos ⟨h17.1, h17.2.1⟩]
          show _ = some (Value.int (Int32.ofInt (sy_e ρ (sy_c _))) :: r.map (sy_v ρ τ), w, 0, 0)
          rw [← sy_ofN]
        · cases hz
    · cases hz
  · cases hz
theorem sy_goK {z : List sy_A} (hM : q.1[S.2.1.1]? = some M) (hq : px_look M.2.1 S.2.1.2.1 = some (i, len)) (hz : sy_k x.2.1 q.2.1 i len M.2.2 S.2.1.2.2.2 = some z) (hG : sy_Good x q (sy_at S S.1 (S.2.1.2.1 + len) S.2.1.2.2.1 z)) : sy_Good x q S := by
  refine sy_goD hM (fun ρ τ w lc cf d hm _ => ?_) hG
  obtain ⟨h0, h1⟩ := sy_k_ok (ρ := ρ) (τ := τ) (cl := x.1) (scr := pf_scr x.2.2.2.1 cf) (nm := M.1.1.name) (own := M.1.1.cls) hm.2.2.2.2.1 hz
  exact px_step_2 hq h0 h1
end DT

end
end
section
noncomputable section
/-! WRITING CELLS -/
theorem sy_get_set {w : px_W} {k : Nat} {c c' : px_E} (hk : w[k]? = some c) (k' : Nat) (i' : Nat) : sy_get (w.set k c') k' i' = if k' = k then sy_get [c'] 0 i' else sy_get w k' i' := by
  have hl := (List.getElem?_eq_some_iff.mp hk).1
  unfold sy_get
  by_cases h : k' = k
  · subst h
    rw [List.getElem?_set_self hl, if_pos rfl]
    match c' with
    | .inl _ => rfl
    | .inr (.inl _) => rfl
    | .inr (.inr _) => rfl
  · rw [List.getElem?_set_ne (Ne.symm h), if_neg h]
theorem sy_get_same {w : px_W} {k : Nat} {c : px_E} (hk : w[k]? = some c) (i : Nat) : sy_get [c] 0 i = sy_get w k i := by
  unfold sy_get
  rw [hk]
  match c with
  | .inl _ => rfl
  | .inr (.inl _) => rfl
  | .inr (.inr _) => rfl
theorem sy_W_set {A : List sy_Ce} {w : px_W} {k : Nat} {a : sy_Ce} {c' : px_E} (hW : sy_W A w) (hA : A[k]? = some a) (hc : sy_ce a c') : sy_W A (w.set k c') := by
  obtain ⟨c, hk, -⟩ := hW.2 k a hA
  have hl := (List.getElem?_eq_some_iff.mp hk).1
  refine ⟨by rw [List.length_set]; exact hW.1, fun j b hb => ?_⟩
  by_cases h : k = j
  · subst h
    rw [hA] at hb
    cases hb
    exact ⟨c', List.getElem?_set_self hl, hc⟩
  · rw [List.getElem?_set_ne h]
    exact hW.2 j b hb
/-- what stays known behind a write -/
def sy_spf (k : Nat) : Bool := k == 139 || (k == 152 || (k == 153 || (47 ≤ k && k ≤ 49)))
def sy_drop (R : sy_T) (cs : List sy_L) (k : Nat) (ix : sy_L) (F : List sy_Fa) : List sy_Fa := F.filter (fun f => !(f.1 == k) || ((match sy_b R (sy_sub f.2.1 ix) with
  | some p => decide (0 < p.1) || decide (p.2 < 0)
  | none => false) || (sy_spf k && (!cs.isEmpty && (sy_pos R cs (sy_add (sy_sub f.2.1 ix) (sy_c (-1))) || sy_pos R cs (sy_add (sy_sub ix f.2.1) (sy_c (-1))))))))
theorem sy_drop_ok {ρ : Nat → Int} {τ : Nat → Int64} {R : sy_T} (h : sy_ok ρ R) {cs : List sy_L} (hc : sy_cok ρ cs) {k : Nat} {ix : sy_L} {F : List sy_Fa} {w w' : px_W} (hF : sy_fok ρ τ w F) (h0 : 0 ≤ sy_e ρ ix) (hg : ∀ k' i' : Nat, ¬ (k' = k ∧ i' = (sy_e ρ ix).toNat) → sy_get w' k' i' = sy_get w k' i') : sy_fok ρ τ w' (sy_drop R cs k ix F) := by
  intro f hf
  obtain ⟨h1, h2⟩ := List.mem_filter.mp hf
  obtain ⟨h3, h4⟩ := hF f h1
  refine ⟨h3, ?_⟩
  rw [hg, h4]
  rintro ⟨e1, e2⟩
  rw [e1] at h2
  simp only [beq_self_eq_true, Bool.not_true, Bool.false_or] at h2
  rw [Bool.or_eq_true] at h2
  rcases h2 with h2 | h2
  · split at h2
    · rename_i p hp
      have := sy_b_e h hp
      rw [sy_sub_e] at this
      rw [Bool.or_eq_true, decide_eq_true_eq, decide_eq_true_eq] at h2
      omega
    · cases h2
  · simp only [Bool.and_eq_true, Bool.or_eq_true] at h2
    rcases h2.2.2 with h2 | h2
    · have := sy_pos_e h hc h2
      rw [sy_add_e, sy_sub_e, sy_c_e] at this
      omega
    · have := sy_pos_e h hc h2
      rw [sy_add_e, sy_sub_e, sy_c_e] at this
      omega
def sy_vb (R : sy_T) (e : sy_L) : Int × Int := match sy_b R e with
  | some p => if sy_fit p = true then p else sy_full
  | none => sy_full
theorem sy_vb_ok {ρ : Nat → Int} {R : sy_T} (h : sy_ok ρ R) (e : sy_L) : (sy_vb R e).1 ≤ (Int32.ofInt (sy_e ρ e)).toInt ∧ (Int32.ofInt (sy_e ρ e)).toInt ≤ (sy_vb R e).2 := by
  unfold sy_vb
  split
  · rename_i p hp
    obtain ⟨h1, h2⟩ := sy_b_e h hp
    split
    · rename_i hf
      rw [sy_fit_e hf h1 h2]
      exact ⟨h1, h2⟩
    · exact sy_full_in _
  · exact sy_full_in _
def sy_al (sg : sy_Sg) (v : Int × Int) (s c : Int) : Nat → Bool
  | 0 => decide ((sy_seg sg s.toNat).1 ≤ v.1) && decide (v.2 ≤ (sy_seg sg s.toNat).2)
  | n + 1 => (decide ((sy_seg sg (s + c * ((n + 1 : Nat) : Int)).toNat).1 ≤ v.1) && decide (v.2 ≤ (sy_seg sg (s + c * ((n + 1 : Nat) : Int)).toNat).2)) && sy_al sg v s c n
theorem sy_al_ok {sg : sy_Sg} {v : Int × Int} {s c : Int} : ∀ n : Nat, sy_al sg v s c n = true → ∀ k : Nat, k ≤ n → (sy_seg sg (s + c * (k : Int)).toNat).1 ≤ v.1 ∧ v.2 ≤ (sy_seg sg (s + c * (k : Int)).toNat).2
  | 0, h, k, hk => by
    have hk0 : k = 0 := by omega
    subst hk0
    simp only [sy_al, Bool.and_eq_true, decide_eq_true_eq] at h
    rw [show s + c * ((0 : Nat) : Int) = s by simp]
    exact h
  | n + 1, h, k, hk => by
    unfold sy_al at h
    simp only [Bool.and_eq_true, decide_eq_true_eq] at h
    rcases Nat.lt_or_ge n k with h2 | h2
    · have hk1 : k = n + 1 := by omega
      subst hk1
      exact h.1
    · exact sy_al_ok n h.2 k h2
def sy_wr (R : sy_T) (sg : sy_Sg) (e : sy_L) (v : Int × Int) : Bool := match sg with
  | [] => true
  | _ => match sy_pr R e with
    | some z => decide (z.2.2 ≤ 3000) && sy_al sg v z.1 z.2.1 z.2.2
    | none => false
theorem sy_wr_ok {ρ : Nat → Int} {R : sy_T} (h : sy_ok ρ R) {sg : sy_Sg} {e : sy_L} {v : Int × Int} (hr : sy_wr R sg e v = true) {z : Int32} (hz : v.1 ≤ z.toInt ∧ z.toInt ≤ v.2) : sy_in (sy_seg sg (sy_e ρ e).toNat) z := by
  unfold sy_wr at hr
  split at hr
  · exact sy_full_in z
  · split at hr
    · rename_i p hp
      rw [Bool.and_eq_true] at hr
      obtain ⟨k, hk, he⟩ := sy_pr_ok h hp
      have := sy_al_ok _ hr.2 k hk
      rw [← he] at this
      exact ⟨Int.le_trans this.1 hz.1, Int.le_trans hz.2 this.2⟩
    · cases hr
def sy_mayI (Wr : sy_Wr) (k : Nat) (b : Int × Int) : Bool := Wr.any (fun q => decide (q.1 = k) && (decide ((q.2.1 : Int) ≤ b.1) && decide (b.2 < (q.2.2 : Int))))
theorem sy_mayI_ok {Wr : sy_Wr} {k : Nat} {b : Int × Int} (h : sy_mayI Wr k b = true) {z : Int} (h0 : 0 ≤ z) (h1 : b.1 ≤ z) (h2 : z ≤ b.2) : sy_may Wr k z.toNat = true := by
  obtain ⟨q, hq, h3⟩ := List.any_eq_true.mp h
  simp only [Bool.and_eq_true, decide_eq_true_eq] at h3
  refine List.any_eq_true.mpr ⟨q, hq, ?_⟩
  simp only [Bool.and_eq_true, decide_eq_true_eq]
  omega
theorem sy_fr_set {Wr : sy_Wr} {w0 w w' : px_W} {k j : Nat} {a b : Int} (h : sy_fr Wr w0 w) (hm : sy_may Wr k j = true) (hw : sy_jw Wr k a b = true) (ha : a ≤ (j : Int)) (hb : (j : Int) ≤ b) (hg : ∀ k' i' : Nat, ¬ (k' = k ∧ i' = j) → sy_get w' k' i' = sy_get w k' i') : sy_fr Wr w0 w' := by
  refine ⟨fun k' i' hf => ?_, sy_jw_ok h.2 hw ha hb hg⟩
  rw [hg k' i' (fun e => by rw [e.1, e.2] at hf; rw [hf] at hm; cases hm)]
  exact h.1 k' i' hf
section WR
variable {x : sy_X} {q : sy_Q} {S : sy_S} {M : px_M}
theorem sy_goIast {a n : Nat} {sg : sy_Sg} {ix e : sy_L} {b : Int × Int} {r : List sy_A} (hM : q.1[S.2.1.1]? = some M) (hq : px_look M.2.1 S.2.1.2.1 = some (.iastore, 1)) (hst : S.2.1.2.2.2 = .inl e :: .inl ix :: .inr (.inl a) :: r) (ha : 64 ≤ a) (hA : q.2.1[a - 64]? = some (.inl (n, sg))) (hn : n ≤ 2147483647) (hb : sy_b S.1.1 ix = some b) (hb1 : 0 ≤ b.1) (hb2 : b.2 < (n : Int)) (hv : ∀ (ρ : Nat → Int) (τ : Nat → Int64) (w : px_W), sy_mem q S.1 ρ τ w → sy_in (sy_seg sg (sy_e ρ ix).toNat) (Int32.ofInt (sy_e ρ e))) (hmay : sy_mayI q.2.2.1 (a - 64) b = true) (hjw : sy_jw q.2.2.1 (a - 64) b.1 b.2 = true)
    (hG : sy_Good x q (sy_at S (S.1.1, S.1.2.1, S.1.2.2.1, (a - 64, sy_nm S.1.1 ix, .inl e) :: sy_drop S.1.1 S.1.2.2.1 (a - 64) ix S.1.2.2.2) (S.2.1.2.1 + 1) S.2.1.2.2.1 r)) : sy_Good x q S := by
  refine sy_open (fun ρ τ w lc cf d hm hl hf hd => ?_) hM
  obtain ⟨m1, m2, m3, m4, m5, m6⟩ := id hm
  obtain ⟨l, l1, l2, l3⟩ := sy_cell_i m5 hA
  obtain ⟨c1, c2⟩ := sy_b_e m2 hb
  have hz : (sy_e ρ ix).toNat < l.length := by rw [l2]; omega
  obtain ⟨x1, x2⟩ := px_ix_of (z := sy_e ρ ix) (n := l.length) (by omega) (by omega) (by omega)
  have hg : ∀ k' i' : Nat, ¬ (k' = a - 64 ∧ i' = (sy_e ρ ix).toNat) → sy_get (w.set (a - 64) (.inl (l.set (sy_e ρ ix).toNat (Int32.ofInt (sy_e ρ e))))) k' i' = sy_get w k' i' := by
    intro k' i' hne
    rw [sy_get_set l1]
    split
    · rename_i hk
      subst hk
      have hi : (sy_e ρ ix).toNat ≠ i' := fun z => hne ⟨rfl, z.symm⟩
      rw [sy_getI l1]
      show ((l.set _ _)[i']?).map Value.int = _
      rw [List.getElem?_set_ne hi]
    · rfl
  have hm' : sy_mem q (S.1.1, S.1.2.1, S.1.2.2.1, (a - 64, sy_nm S.1.1 ix, .inl e) :: sy_drop S.1.1 S.1.2.2.1 (a - 64) ix S.1.2.2.2) ρ τ (w.set (a - 64) (.inl (l.set (sy_e ρ ix).toNat (Int32.ofInt (sy_e ρ e))))) := by
    refine ⟨m1, m2, m3, fun f hf => ?_, sy_W_set m5 hA ?_, sy_fr_set m6 (sy_mayI_ok hmay (by omega) c1 c2) hjw (by omega) (by omega) hg⟩
    · rcases List.mem_cons.mp hf with rfl | hf
      · show 0 ≤ sy_e ρ (sy_nm S.1.1 ix) ∧ sy_get _ (a - 64) (sy_e ρ (sy_nm S.1.1 ix)).toNat = some (.int (Int32.ofInt (sy_e ρ e)))
        rw [sy_nm_e m2, sy_get_set l1, if_pos rfl]
        refine ⟨by omega, ?_⟩
        show ((l.set _ _)[(sy_e ρ ix).toNat]?).map Value.int = _
        rw [List.getElem?_set_self hz]
        rfl
      · exact sy_drop_ok m2 m3 m4 (by omega) hg f hf
    · refine ⟨by rw [List.length_set]; exact l2, fun i v hv2 => ?_⟩
      by_cases hi : (sy_e ρ ix).toNat = i
      · subst hi
        rw [List.getElem?_set_self hz] at hv2
        cases hv2
        exact hv ρ τ w hm
      · rw [List.getElem?_set_ne hi] at hv2
        exact l3 i v hv2
  refine (fun hs : px_s2 x.1 x.2.1 .iastore 1 (pf_scr x.2.2.2.1 cf) M.1.1.name M.1.1.cls M.2.2 (S.2.1.2.2.2.map (sy_v ρ τ)) w = some (r.map (sy_v ρ τ), w.set (a - 64) (.inl (l.set (sy_e ρ ix).toNat (Int32.ofInt (sy_e ρ e)))), 0, 0) => pf_next (px_step_2 hq rfl hs) (sy_use hG hM hm' hl hf hd)) ?_
  rw [hst]
  show (if 1 = 1 ∧ 64 ≤ a then (match w[a - 64]? with
      | some (.inl l) => if px_ix (Int32.ofInt (sy_e ρ ix)) l.length = true then some (r.map (sy_v ρ τ), w.set (a - 64) (.inl (l.set (Int32.ofInt (sy_e ρ ix)).toNatClampNeg (Int32.ofInt (sy_e ρ e)))), 0, 0) else none
      | _ => none) else none) = _
  rw [if_pos ⟨rfl, ha⟩, l1]
  show (if px_ix (Int32.ofInt (sy_e ρ ix)) l.length = true then _ else none) = _
  rw [if_pos x1, x2]
/-- may an int of this range stand in a field of this type -/
def sy_ft (t : FieldType) (v : Int × Int) : Bool := match t with
  | .int => true
  | .boolean => decide (0 ≤ v.1) && decide (v.2 ≤ 1)
  | _ => false
theorem sy_ft_ok {t : FieldType} {v : Int × Int} (h : sy_ft t v = true) {z : Int32} (hz : v.1 ≤ z.toInt ∧ z.toInt ≤ v.2) : px_fit t (.int z) = true := by
  unfold sy_ft at h
  split at h
  · show (decide (narrow .int (.int z) = .int z) && fits .int (.int z)) = true
    rw [Bool.and_eq_true]
    exact ⟨decide_eq_true rfl, rfl⟩
  · simp only [Bool.and_eq_true, decide_eq_true_eq] at h
    have h2 : z = 0 ∨ z = 1 := by
      rcases (show z.toInt = 0 ∨ z.toInt = 1 by omega) with h3 | h3
      · exact Or.inl (Int32.toInt_inj.mp h3)
      · exact Or.inr (Int32.toInt_inj.mp h3)
    rcases h2 with rfl | rfl <;> decide
  · cases h
theorem sy_goPut {a idx ci sl0 : Nat} {sl : List ((Int × Int) ⊕ Nat)} {rg : Int × Int} {e : sy_L} {k : vw_C} {r : List sy_A} (hM : q.1[S.2.1.1]? = some M) (hq : px_look M.2.1 S.2.1.2.1 = some (.putfield idx, 3)) (hst : S.2.1.2.2.2 = .inl e :: .inr (.inl a) :: r) (ha : 64 ≤ a) (hA : q.2.1[a - 64]? = some (.inr (.inr (ci, sl)))) (hL : px_look M.2.2.1 idx = some (ci, sl0)) (hk : x.1[ci]? = some k) (hft : sy_ft (px_ty k.2.1 sl0) (sy_vb S.1.1 e) = true) (hfin : (k.2.1 sl0).2.2.2 = false) (hr : sl[sl0]? = some (.inl rg)) (hv1 : rg.1 ≤ (sy_vb S.1.1 e).1) (hv2 : (sy_vb S.1.1 e).2 ≤ rg.2) (hmay : sy_may q.2.2.1 (a - 64) sl0 = true) (hjw : sy_jw q.2.2.1 (a - 64) sl0 sl0 = true)
    (hG : sy_Good x q (sy_at S (S.1.1, S.1.2.1, S.1.2.2.1, (a - 64, sy_c sl0, .inl e) :: sy_drop S.1.1 S.1.2.2.1 (a - 64) (sy_c sl0) S.1.2.2.2) (S.2.1.2.1 + 3) S.2.1.2.2.1 r)) : sy_Good x q S := by
  refine sy_open (fun ρ τ w lc cf d hm hl hf hd => ?_) hM
  obtain ⟨m1, m2, m3, m4, m5, m6⟩ := id hm
  obtain ⟨o, l1, l2, l3, l4, l5⟩ := sy_cell_o m5 hA
  have hvb := sy_vb_ok m2 e
  have hz : sl0 < o.2.length := by
    rw [l3]
    exact (List.getElem?_eq_some_iff.mp hr).1
  have ec : (sy_e ρ (sy_c (sl0 : Int))).toNat = sl0 := by rw [sy_c_e]; omega
  have hg : ∀ k' i' : Nat, ¬ (k' = a - 64 ∧ i' = sl0) → sy_get (w.set (a - 64) (.inr (.inr (o.1, o.2.set sl0 (.int (Int32.ofInt (sy_e ρ e))))))) k' i' = sy_get w k' i' := by
    intro k' i' hne
    rw [sy_get_set l1]
    split
    · rename_i hk
      subst hk
      have hi : sl0 ≠ i' := fun z => hne ⟨rfl, z.symm⟩
      rw [sy_getO l1]
      show (o.2.set _ _)[i']? = _
      rw [List.getElem?_set_ne hi]
    · rfl
  have hm' : sy_mem q (S.1.1, S.1.2.1, S.1.2.2.1, (a - 64, sy_c sl0, .inl e) :: sy_drop S.1.1 S.1.2.2.1 (a - 64) (sy_c sl0) S.1.2.2.2) ρ τ (w.set (a - 64) (.inr (.inr (o.1, o.2.set sl0 (.int (Int32.ofInt (sy_e ρ e))))))) := by
    refine ⟨m1, m2, m3, fun f hf => ?_, sy_W_set m5 hA ?_, sy_fr_set m6 hmay hjw (Int.le_refl _) (Int.le_refl _) hg⟩
    · rcases List.mem_cons.mp hf with rfl | hf
      · show 0 ≤ sy_e ρ (sy_c (sl0 : Int)) ∧ sy_get _ (a - 64) (sy_e ρ (sy_c (sl0 : Int))).toNat = some (.int (Int32.ofInt (sy_e ρ e)))
        rw [ec, sy_get_set l1, if_pos rfl]
        refine ⟨by rw [sy_c_e]; omega, ?_⟩
        show (o.2.set _ _)[sl0]? = _
        rw [List.getElem?_set_self hz]
      · exact sy_drop_ok m2 m3 m4 (by rw [sy_c_e]; omega) (fun k' i' h => hg k' i' (fun z => h (by rw [ec]; exact z))) f hf
    · refine ⟨l2, by rw [List.length_set]; exact l3, fun i v hv => ?_, fun i v hv => ?_⟩
      · by_cases hi : sl0 = i
        · subst hi
          rw [hr] at hv
          cases hv
          exact ⟨_, List.getElem?_set_self hz, Int.le_trans hv1 hvb.1, Int.le_trans hvb.2 hv2⟩
        · rw [List.getElem?_set_ne hi]
          exact l4 i v hv
      · by_cases hi : sl0 = i
        · subst hi
          rw [hr] at hv
          cases hv
        · rw [List.getElem?_set_ne hi]
          exact l5 i v hv
  refine (fun hs : px_s2 x.1 x.2.1 (.putfield idx) 3 (pf_scr x.2.2.2.1 cf) M.1.1.name M.1.1.cls M.2.2 (S.2.1.2.2.2.map (sy_v ρ τ)) w = some (r.map (sy_v ρ τ), w.set (a - 64) (.inr (.inr (o.1, o.2.set sl0 (.int (Int32.ofInt (sy_e ρ e)))))), 0, 0) => pf_next (px_step_2 hq rfl hs) (sy_use hG hM hm' hl hf hd)) ?_
  rw [hst]
  show (if 3 = 3 ∧ 64 ≤ a then (match px_look M.2.2.1 idx, w[a - 64]? with
    | some q, some (.inr (.inr o)) => (match x.1[q.1]? with
      | some k => if q.1 = o.1 ∧ q.2 < o.2.length ∧ px_fit (px_ty k.2.1 q.2) (.int (Int32.ofInt (sy_e ρ e))) = true ∧ ((k.2.1 q.2).2.2.2 = true → M.1.1.name = "<init>" ∧ (k.2.1 q.2).1 = M.1.1.cls) then some (r.map (sy_v ρ τ), w.set (a - 64) (.inr (.inr (o.1, o.2.set q.2 (.int (Int32.ofInt (sy_e ρ e)))))), 0, 0) else none
      | none => none)
    | _, _ => none) else none) = _
  rw [if_pos ⟨rfl, ha⟩, hL, l1]
  show (match x.1[ci]? with
      | some k => if ci = o.1 ∧ sl0 < o.2.length ∧ px_fit (px_ty k.2.1 sl0) (.int (Int32.ofInt (sy_e ρ e))) = true ∧ ((k.2.1 sl0).2.2.2 = true → M.1.1.name = "<init>" ∧ (k.2.1 sl0).1 = M.1.1.cls) then some (r.map (sy_v ρ τ), w.set (a - 64) (.inr (.inr (o.1, o.2.set sl0 (.int (Int32.ofInt (sy_e ρ e)))))), 0, 0) else none
      | none => none) = _
  rw [hk]
  show (if ci = o.1 ∧ sl0 < o.2.length ∧ px_fit (px_ty k.2.1 sl0) (.int (Int32.ofInt (sy_e ρ e))) = true ∧ ((k.2.1 sl0).2.2.2 = true → M.1.1.name = "<init>" ∧ (k.2.1 sl0).1 = M.1.1.cls) then _ else none) = _
  rw [if_pos ⟨l2.symm, hz, sy_ft_ok hft hvb, fun z => by rw [hfin] at z; cases z⟩]
end WR

end
end
section
noncomputable section
/-! CALLS THAT ARE WALKED IN PLACE, AND RETURNS -/
section CA
variable {cl : List vw_C} {P : List px_M} {len d idx : Nat} {L : px_L} {st : List Value} {w : px_W} {k : Nat × Nat}
theorem px_s3_no2 (h : px_look L.2.1 idx = some k) (hk : k.1 ≠ 6) : px_s3 (.invokestatic idx) len d L st w = none := by
  unfold px_s3
  split
  · rename_i heq
    cases heq
    split
    · rw [h]
      split
      · rename_i hq _ _
        cases hq
        rw [if_neg (fun z => hk z.1)]
      · rfl
    · rfl
  · rename_i heq
    cases heq
  · rfl
theorem px_s3_no3 : px_s3 (.invokevirtual idx) len d L st w = none := by
  unfold px_s3
  split
  · rename_i heq
    cases heq
  · rename_i heq
    cases heq
  · rfl
theorem px_s6_no2 (h : px_look L.2.1 idx = some k) (hk : k.1 ≠ 8 ∧ k.1 ≠ 9 ∧ k.1 ≠ 10) : px_s6 (.invokestatic idx) len d L st = none := by
  unfold px_s6
  dsimp only
  split
  · rw [h]
    show (match st with
    | .int y :: r => if k.1 = 10 then (if (r.map (fun v => v.category)).sum ≤ 8 then some (Value.int (if 0 ≤ y then y else 0 - y) :: r) else none) else (match r with
      | .int x :: r2 => if (r2.map (fun v => v.category)).sum ≤ 8 then (if k.1 = 8 then some (Value.int (if x < y then y else x) :: r2) else if k.1 = 9 then some (Value.int (if y < x then y else x) :: r2) else none) else none
      | _ => none)
    | _ => none) = none
    split
    · rw [if_neg hk.2.2]
      split
      · split
        · rw [if_neg hk.1, if_neg hk.2.1]
        · rfl
      · rfl
    · rfl
  · rfl
theorem px_s6_no3 : px_s6 (.invokevirtual idx) len d L st = none := rfl
end CA
def sy_args : Nat → List sy_A → List (Nat × sy_A)
  | _, [] => []
  | i, a :: r => (i, a) :: sy_args (if sy_cat a = 2 then i + 2 else i + 1) r
theorem sy_args_eq {ρ : Nat → Int} {τ : Nat → Int64} : ∀ (as : List sy_A) (i : Nat), lv_args i (as.map (sy_v ρ τ)) = (sy_args i as).map (fun q => (q.1, sy_v ρ τ q.2))
  | [], _ => rfl
  | a :: r, i => by
    show (i, sy_v ρ τ a) :: lv_args (if (sy_v ρ τ a).category = 2 then i + 2 else i + 1) (r.map (sy_v ρ τ)) = _
    rw [sy_cat_v, sy_args_eq r]
    rfl
theorem sy_args_ge : ∀ (as : List sy_A) (i : Nat), ∀ q ∈ sy_args i as, i ≤ q.1
  | [], _, q, h => absurd h List.not_mem_nil
  | a :: r, i, q, h => by
    rcases List.mem_cons.mp h with rfl | h
    · exact Nat.le_refl _
    · have := sy_args_ge r _ q h
      split at this <;> omega
theorem sy_args_look {ρ : Nat → Int} {τ : Nat → Int64} : ∀ (as : List sy_A) (i : Nat), ∀ q ∈ sy_args i as, px_look ((sy_args i as).map (fun q => (q.1, sy_v ρ τ q.2))) q.1 = some (sy_v ρ τ q.2)
  | [], _, q, h => absurd h List.not_mem_nil
  | a :: r, i, q, h => by
    rcases List.mem_cons.mp h with rfl | h
    · show px_look ((i, sy_v ρ τ a) :: _) i = _
      rw [px_look_cons]
      rw [if_pos rfl]
    · have hge := sy_args_ge r _ q h
      have hne : ¬ i = q.1 := by split at hge <;> omega
      show px_look ((i, sy_v ρ τ a) :: _) q.1 = _
      rw [px_look_cons]
      rw [if_neg hne]
      exact sy_args_look r _ q h
theorem sy_args_ok {ρ : Nat → Int} {τ : Nat → Int64} (as : List sy_A) : sy_lvok ρ τ (sy_args 0 as) (lv_args 0 (as.map (sy_v ρ τ))) := by
  intro q hq
  rw [sy_args_eq]
  exact sy_args_look as 0 q hq
def sy_len (as : List sy_A) : Nat := (as.map sy_cat).sum
theorem sy_len_ok {ρ : Nat → Int} {τ : Nat → Int64} : ∀ as : List sy_A, (lg_sl (as.map (sy_v ρ τ))).length = sy_len as
  | [] => rfl
  | a :: r => by
    have ih := sy_len_ok (ρ := ρ) (τ := τ) r
    unfold lg_sl at ih ⊢
    rw [List.map_cons, List.flatMap_cons, List.length_append, ih]
    show _ = sy_cat a + sy_len r
    congr 1
    rw [sy_cat_v]
    match a with
    | .inl _ => rfl
    | .inr (.inl _) => rfl
    | .inr (.inr _) => rfl
theorem sy_sum_v {ρ : Nat → Int} {τ : Nat → Int64} (r : List sy_A) : ((r.map (sy_v ρ τ)).map (fun v => v.category)).sum = (r.map sy_cat).sum := by
  rw [List.map_map]
  congr 1
  exact List.map_congr_left (fun a _ => sy_cat_v a)
section CB
variable {x : sy_X} {q : sy_Q} {S : sy_S} {M M' : px_M}
/-- what a call is: its method's number, its arguments, the rest -/
def sy_cl (cl : List vw_C) (A : List sy_Ce) (P : List px_M) (i : Instr) (len : Nat) (L : px_L) (st : List sy_A) : Option (Nat × List sy_A × List sy_A) := match i with
  | .invokestatic k => (px_look L.2.1 k).bind (fun c => (P[c.2]?).bind (fun M => if len = 3 ∧ (c.1 = 1 ∨ c.1 = 4) ∧ M.1.2.2.2.2 ≤ st.length ∧ ((st.drop M.1.2.2.2.2).map sy_cat).sum ≤ 8 then some (c.2, (st.take M.1.2.2.2.2).reverse, st.drop M.1.2.2.2.2) else none))
  | .invokevirtual k => (px_look L.2.1 k).bind (fun c => (P[c.2]?).bind (fun M => match st.drop M.1.2.2.2.2 with
    | .inr (.inl b) :: r => if len = 3 ∧ c.1 = 0 ∧ M.1.2.2.2.2 ≤ st.length ∧ (r.map sy_cat).sum ≤ 8 then (if 64 ≤ b then (match A[b - 64]? with
      | some (.inr (.inr o)) => (match cl[o.1]? with
        | some kc => if kc.1 = M.1.1.cls then some (c.2, .inr (.inl b) :: (st.take M.1.2.2.2.2).reverse, r) else none
        | none => none)
      | _ => none) else if 1 ≤ b ∧ b ≤ 16 ∧ M.1.1.cls = "java/lang/String" then some (c.2, .inr (.inl b) :: (st.take M.1.2.2.2.2).reverse, r) else none) else none
    | _ => none))
  | _ => none
theorem sy_cl_ok {ρ : Nat → Int} {τ : Nat → Int64} {w : px_W} {cl : List vw_C} {P : List px_M} {i : Instr} {len d : Nat} {L : px_L} {st : List sy_A} {z : Nat × List sy_A × List sy_A} (hW : sy_W q.2.1 w) (hz : sy_cl cl q.2.1 P i len L st = some z) : 2 ≤ px_so2 i ∧ px_s3 i len d L (st.map (sy_v ρ τ)) w = none ∧ px_s6 i len d L (st.map (sy_v ρ τ)) = none ∧ px_s4 cl P i len L (st.map (sy_v ρ τ)) w = some (z.1, z.2.1.map (sy_v ρ τ), z.2.2.map (sy_v ρ τ)) := by
  unfold sy_cl at hz
  split at hz
  · rename_i k
    obtain ⟨c, hc, h1⟩ := Option.bind_eq_some_iff.mp hz
    obtain ⟨M, hM, h2⟩ := Option.bind_eq_some_iff.mp h1
    clear hz h1
    split at h2
    · rename_i hh
      cases h2
      obtain ⟨g1, g2, g3, g4⟩ := hh
      refine ⟨by show 2 ≤ 2; omega, px_s3_no2 hc (by omega), px_s6_no2 hc (by omega), ?_⟩
      show (if len = 3 then (px_look L.2.1 k).bind (fun q => (P[q.2]?).bind (fun M => if (q.1 = 1 ∨ q.1 = 4) ∧ M.1.2.2.2.2 ≤ (st.map (sy_v ρ τ)).length ∧ (((st.map (sy_v ρ τ)).drop M.1.2.2.2.2).map (fun v => v.category)).sum ≤ 8 then some (q.2, ((st.map (sy_v ρ τ)).take M.1.2.2.2.2).reverse, (st.map (sy_v ρ τ)).drop M.1.2.2.2.2) else none)) else none) = _
      rw [if_pos g1, hc]
      show (P[c.2]?).bind _ = _
      rw [hM]
      show (if (c.1 = 1 ∨ c.1 = 4) ∧ M.1.2.2.2.2 ≤ (st.map (sy_v ρ τ)).length ∧ (((st.map (sy_v ρ τ)).drop M.1.2.2.2.2).map (fun v => v.category)).sum ≤ 8 then _ else none) = _
      rw [← List.map_drop, ← List.map_take, sy_sum_v, List.length_map, if_pos ⟨g2, g3, g4⟩, ← List.map_reverse]
    · cases h2
  · rename_i k
    obtain ⟨c, hc, h1⟩ := Option.bind_eq_some_iff.mp hz
    obtain ⟨M, hM, h2⟩ := Option.bind_eq_some_iff.mp h1
    clear hz h1
    split at h2
    · rename_i b r hdr
      split at h2
      · rename_i hh
        obtain ⟨g1, g2, g3, g4⟩ := hh
        have hd2 : (st.map (sy_v ρ τ)).drop M.1.2.2.2.2 = .ref b :: r.map (sy_v ρ τ) := by
          rw [← List.map_drop, hdr]
          rfl
        refine ⟨by show 2 ≤ 3; omega, px_s3_no3, px_s6_no3, ?_⟩
        unfold px_s4
        dsimp only
        rw [if_pos g1, hc]
        show (P[c.2]?).bind _ = _
        rw [hM]
        dsimp only [Option.bind_some]
        rw [hd2]
        dsimp only
        split at h2
        · rename_i h64
          rw [if_pos ⟨g2, by rw [List.length_map]; exact g3, h64, by rw [sy_sum_v]; exact g4⟩]
          split at h2
          · rename_i o hA
            obtain ⟨o1, o2⟩ := o
            obtain ⟨oc, l1, l2, -⟩ := sy_cell_o hW hA
            rw [l1]
            dsimp only
            rw [l2]
            split at h2
            · rename_i kc hkc
              rw [hkc]
              dsimp only
              split at h2
              · rename_i hcls
                cases h2
                rw [if_pos hcls, ← List.map_take, ← List.map_reverse]
                rfl
              · cases h2
            · cases h2
          · cases h2
        · rename_i h64
          split at h2
          · rename_i h16
            cases h2
            rw [if_neg (fun z => h64 z.2.2.1), if_pos ⟨g2, by rw [List.length_map]; exact g3, h16.1, h16.2.1, h16.2.2, by rw [sy_sum_v]; exact g4⟩, ← List.map_take, ← List.map_reverse]
            rfl
          · cases h2
      · cases h2
    · cases h2
  · cases hz
theorem sy_goCall {i : Instr} {len : Nat} {z : Nat × List sy_A × List sy_A} (hM : q.1[S.2.1.1]? = some M) (hq : px_look M.2.1 S.2.1.2.1 = some (i, len)) (hz : sy_cl x.1 q.2.1 x.2.2.1 i len M.2.2 S.2.1.2.2.2 = some z) (hM' : x.2.2.1[z.1]? = some M') (hPM : q.1[z.1]? = some M') (hlen : sy_len z.2.1 ≤ M'.1.2.2.1) (hdep : S.2.2.length + 1 ≤ x.2.2.2.2.2.2)
    (hG : sy_Good x q (S.1, (z.1, 0, sy_args 0 z.2.1, []), (S.2.1.1, S.2.1.2.1 + 3, S.2.1.2.2.1, z.2.2) :: S.2.2)) : sy_Good x q S := by
  refine sy_open (fun ρ τ w lc cf d hm hl hf hd => ?_) hM
  obtain ⟨h0, h3, h6, h4⟩ := sy_cl_ok (ρ := ρ) (τ := τ) (d := d) hm.2.2.2.2.1 hz
  have hcf : S.2.2.length = cf.length := by
    have key : ∀ (fs : List sy_Fr) (cs : List pf_F), sy_frs ρ τ q.1 fs cs → fs.length = cs.length := by
      intro fs
      induction fs with
      | nil =>
        intro cs h
        cases cs with
        | nil => rfl
        | cons => exact h.elim
      | cons f fs ih =>
        intro cs h
        cases cs with
        | nil => exact h.elim
        | cons c cs => rw [List.length_cons, List.length_cons, ih cs h.2]
    exact key _ _ hf
  cases d with
  | zero => omega
  | succ d =>
    have hstep := px_step_4 (cl := x.1) (lt := x.2.1) (P := x.2.2.1) (d := d + 1) (scr := pf_scr x.2.2.2.1 cf) (lv := lc) hq h0 h3 h6 h4
    refine pf_call hstep hM' (by rw [sy_len_ok]; exact hlen) ?_
    exact hG ρ τ w (M', 0, lv_args 0 (z.2.1.map (sy_v ρ τ)), []) ((M, S.2.1.2.1 + 3, lc, z.2.2.map (sy_v ρ τ)) :: cf) d ⟨hm, ⟨hPM, rfl, sy_args_ok _, rfl⟩, ⟨hM, rfl, hl, rfl⟩, hf⟩ (by rw [List.length_cons]; omega)
/-- what a return gives -/
def sy_rt (R : sy_T) (i : Instr) (len : Nat) (ret : Option FieldType) (st : List sy_A) : Option (Option sy_A) := match i, st with
  | .ireturn, [.inl e] => (match ret with
    | some .int => if len = 1 then some (some (.inl e)) else none
    | some .boolean => if len = 1 ∧ 0 ≤ (sy_vb R e).1 ∧ (sy_vb R e).2 ≤ 1 then some (some (.inl e)) else none
    | some .byte => if len = 1 ∧ 0 ≤ (sy_vb R e).1 ∧ (sy_vb R e).2 ≤ 0 then some (some (.inl e)) else none
    | some .char => if len = 1 ∧ 0 ≤ (sy_vb R e).1 ∧ (sy_vb R e).2 ≤ 65535 then some (some (.inl e)) else none
    | _ => none)
  | .lreturn, [.inr (.inr s)] => if len = 1 ∧ ret = some .long then some (some (.inr (.inr s))) else none
  | .return_, [] => if len = 1 ∧ ret = none then some none else none
  | _, _ => none
theorem sy_rt_ok {ρ : Nat → Int} {τ : Nat → Int64} {R : sy_T} (h : sy_ok ρ R) {i : Instr} {len : Nat} {ret : Option FieldType} {st : List sy_A} {v : Option sy_A} (hv : sy_rt R i len ret st = some v) : px_so2 i = 1 ∧ px_s5 i len ret (st.map (sy_v ρ τ)) = some (v.map (sy_v ρ τ)) := by
  unfold sy_rt at hv
  split at hv
  · rename_i e
    have hb := sy_vb_ok h e
    split at hv
    · split at hv
      · rename_i hc
        cases hv
        refine ⟨rfl, ?_⟩
        show (if len = 1 ∧ narrow .int (.int _) = .int _ then _ else none) = _
        rw [if_pos ⟨hc, rfl⟩]
        rfl
      · cases hv
    · split at hv
      · rename_i hc
        cases hv
        refine ⟨rfl, ?_⟩
        have h2 : Int32.ofInt (sy_e ρ e) = 0 ∨ Int32.ofInt (sy_e ρ e) = 1 := by
          rcases (show (Int32.ofInt (sy_e ρ e)).toInt = 0 ∨ (Int32.ofInt (sy_e ρ e)).toInt = 1 by omega) with h3 | h3
          · exact Or.inl (Int32.toInt_inj.mp h3)
          · exact Or.inr (Int32.toInt_inj.mp h3)
        show (if len = 1 ∧ narrow .boolean (.int (Int32.ofInt (sy_e ρ e))) = .int (Int32.ofInt (sy_e ρ e)) then _ else none) = _
        rw [if_pos ⟨hc.1, by rcases h2 with h2 | h2 <;> rw [h2] <;> rfl⟩]
        rfl
      · cases hv
    · split at hv
      · rename_i hc
        cases hv
        refine ⟨rfl, ?_⟩
        have h2 : Int32.ofInt (sy_e ρ e) = 0 := Int32.toInt_inj.mp (show (Int32.ofInt (sy_e ρ e)).toInt = 0 by omega)
        show (if len = 1 ∧ narrow .byte (.int (Int32.ofInt (sy_e ρ e))) = .int (Int32.ofInt (sy_e ρ e)) then _ else none) = _
        rw [if_pos ⟨hc.1, by rw [h2]; rfl⟩]
        rfl
      · cases hv
    · split at hv
      · rename_i hc
        cases hv
        refine ⟨rfl, ?_⟩
        have h2 : narrow .char (.int (Int32.ofInt (sy_e ρ e))) = .int (Int32.ofInt (sy_e ρ e)) := by
          show Value.int _ = _
          rw [sy_ch1 (by omega) (by omega)]
        show (if len = 1 ∧ narrow .char (.int (Int32.ofInt (sy_e ρ e))) = .int (Int32.ofInt (sy_e ρ e)) then _ else none) = _
        rw [if_pos ⟨hc.1, h2⟩]
        rfl
      · cases hv
    · cases hv
  · split at hv
    · rename_i hc
      cases hv
      refine ⟨rfl, ?_⟩
      show (if len = 1 ∧ ret = some .long then _ else none) = _
      rw [if_pos hc]
      rfl
    · cases hv
  · split at hv
    · rename_i hc
      cases hv
      refine ⟨rfl, ?_⟩
      show (if len = 1 ∧ ret = none then _ else none) = _
      rw [if_pos hc]
      rfl
    · cases hv
  · cases hv
theorem sy_goBack {i : Instr} {len : Nat} {v : Option sy_A} {f : sy_Fr} {fs : List sy_Fr} (hM : q.1[S.2.1.1]? = some M) (hq : px_look M.2.1 S.2.1.2.1 = some (i, len)) (hv : sy_rt S.1.1 i len M.1.2.2.2.1 S.2.1.2.2.2 = some v) (hfs : S.2.2 = f :: fs) (hG : sy_Good x q (S.1, (f.1, f.2.1, f.2.2.1, v.toList ++ f.2.2.2), fs)) : sy_Good x q S := by
  refine sy_open (fun ρ τ w lc cf d hm hl hf hd => ?_) hM
  rw [hfs] at hf
  cases cf with
  | nil => exact hf.elim
  | cons c cf =>
    obtain ⟨⟨g1, g2, g3, g4⟩, hf2⟩ := hf
    obtain ⟨h0, h5⟩ := sy_rt_ok (ρ := ρ) (τ := τ) hm.2.1 hv
    refine pf_back (px_step_5 hq h0 h5) ?_
    have e1 : (v.map (sy_v ρ τ)).toList ++ c.2.2.2 = (v.toList ++ f.2.2.2).map (sy_v ρ τ) := by
      rw [g4, List.map_append]
      cases v <;> rfl
    rw [e1]
    have hu := hG ρ τ w (c.1, c.2.1, c.2.2.1, (v.toList ++ f.2.2.2).map (sy_v ρ τ)) cf (d + 1) ⟨hm, ⟨g1, g2, g3, rfl⟩, hf2⟩ (by rw [List.length_cons] at hd; omega)
    exact hu
theorem sy_goEnd {i : Instr} {len : Nat} {v : Option sy_A} (hM : q.1[S.2.1.1]? = some M) (hq : px_look M.2.1 S.2.1.2.1 = some (i, len)) (hv : sy_rt S.1.1 i len M.1.2.2.2.1 S.2.1.2.2.2 = some v) (hfs : S.2.2 = []) (hK : ∀ (ρ : Nat → Int) (τ : Nat → Int64) (w : px_W), sy_mem q S.1 ρ τ w → x.2.2.2.2.2.1 (v.map (sy_v ρ τ)) w) : sy_Good x q S := by
  refine sy_open (fun ρ τ w lc cf d hm hl hf hd => ?_) hM
  rw [hfs] at hf
  cases cf with
  | cons c cf => exact hf.elim
  | nil =>
    obtain ⟨h0, h5⟩ := sy_rt_ok (ρ := ρ) (τ := τ) hm.2.1 hv
    exact pf_end (px_step_5 hq h0 h5) (hK ρ τ w hm)
end CB

end
end
section
noncomputable section
/-! ONE STATE AS A CASE OF ANOTHER: symbols stand for forms -/
def sy_ρ (ρ : Nat → Int) (σ : List sy_L) : Nat → Int := fun i => match σ[i]? with
  | some f => sy_e ρ f
  | none => 0
def sy_τ (τ : Nat → Int64) (σL : List Nat) : Nat → Int64 := fun i => match σL[i]? with
  | some s => τ s
  | none => 0
def sy_sbs (σ : List sy_L) : List (Nat × Int) → Option sy_L
  | [] => some (0, [])
  | t :: r => match σ[t.1]?, sy_sbs σ r with
    | some e, some z => some (sy_add (sy_scl t.2 e) z)
    | _, _ => none
theorem sy_sbs_e {ρ : Nat → Int} {σ : List sy_L} : ∀ (l : List (Nat × Int)) (z : sy_L), sy_sbs σ l = some z → sy_e ρ z = sy_s (sy_ρ ρ σ) l
  | [], z, h => by
    cases h
    simp [sy_e, sy_s]
  | t :: r, z, h => by
    unfold sy_sbs at h
    split at h
    · rename_i e y he hy
      cases h
      rw [sy_add_e, sy_scl_e, sy_sbs_e r y hy]
      show _ = t.2 * sy_ρ ρ σ t.1 + sy_s (sy_ρ ρ σ) r
      have : sy_ρ ρ σ t.1 = sy_e ρ e := by
        unfold sy_ρ
        rw [he]
      rw [this]
    · cases h
def sy_sb (σ : List sy_L) (e : sy_L) : Option sy_L := (sy_sbs σ e.2).map (fun z => (e.1 + z.1, z.2))
theorem sy_sb_e {ρ : Nat → Int} {σ : List sy_L} {e z : sy_L} (h : sy_sb σ e = some z) : sy_e ρ z = sy_e (sy_ρ ρ σ) e := by
  obtain ⟨y, hy, rfl⟩ := Option.map_eq_some_iff.mp h
  have := sy_sbs_e (ρ := ρ) e.2 y hy
  unfold sy_e at this ⊢
  show e.1 + y.1 + sy_s ρ y.2 = _
  omega
def sy_sbA (σ : List sy_L) (σL : List Nat) (a : sy_A) : Option sy_A := match a with
  | .inl e => (sy_sb σ e).map .inl
  | .inr (.inl k) => some (.inr (.inl k))
  | .inr (.inr s) => (σL[s]?).map (fun t => .inr (.inr t))
theorem sy_sbA_e {ρ : Nat → Int} {τ : Nat → Int64} {σ : List sy_L} {σL : List Nat} {a z : sy_A} (h : sy_sbA σ σL a = some z) : sy_v ρ τ z = sy_v (sy_ρ ρ σ) (sy_τ τ σL) a := by
  match a, h with
  | .inl e, h =>
    obtain ⟨y, hy, rfl⟩ := Option.map_eq_some_iff.mp h
    show Value.int _ = Value.int _
    rw [sy_sb_e hy]
  | .inr (.inl k), h => cases h; rfl
  | .inr (.inr s), h =>
    obtain ⟨y, hy, rfl⟩ := Option.map_eq_some_iff.mp h
    show Value.long (τ y) = Value.long (sy_τ τ σL s)
    unfold sy_τ
    rw [hy]
def sy_eq (R : sy_T) (a b : sy_L) : Bool := decide (sy_nm R (sy_sub a b) = (0, []))
theorem sy_eq_e {ρ : Nat → Int} {R : sy_T} (h : sy_ok ρ R) {a b : sy_L} (he : sy_eq R a b = true) : sy_e ρ a = sy_e ρ b := by
  have h1 := sy_nm_e h (sy_sub a b)
  rw [of_decide_eq_true he, sy_sub_e] at h1
  have : sy_e ρ ((0, []) : sy_L) = 0 := by simp [sy_e, sy_s]
  omega
/-- one place, by forms or, where places are told apart, by constraints -/
def sy_eq2 (t : Bool) (R : sy_T) (cs : List sy_L) (a b : sy_L) : Bool := sy_eq R a b || (t && (sy_pos R cs (sy_sub a b) && sy_pos R cs (sy_sub b a)))
theorem sy_eq2_e {ρ : Nat → Int} {R : sy_T} {cs : List sy_L} (h : sy_ok ρ R) (hc : sy_cok ρ cs) {t : Bool} {a b : sy_L} (he : sy_eq2 t R cs a b = true) : sy_e ρ a = sy_e ρ b := by
  unfold sy_eq2 at he
  simp only [Bool.or_eq_true, Bool.and_eq_true] at he
  rcases he with he | ⟨-, h1, h2⟩
  · exact sy_eq_e h he
  · have h3 := sy_pos_e h hc h1
    have h4 := sy_pos_e h hc h2
    rw [sy_sub_e] at h3 h4
    omega
/-- cells told apart, where a method reads them -/
def sy_spr (m k : Nat) : Bool := k == 139 || ((m == 293 && k == 153) || (m == 292 && k == 152))
def sy_eqA (R : sy_T) (a b : sy_A) : Bool := match a, b with
  | .inl e, .inl f => sy_eq R e f
  | .inr (.inl k), .inr (.inl l) => decide (k = l)
  | .inr (.inr k), .inr (.inr l) => decide (k = l)
  | _, _ => false
theorem sy_eqA_e {ρ : Nat → Int} {τ : Nat → Int64} {R : sy_T} (h : sy_ok ρ R) {a b : sy_A} (he : sy_eqA R a b = true) : sy_v ρ τ a = sy_v ρ τ b := by
  match a, b, he with
  | .inl e, .inl f, he =>
    show Value.int _ = Value.int _
    rw [sy_eq_e h he]
  | .inr (.inl k), .inr (.inl l), he => rw [of_decide_eq_true he]
  | .inr (.inr k), .inr (.inr l), he => rw [of_decide_eq_true he]
/-- ranges, constraints and facts of one state hold, by a case, in another -/
def sy_fitR (R : sy_T) (cs : List sy_L) : sy_T → List sy_L → Bool
  | [], _ => true
  | p :: r, f :: σ => sy_pos R cs (sy_add f (sy_c (-p.1))) && (sy_pos R cs (sy_sub (sy_c p.2) f) && sy_fitR R cs r σ)
  | _ :: _, [] => false
theorem sy_fitR_ok {ρ : Nat → Int} {R : sy_T} {cs : List sy_L} (h : sy_ok ρ R) (hc : sy_cok ρ cs) : ∀ (T : sy_T) (σ : List sy_L), sy_fitR R cs T σ = true → ∀ (i : Nat) (p : Int × Int), T[i]? = some p → ∃ f, σ[i]? = some f ∧ p.1 ≤ sy_e ρ f ∧ sy_e ρ f ≤ p.2
  | [], _, _, i, p, hp => by simp at hp
  | _ :: _, [], hf, _, _, _ => by simp [sy_fitR] at hf
  | p0 :: r, f :: σ, hf, i, p, hp => by
    unfold sy_fitR at hf
    simp only [Bool.and_eq_true] at hf
    cases i with
    | zero =>
      rw [List.getElem?_cons_zero] at hp
      cases hp
      have h1 := sy_pos_e h hc hf.1
      have h2 := sy_pos_e h hc hf.2.1
      rw [sy_add_e, sy_c_e] at h1
      rw [sy_sub_e, sy_c_e] at h2
      exact ⟨f, rfl, by omega, by omega⟩
    | succ i =>
      rw [List.getElem?_cons_succ] at hp ⊢
      exact sy_fitR_ok h hc r σ hf.2.2 i p hp
def sy_fitF (R : sy_T) (cs : List sy_L) (F : List sy_Fa) (σ : List sy_L) (σL : List Nat) (f : sy_Fa) : Bool := match sy_sb σ f.2.1, sy_sbA σ σL f.2.2 with
  | some ix, some v => F.any (fun g => decide (g.1 = f.1) && (sy_eq2 (sy_spf f.1) R cs g.2.1 ix && sy_eqA R g.2.2 v))
  | _, _ => false
def sy_fitG (g : sy_G) (σ : List sy_L) (σL : List Nat) (t : sy_G) : Bool := t.2.2.1.all (fun c => match sy_sb σ c with
  | some e => sy_pos g.1 g.2.2.1 e
  | none => false) && (sy_fitR g.1 g.2.2.1 t.1 σ && t.2.2.2.all (sy_fitF g.1 g.2.2.1 g.2.2.2 σ σL))
theorem sy_fitG_ok {ρ : Nat → Int} {τ : Nat → Int64} {w : px_W} {g t : sy_G} {σ : List sy_L} {σL : List Nat} (h : sy_ok ρ g.1) (hc : sy_cok ρ g.2.2.1) (hF : sy_fok ρ τ w g.2.2.2) (hf : sy_fitG g σ σL t = true) : sy_ok (sy_ρ ρ σ) t.1 ∧ sy_cok (sy_ρ ρ σ) t.2.2.1 ∧ sy_fok (sy_ρ ρ σ) (sy_τ τ σL) w t.2.2.2 := by
  unfold sy_fitG at hf
  simp only [Bool.and_eq_true, List.all_eq_true] at hf
  obtain ⟨h2, h1, h3⟩ := hf
  refine ⟨fun i p hp => ?_, fun c hcc => ?_, fun f hff => ?_⟩
  · obtain ⟨f, f1, f2⟩ := sy_fitR_ok h hc _ _ h1 i p hp
    have : sy_ρ ρ σ i = sy_e ρ f := by
      unfold sy_ρ
      rw [f1]
    rw [this]
    exact f2
  · have h4 := h2 c hcc
    split at h4
    · rename_i e he
      rw [← sy_sb_e he]
      exact sy_pos_e h hc h4
    · cases h4
  · have h4 := h3 f hff
    unfold sy_fitF at h4
    split at h4
    · rename_i ix v hi hv
      obtain ⟨g2, g3, g4⟩ := List.any_eq_true.mp h4
      simp only [Bool.and_eq_true, decide_eq_true_eq] at g4
      have h5 := hF g2 g3
      have e1 := sy_eq2_e h hc g4.2.1
      have e2 := sy_eqA_e (τ := τ) h g4.2.2
      rw [sy_sb_e hi] at e1
      rw [sy_sbA_e hv] at e2
      rw [g4.1, e1, e2] at h5
      exact h5
    · cases h4
/-! CUTS: a state with a measure; whoever comes to one comes with less -/
abbrev sy_Cut : Type := Nat × sy_G × List (Nat × sy_A) × sy_L
/-- a state comes to a cut, as a case of it, with a measure below m -/
def sy_fitC (N0 : Nat) (S : sy_S) (c : sy_Cut) (σ : List sy_L) (σL : List Nat) (m : sy_L) : Bool :=
  decide (S.2.2 = []) && (decide (S.2.1.2.2.2 = []) && (decide (S.2.1.2.1 = c.1) && (decide (N0 ≤ c.2.1.1.length) && ((List.range N0).all (fun i => decide (σ[i]? = some (sy_x i))) && (c.2.2.1.all (fun p => match px_look S.2.1.2.2.1 p.1, sy_sbA σ σL p.2 with
    | some a, some b => sy_eqA S.1.1 a b
    | _, _ => false) && (sy_fitG S.1 σ σL c.2.1 && (match sy_sb σ c.2.2.2 with
    | some e => sy_pos S.1.1 S.1.2.2.1 e && sy_pos S.1.1 S.1.2.2.1 (sy_add (sy_sub m e) (sy_c (-1)))
    | none => false)))))))
theorem sy_fitC_ok {N0 : Nat} {S : sy_S} {c : sy_Cut} {σ : List sy_L} {σL : List Nat} {m : sy_L} {ρ : Nat → Int} {τ : Nat → Int64} {w : px_W} {lc : List (Nat × Value)} (hf : sy_fitC N0 S c σ σL m = true) (h : sy_ok ρ S.1.1) (hc : sy_cok ρ S.1.2.2.1) (hF : sy_fok ρ τ w S.1.2.2.2) (hl : sy_lvok ρ τ S.2.1.2.2.1 lc) :
    (S.2.2 = [] ∧ S.2.1.2.2.2 = [] ∧ S.2.1.2.1 = c.1 ∧ N0 ≤ c.2.1.1.length) ∧ (∀ i, i < N0 → sy_ρ ρ σ i = ρ i) ∧ sy_ok (sy_ρ ρ σ) c.2.1.1 ∧ sy_cok (sy_ρ ρ σ) c.2.1.2.2.1 ∧ sy_fok (sy_ρ ρ σ) (sy_τ τ σL) w c.2.1.2.2.2 ∧ sy_lvok (sy_ρ ρ σ) (sy_τ τ σL) c.2.2.1 lc ∧ 0 ≤ sy_e (sy_ρ ρ σ) c.2.2.2 ∧ sy_e (sy_ρ ρ σ) c.2.2.2 < sy_e ρ m := by
  unfold sy_fitC at hf
  simp only [Bool.and_eq_true, decide_eq_true_eq] at hf
  obtain ⟨h1, h2, h3, h4, h5, h7, h6, h8⟩ := hf
  obtain ⟨g1, g2, g3⟩ := sy_fitG_ok h hc hF h6
  refine ⟨⟨h1, h2, h3, h4⟩, fun i hi => ?_, g1, g2, g3, fun p hp => ?_, ?_⟩
  · have := of_decide_eq_true (List.all_eq_true.mp h5 i (List.mem_range.mpr hi))
    unfold sy_ρ
    rw [this]
    exact sy_x_e ρ i
  · have h9 := List.all_eq_true.mp h7 p hp
    split at h9
    · rename_i a b ha hb
      have e2 := sy_eqA_e (τ := τ) h h9
      rw [sy_sbA_e hb] at e2
      rw [← e2]
      exact hl _ (px_look_mem ha)
    · cases h9
  · split at h8
    · rename_i e he
      rw [Bool.and_eq_true] at h8
      have a1 := sy_pos_e h hc h8.1
      have a2 := sy_pos_e h hc h8.2
      rw [sy_add_e, sy_sub_e, sy_c_e] at a2
      rw [sy_sb_e he] at a1 a2
      exact ⟨a1, by omega⟩
    · cases h8

end
end
section
noncomputable section
/-! CONTRACTS, BY CUTS AND A MEASURE -/
abbrev sy_Po : Type := sy_G × Option sy_A
/-- a contract: method, what holds at its start, its arguments, what it may write, its depth, its ends -/
abbrev sy_Co : Type := Nat × sy_G × List sy_A × sy_Wr × Nat × List sy_Po
/-- an end of a contract -/
def sy_K (A : List sy_Ce) (C : sy_Co) (w0 : px_W) (ρ0 : Nat → Int) (v : Option Value) (w' : px_W) : Prop := sy_W A w' ∧ sy_fr C.2.2.2.1 w0 w' ∧ ∃ p ∈ C.2.2.2.2.2, ∃ (ρ' : Nat → Int) (τ' : Nat → Int64), (∀ i, i < C.2.1.1.length → ρ' i = ρ0 i) ∧ sy_ok ρ' p.1.1 ∧ sy_cok ρ' p.1.2.2.1 ∧ sy_fok ρ' τ' w' p.1.2.2.2 ∧ v = p.2.map (sy_v ρ' τ')
def sy_Met (cl : List vw_C) (lt : List (List Int32)) (P : List px_M) (A : List sy_Ce) (b : Nat × Nat) (C : sy_Co) : Prop := ∀ (M : px_M), P[C.1]? = some M → ∀ (ρ : Nat → Int) (τ : Nat → Int64) (w : px_W) (d : Nat), sy_ok ρ C.2.1.1 → sy_cok ρ C.2.1.2.2.1 → sy_fok ρ τ w C.2.1.2.2.2 → sy_W A w → sy_fj C.2.2.2.1 w → C.2.2.2.2.1 ≤ d → ∃ (n : Nat) (v : Option Value) (w' : px_W), px_exec cl lt P n d none M 0 (lv_args 0 (C.2.2.1.map (sy_v ρ τ))) [] w b = some (v, w', b) ∧ sy_K A C w ρ v w'
/-- whoever stands at a cut with a measure below m comes to an end -/
def sy_I (x : sy_X) (A : List sy_Ce) (Wr : sy_Wr) (w0 : px_W) (ρ0 : Nat → Int) (N0 : Nat) (M : px_M) (cuts : List sy_Cut) (m : Int) : Prop := ∀ c ∈ cuts, ∀ (ρ : Nat → Int) (τ : Nat → Int64) (w : px_W) (lc : List (Nat × Value)), (N0 ≤ c.2.1.1.length ∧ ∀ i, i < N0 → ρ i = ρ0 i) → sy_ok ρ c.2.1.1 → sy_cok ρ c.2.1.2.2.1 → sy_fok ρ τ w c.2.1.2.2.2 → sy_W A w → sy_fr Wr w0 w → sy_lvok ρ τ c.2.2.1 lc → 0 ≤ sy_e ρ c.2.2.2 → sy_e ρ c.2.2.2 < m → pf_Fin x.1 x.2.1 x.2.2.1 x.2.2.2.1 x.2.2.2.2.1 x.2.2.2.2.2.1 [] x.2.2.2.2.2.2 M c.1 lc [] w
def sy_cS (j : Nat) (c : sy_Cut) : sy_S := (c.2.1, (j, c.1, c.2.2.1, []), [])
theorem sy_floyd {x : sy_X} {PM : List px_M} {A : List sy_Ce} {Wr : sy_Wr} {w0 : px_W} {ρ0 : Nat → Int} {N0 j : Nat} {M : px_M} {cuts : List sy_Cut} (hM : PM[j]? = some M)
    (hc : ∀ c ∈ cuts, ∀ ρs : Nat → Int, (N0 ≤ c.2.1.1.length ∧ ∀ i, i < N0 → ρs i = ρ0 i) → sy_I x A Wr w0 ρ0 N0 M cuts (sy_e ρs c.2.2.2) → sy_Good x (PM, A, Wr, w0, ρs, c.2.1.1.length) (sy_cS j c)) : ∀ n : Nat, sy_I x A Wr w0 ρ0 N0 M cuts (n : Int) := by
  intro n
  induction n with
  | zero =>
    intro c _ ρ τ w lc _ _ _ _ _ _ _ h1 h2
    omega
  | succ n ih =>
    intro c hcc ρ τ w lc hr h1 h2 h3 h4 h5 h6 h7 h8
    have hI : sy_I x A Wr w0 ρ0 N0 M cuts (sy_e ρ c.2.2.2) := by
      intro c2 hc2 ρ2 τ2 w2 lc2 r2 a1 a2 a3 a4 a5 a6 a7 a8
      exact ih c2 hc2 ρ2 τ2 w2 lc2 r2 a1 a2 a3 a4 a5 a6 a7 (by omega)
    exact hc c hcc ρ hr hI ρ τ w (M, c.1, lc, []) [] x.2.2.2.2.2.2 ⟨⟨⟨Nat.le_refl _, fun _ _ => rfl⟩, h1, h2, h3, h4, h5⟩, ⟨hM, rfl, h6, rfl⟩, trivial⟩ (by simp)
section FL
variable {x : sy_X} {q : sy_Q} {S : sy_S} {M : px_M}
theorem sy_goCut {cuts : List sy_Cut} {ρ0 : Nat → Int} {N0 : Nat} {c : sy_Cut} {σ : List sy_L} {σL : List Nat} {m : sy_L} (hI : sy_I x q.2.1 q.2.2.1 q.2.2.2.1 ρ0 N0 M cuts (sy_e q.2.2.2.2.1 m)) (hN : N0 ≤ q.2.2.2.2.2 ∧ ∀ i, i < N0 → q.2.2.2.2.1 i = ρ0 i) (hmw : sy_wl q.2.2.2.2.2 m = true) (hM : q.1[S.2.1.1]? = some M) (hc : c ∈ cuts) (hfit : sy_fitC N0 S c σ σL m = true) : sy_Good x q S := by
  refine sy_open (fun ρ τ w lc cf d hm hl hf hd => ?_) hM
  obtain ⟨⟨m1, m1'⟩, m2, m3, m4, m5, m6⟩ := hm
  obtain ⟨⟨f1, f2, f3, f4⟩, g1, g2, g3, g4, g5, g6, g7⟩ := sy_fitC_ok hfit m2 m3 m4 hl
  rw [f1] at hf
  cases cf with
  | cons c2 cf => exact hf.elim
  | nil =>
    have em : sy_e ρ m = sy_e q.2.2.2.2.1 m := sy_ext_l m1' hmw
    rw [em] at g7
    have h0 := hI c hc (sy_ρ ρ σ) (sy_τ τ σL) w lc ⟨f4, fun i hi => by rw [g1 i hi, m1' i (by omega)]; exact hN.2 i hi⟩ g2 g3 g4 m5 m6 g5 g6 g7
    rw [f2, f3]
    have hd' : d = x.2.2.2.2.2.2 := by simpa using hd
    rw [hd']
    exact h0
/-- a return ends a contract -/
def sy_fitP (N0 : Nat) (g : sy_G) (v : Option sy_A) (σ : List sy_L) (σL : List Nat) (p : sy_Po) : Bool := (List.range N0).all (fun i => decide (σ[i]? = some (sy_x i))) && (sy_fitG g σ σL p.1 && (match v, p.2 with
  | none, none => true
  | some a, some c => (match sy_sbA σ σL c with
    | some b => sy_eqA g.1 a b
    | none => false)
  | _, _ => false))
theorem sy_goPost {i : Instr} {len : Nat} {v : Option sy_A} {C : sy_Co} {ρ0 : Nat → Int} {σ : List sy_L} {σL : List Nat} {p : sy_Po} (hK : x.2.2.2.2.2.1 = sy_K q.2.1 C q.2.2.2.1 ρ0) (hWr : q.2.2.1 = C.2.2.2.1) (hN : C.2.1.1.length ≤ q.2.2.2.2.2 ∧ ∀ i, i < C.2.1.1.length → q.2.2.2.2.1 i = ρ0 i) (hM : q.1[S.2.1.1]? = some M) (hq : px_look M.2.1 S.2.1.2.1 = some (i, len)) (hv : sy_rt S.1.1 i len M.1.2.2.2.1 S.2.1.2.2.2 = some v) (hfs : S.2.2 = []) (hp : p ∈ C.2.2.2.2.2) (hfit : sy_fitP C.2.1.1.length S.1 v σ σL p = true) : sy_Good x q S := by
  refine sy_goEnd hM hq hv hfs (fun ρ τ w hm => ?_)
  obtain ⟨⟨m1, m1'⟩, m2, m3, m4, m5, m6⟩ := hm
  unfold sy_fitP at hfit
  simp only [Bool.and_eq_true] at hfit
  obtain ⟨h1, h2, h3⟩ := hfit
  obtain ⟨g1, g2, g3⟩ := sy_fitG_ok m2 m3 m4 h2
  rw [hK]
  refine ⟨m5, by rw [← hWr]; exact m6, p, hp, sy_ρ ρ σ, sy_τ τ σL, fun i hi => ?_, g1, g2, g3, ?_⟩
  · have := of_decide_eq_true (List.all_eq_true.mp h1 i (List.mem_range.mpr hi))
    have e : sy_ρ ρ σ i = ρ i := by
      unfold sy_ρ
      rw [this]
      exact sy_x_e ρ i
    rw [e, m1' i (by omega)]
    exact hN.2 i hi
  · split at h3
    · rename_i hp2
      rw [hp2]
      rfl
    · rename_i a c hp2
      rw [hp2]
      split at h3
      · rename_i b hb
        show some (sy_v ρ τ a) = some (sy_v (sy_ρ ρ σ) (sy_τ τ σL) c)
        rw [sy_eqA_e (τ := τ) m2 h3, sy_sbA_e hb]
      · cases h3
    · cases h3
end FL
/-- a contract, out of its cuts: the first is its start -/
theorem sy_met {cl : List vw_C} {lt : List (List Int32)} {P PM : List px_M} {A : List sy_Ce} {b : Nat × Nat} {C : sy_Co} {cuts : List sy_Cut} {m0 : sy_L} (hPM : ∀ (j : Nat) (M : px_M), P[j]? = some M → PM[j]? = some M) (h0 : (0, C.2.1, sy_args 0 C.2.2.1, m0) ∈ cuts) (hm0 : sy_pos C.2.1.1 C.2.1.2.2.1 m0 = true)
    (hc : ∀ c ∈ cuts, ∀ (M : px_M), P[C.1]? = some M → ∀ (d : Nat) (w0 : px_W) (ρ0 ρs : Nat → Int), C.2.2.2.2.1 ≤ d → (C.2.1.1.length ≤ c.2.1.1.length ∧ ∀ i, i < C.2.1.1.length → ρs i = ρ0 i) → sy_I (cl, lt, P, none, b, sy_K A C w0 ρ0, d) A C.2.2.2.1 w0 ρ0 C.2.1.1.length M cuts (sy_e ρs c.2.2.2) → sy_Good (cl, lt, P, none, b, sy_K A C w0 ρ0, d) (PM, A, C.2.2.2.1, w0, ρs, c.2.1.1.length) (sy_cS C.1 c)) : sy_Met cl lt P A b C := by
  intro M hM ρ τ w d h1 h2 h3 h4 h4j h5
  have hfl := sy_floyd (x := (cl, lt, P, none, b, sy_K A C w ρ, d)) (A := A) (Wr := C.2.2.2.1) (w0 := w) (ρ0 := ρ) (N0 := C.2.1.1.length) (cuts := cuts) (hPM _ _ hM) (fun c hcc ρs hr hI => hc c hcc M hM d w ρ ρs h5 hr hI)
  have hpos := sy_pos_e h1 h2 hm0
  have hfin := hfl ((sy_e ρ m0).toNat + 1) _ h0 ρ τ w (lv_args 0 (C.2.2.1.map (sy_v ρ τ))) ⟨Nat.le_refl _, fun _ _ => rfl⟩ h1 h2 h3 h4 ⟨fun _ _ _ => rfl, h4j⟩ (sy_args_ok _) hpos (by show sy_e ρ m0 < _; omega)
  exact hfin

end
end
section
noncomputable section
/-! A CALL BY CONTRACT -/
theorem sy_sbs_w {σ : List sy_L} : ∀ (l : List (Nat × Int)) (z : sy_L), sy_sbs σ l = some z → l.all (fun t => decide (t.1 < σ.length)) = true
  | [], _, _ => rfl
  | t :: r, z, h => by
    unfold sy_sbs at h
    split at h
    · rename_i e y he hy
      rw [List.all_cons, Bool.and_eq_true]
      exact ⟨decide_eq_true (List.getElem?_eq_some_iff.mp he).1, sy_sbs_w r y hy⟩
    · cases h
theorem sy_sb_to {ρ ρ' : Nat → Int} {σ : List sy_L} (hag : ∀ i, i < σ.length → ρ' i = sy_ρ ρ σ i) {e z : sy_L} (h : sy_sb σ e = some z) : sy_e ρ z = sy_e ρ' e := by
  rw [sy_sb_e h]
  obtain ⟨y, hy, -⟩ := Option.map_eq_some_iff.mp h
  exact (sy_ext_l hag (e := e) (sy_sbs_w e.2 y hy)).symm
theorem sy_sbA_to {ρ ρ' : Nat → Int} {τ τ' : Nat → Int64} {σ : List sy_L} {σL : List Nat} (hag : ∀ i, i < σ.length → ρ' i = sy_ρ ρ σ i) (hal : ∀ i, i < σL.length → τ' i = sy_τ τ σL i) {a z : sy_A} (h : sy_sbA σ σL a = some z) : sy_v ρ τ z = sy_v ρ' τ' a := by
  match a, h with
  | .inl e, h =>
    obtain ⟨y, hy, rfl⟩ := Option.map_eq_some_iff.mp h
    show Value.int _ = Value.int _
    rw [sy_sb_to hag hy]
  | .inr (.inl k), h => cases h; rfl
  | .inr (.inr s), h =>
    obtain ⟨y, hy, rfl⟩ := Option.map_eq_some_iff.mp h
    show Value.long (τ y) = Value.long (τ' s)
    rw [hal s (List.getElem?_eq_some_iff.mp hy).1]
    unfold sy_τ
    rw [hy]
def sy_eqs (R : sy_T) (σ : List sy_L) (σL : List Nat) : List sy_A → List sy_A → Bool
  | [], [] => true
  | a :: r, p :: s => (match sy_sbA σ σL p with
    | some b => sy_eqA R a b
    | none => false) && sy_eqs R σ σL r s
  | _, _ => false
theorem sy_eqs_ok {ρ : Nat → Int} {τ : Nat → Int64} {R : sy_T} (h : sy_ok ρ R) {σ : List sy_L} {σL : List Nat} : ∀ (as ps : List sy_A), sy_eqs R σ σL as ps = true → as.map (sy_v ρ τ) = ps.map (sy_v (sy_ρ ρ σ) (sy_τ τ σL))
  | [], [], _ => rfl
  | [], _ :: _, h2 => by simp [sy_eqs] at h2
  | _ :: _, [], h2 => by simp [sy_eqs] at h2
  | a :: r, p :: s, h2 => by
    unfold sy_eqs at h2
    rw [Bool.and_eq_true] at h2
    obtain ⟨h3, h4⟩ := h2
    split at h3
    · rename_i b hb
      rw [List.map_cons, List.map_cons, sy_eqs_ok h r s h4, sy_eqA_e (τ := τ) h h3, sy_sbA_e hb]
    · cases h3
def sy_wsub (W1 W2 : sy_Wr) : Bool := W1.all (fun p => W2.any (fun q => decide (q.1 = p.1) && (decide (q.2.1 ≤ p.2.1) && decide (p.2.2 ≤ q.2.2))))
theorem sy_wsub_ok {W1 W2 : sy_Wr} (h : sy_wsub W1 W2 = true) {k i : Nat} (hm : sy_may W2 k i = false) : sy_may W1 k i = false := by
  cases h1 : sy_may W1 k i with
  | false => rfl
  | true =>
    obtain ⟨p, hp, h2⟩ := List.any_eq_true.mp h1
    obtain ⟨q, hq, h3⟩ := List.any_eq_true.mp (List.all_eq_true.mp h p hp)
    simp only [Bool.and_eq_true, decide_eq_true_eq] at h2 h3
    have : sy_may W2 k i = true := List.any_eq_true.mpr ⟨q, hq, by
      simp only [Bool.and_eq_true, decide_eq_true_eq]
      omega⟩
    rw [this] at hm
    cases hm
/-- a fact that a contract does not touch -/
def sy_unt (Wr : sy_Wr) (R : sy_T) (f : sy_Fa) : Bool := Wr.all (fun p => !(p.1 == f.1) || (match sy_b R f.2.1 with
  | some b => decide (b.2 < (p.2.1 : Int)) || decide ((p.2.2 : Int) ≤ b.1)
  | none => false))
theorem sy_unt_ok {Wr : sy_Wr} {R : sy_T} {f : sy_Fa} {ρ : Nat → Int} (h : sy_ok ρ R) (hu : sy_unt Wr R f = true) (h0 : 0 ≤ sy_e ρ f.2.1) : sy_may Wr f.1 (sy_e ρ f.2.1).toNat = false := by
  cases h1 : sy_may Wr f.1 (sy_e ρ f.2.1).toNat with
  | false => rfl
  | true =>
    obtain ⟨p, hp, h2⟩ := List.any_eq_true.mp h1
    have h3 := List.all_eq_true.mp hu p hp
    simp only [Bool.and_eq_true, decide_eq_true_eq] at h2
    rw [h2.1] at h3
    simp only [beq_self_eq_true, Bool.not_true, Bool.false_or] at h3
    split at h3
    · rename_i b hb
      have := sy_b_e h hb
      rw [Bool.or_eq_true, decide_eq_true_eq, decide_eq_true_eq] at h3
      omega
    · cases h3
/-- the state behind a contract's end -/
def sy_σ2 (S : sy_S) (C : sy_Co) (σ : List sy_L) (p : sy_Po) : List sy_L := σ ++ (List.range (p.1.1.length - C.2.1.1.length)).map (fun i => sy_x (S.1.1.length + i))
def sy_σL2 (S : sy_S) (p : sy_Po) : List Nat := (List.range p.1.2.1).map (fun i => S.1.2.1 + i)
def sy_sbF (σ : List sy_L) (σL : List Nat) (f : sy_Fa) : Option sy_Fa := match sy_sb σ f.2.1, sy_sbA σ σL f.2.2 with
  | some a, some b => some (f.1, a, b)
  | _, _ => none
def sy_ag (S : sy_S) (C : sy_Co) (σ : List sy_L) (p : sy_Po) : sy_G := (S.1.1 ++ p.1.1.drop C.2.1.1.length, S.1.2.1 + p.1.2.1, S.1.2.2.1 ++ p.1.2.2.1.filterMap (sy_sb (sy_σ2 S C σ p)), p.1.2.2.2.filterMap (sy_sbF (sy_σ2 S C σ p) (sy_σL2 S p)) ++ S.1.2.2.2.filter (sy_unt C.2.2.2.1 S.1.1))
def sy_aft (S : sy_S) (C : sy_Co) (σ : List sy_L) (rest : List sy_A) (p : sy_Po) : Option sy_S :=
  match p.2 with
  | none => some (sy_at S (sy_ag S C σ p) (S.2.1.2.1 + 3) S.2.1.2.2.1 rest)
  | some a => (sy_sbA (sy_σ2 S C σ p) (sy_σL2 S p) a).map (fun v => sy_at S (sy_ag S C σ p) (S.2.1.2.1 + 3) S.2.1.2.2.1 (v :: rest))
section US
variable {x : sy_X} {q : sy_Q} {S : sy_S} {M M' : px_M}
theorem sy_goMet {i : Instr} {len : Nat} {z : Nat × List sy_A × List sy_A} {C : sy_Co} {σ : List sy_L} {σL : List Nat} (hC : sy_Met x.1 x.2.1 x.2.2.1 q.2.1 x.2.2.2.2.1 C) (hw : sy_wS S = true) (hM : q.1[S.2.1.1]? = some M) (hq : px_look M.2.1 S.2.1.2.1 = some (i, len)) (hz : sy_cl x.1 q.2.1 x.2.2.1 i len M.2.2 S.2.1.2.2.2 = some z) (hj : z.1 = C.1) (hM' : x.2.2.1[z.1]? = some M') (hlen : sy_len z.2.1 ≤ M'.1.2.2.1) (hdep : S.2.2.length + 1 + C.2.2.2.2.1 ≤ x.2.2.2.2.2.2)
    (hfit : sy_fitG S.1 σ σL C.2.1 = true) (hσ : σ.length = C.2.1.1.length) (hσw : σ.all (sy_wl S.1.1.length) = true) (has : sy_eqs S.1.1 σ σL z.2.1 C.2.2.1 = true) (hWr : sy_wsub C.2.2.2.1 q.2.2.1 = true) (hjc : sy_jc C.2.2.2.1 q.2.2.1 = true) (hrw : z.2.2.all (sy_wa S.1.1.length S.1.2.1) = true)
    (hG : ∀ p ∈ C.2.2.2.2.2, C.2.1.1.length ≤ p.1.1.length ∧ ∃ S', sy_aft S C σ z.2.2 p = some S' ∧ sy_Good x q S') : sy_Good x q S := by
  refine sy_open (fun ρ τ w lc cf d hm hl hf hd => ?_) hM
  have hcf : S.2.2.length = cf.length := by
    have key : ∀ (fs : List sy_Fr) (cs : List pf_F), sy_frs ρ τ q.1 fs cs → fs.length = cs.length := by
      intro fs
      induction fs with
      | nil =>
        intro cs h
        cases cs with
        | nil => rfl
        | cons => exact h.elim
      | cons f fs ih =>
        intro cs h
        cases cs with
        | nil => exact h.elim
        | cons c cs => rw [List.length_cons, List.length_cons, ih cs h.2]
    exact key _ _ hf
  obtain ⟨⟨m1, m1'⟩, m2, m3, m4, m5, m6⟩ := id hm
  obtain ⟨c0, c3, c6, c4⟩ := sy_cl_ok (ρ := ρ) (τ := τ) (d := d) m5 hz
  obtain ⟨g1, g2, g3⟩ := sy_fitG_ok m2 m3 m4 hfit
  have hargs := sy_eqs_ok (τ := τ) m2 _ _ has
  cases d with
  | zero => omega
  | succ d =>
    obtain ⟨n, v, w', hx, k1, k2, p, hp, ρ', τ', r1, r2, r3, r4, r5⟩ := hC M' (by rw [← hj]; exact hM') (sy_ρ ρ σ) (sy_τ τ σL) w d g1 g2 g3 m5 (sy_jc_pre hjc m6.2) (by omega)
    obtain ⟨n1, S', hS', hGood⟩ := hG p hp
    have hstep := px_step_4 (cl := x.1) (lt := x.2.1) (P := x.2.2.1) (d := d + 1) (scr := pf_scr x.2.2.2.1 cf) (lv := lc) hq c0 c3 c6 c4
    rw [← hargs] at hx
    refine pf_met hstep hM' (by rw [sy_len_ok]; exact hlen) hx ?_
    -- the new symbols
    let ρS : Nat → Int := fun i => if i < S.1.1.length then ρ i else ρ' (C.2.1.1.length + (i - S.1.1.length))
    let τS : Nat → Int64 := fun i => if i < S.1.2.1 then τ i else τ' (i - S.1.2.1)
    have hag : ∀ i, i < S.1.1.length → ρS i = ρ i := fun i hi => if_pos hi
    have hal : ∀ i, i < S.1.2.1 → τS i = τ i := fun i hi => if_pos hi
    have hlen2 : (sy_σ2 S C σ p).length = p.1.1.length := by
      unfold sy_σ2
      rw [List.length_append, List.length_map, List.length_range, hσ]
      omega
    have hal2 : ∀ i, i < (sy_σL2 S p).length → τ' i = sy_τ τS (sy_σL2 S p) i := by
      intro i hi
      unfold sy_σL2 at hi
      rw [List.length_map, List.length_range] at hi
      unfold sy_τ sy_σL2
      rw [List.getElem?_map, List.getElem?_range hi]
      show τ' i = if S.1.2.1 + i < S.1.2.1 then _ else τ' (S.1.2.1 + i - S.1.2.1)
      rw [if_neg (by omega), Nat.add_sub_cancel_left]
    have hag2 : ∀ i, i < (sy_σ2 S C σ p).length → ρ' i = sy_ρ ρS (sy_σ2 S C σ p) i := by
      intro i hi
      rw [hlen2] at hi
      unfold sy_ρ sy_σ2
      by_cases hi0 : i < C.2.1.1.length
      · rw [List.getElem?_append_left (by omega), r1 i hi0]
        unfold sy_ρ
        cases hs : σ[i]? with
        | none => rfl
        | some f =>
          show sy_e ρ f = sy_e ρS f
          exact (sy_ext_l hag (List.all_eq_true.mp hσw f (List.mem_of_getElem? hs))).symm
      · rw [List.getElem?_append_right (by omega), hσ, List.getElem?_map, List.getElem?_range (by omega)]
        show ρ' i = sy_e ρS (sy_x (S.1.1.length + (i - C.2.1.1.length)))
        rw [sy_x_e]
        show ρ' i = if S.1.1.length + (i - C.2.1.1.length) < S.1.1.length then _ else ρ' (C.2.1.1.length + (S.1.1.length + (i - C.2.1.1.length) - S.1.1.length))
        rw [if_neg (by omega), show C.2.1.1.length + (S.1.1.length + (i - C.2.1.1.length) - S.1.1.length) = i by omega]
    unfold sy_wS sy_wg at hw
    simp only [Bool.and_eq_true] at hw
    obtain ⟨⟨hw1, hw2⟩, hw3, hw4⟩ := hw
    have hmem : sy_mem q (sy_ag S C σ p) ρS τS w' := by
      refine ⟨⟨?_, fun i hi => ?_⟩, fun i pr hpr => ?_, fun e he => ?_, fun f hf2 => ?_, k1, fun k i hk => (k2.1 k i (sy_wsub_ok hWr hk)).trans (m6.1 k i hk), sy_jc_ok hjc m6.2 k2⟩
      · show _ ≤ (S.1.1 ++ p.1.1.drop C.2.1.1.length).length
        rw [List.length_append]
        omega
      · rw [hag i (by omega)]
        exact m1' i hi
      · have hp' : (S.1.1 ++ p.1.1.drop C.2.1.1.length)[i]? = some pr := hpr
        by_cases hi : i < S.1.1.length
        · rw [List.getElem?_append_left hi] at hp'
          rw [hag i hi]
          exact m2 i pr hp'
        · rw [List.getElem?_append_right (by omega), List.getElem?_drop] at hp'
          have e : ρS i = ρ' (C.2.1.1.length + (i - S.1.1.length)) := if_neg hi
          rw [e]
          exact r2 _ pr hp'
      · rcases List.mem_append.mp he with h1 | h1
        · rw [sy_ext_l hag (List.all_eq_true.mp hw1 e h1)]
          exact m3 e h1
        · obtain ⟨c, hc, hce⟩ := List.mem_filterMap.mp h1
          rw [sy_sb_to hag2 hce]
          exact r3 c hc
      · rcases List.mem_append.mp hf2 with h1 | h1
        · obtain ⟨f0, hf0, hfe⟩ := List.mem_filterMap.mp h1
          unfold sy_sbF at hfe
          split at hfe
          · rename_i a b ha hb
            cases hfe
            show 0 ≤ sy_e ρS a ∧ sy_get w' f0.1 (sy_e ρS a).toNat = some (sy_v ρS τS b)
            rw [sy_sb_to hag2 ha, sy_sbA_to hag2 hal2 hb]
            exact r4 f0 hf0
          · cases hfe
        · obtain ⟨h2, hu⟩ := List.mem_filter.mp h1
          have hf3 := List.all_eq_true.mp hw2 f h2
          rw [Bool.and_eq_true] at hf3
          have h4 := m4 f h2
          rw [sy_ext_l hag hf3.1, sy_ext_a hag hal hf3.2, k2.1 f.1 _ (sy_unt_ok m2 hu h4.1)]
          exact h4
    have hlS : sy_lvok ρS τS S.2.1.2.2.1 lc := by
      unfold sy_wf at hw3
      simp only [Bool.and_eq_true, List.all_eq_true] at hw3
      intro y hy
      rw [sy_ext_a hag hal (hw3.1 y hy)]
      exact hl y hy
    have hfS := sy_ext_fs hag hal hw4 hf
    have hrest : z.2.2.map (sy_v ρ τ) = z.2.2.map (sy_v ρS τS) := List.map_congr_left (fun a ha => (sy_ext_a hag hal (List.all_eq_true.mp hrw a ha)).symm)
    unfold sy_aft at hS'
    rw [r5]
    show pf_Fin _ _ _ _ _ _ cf (d + 1) M (S.2.1.2.1 + 3) lc ((p.2.map (sy_v ρ' τ')).toList ++ z.2.2.map (sy_v ρ τ)) w'
    rw [hrest]
    split at hS'
    · rename_i hp2
      cases hS'
      rw [hp2]
      exact sy_use hGood hM hmem hlS hfS hd
    · rename_i a hp2
      obtain ⟨b, hb, he⟩ := Option.map_eq_some_iff.mp hS'
      cases he
      rw [hp2]
      have hv : sy_v ρS τS b = sy_v ρ' τ' a := sy_sbA_to hag2 hal2 hb
      have h9 := sy_use hGood hM hmem hlS hfS hd
      rw [List.map_cons, hv] at h9
      exact h9
end US

end
end
section
noncomputable section
/-! THE WAYS OUT OF A STATE, BY PROGRAM -/
def sy_S1 (x : sy_X) (q : sy_Q) (S : sy_S) (l : List sy_S) : Prop := (∀ S' ∈ l, sy_Good x q S') → sy_Good x q S
def sy_opt (S : sy_S) (g : Option sy_G) (pc : Nat) (r : List sy_A) : List sy_S := match g with
  | some g' => [sy_at S g' pc S.2.1.2.2.1 r]
  | none => []
theorem sy_opt_mem {S : sy_S} {g : Option sy_G} {pc : Nat} {r : List sy_A} {g' : sy_G} (h : g = some g') : sy_at S g' pc S.2.1.2.2.1 r ∈ sy_opt S g pc r := by
  subst h
  exact List.mem_cons_self
theorem sy_or_some {α : Type} {a b : Option α} {z : α} (h : px_or a b = some z) : a = some z ∨ b = some z := by
  unfold px_or at h
  split at h
  · exact .inl h
  · exact .inr h
section SU
variable {x : sy_X} {q : sy_Q} {S : sy_S} {M : px_M} {i : Instr} {len : Nat} {l : List sy_S}
def sy_u1 (M : px_M) (i : Instr) (len : Nat) (S : sy_S) : Option (List sy_S) := (sy_1 i len S.2.1.2.1 M.1.2.2.1 S.2.1.2.2.1 S.2.1.2.2.2).map (fun z => [sy_at S S.1 z.1 z.2.1 z.2.2])
theorem sy_u1_ok (hM : q.1[S.2.1.1]? = some M) (hq : px_look M.2.1 S.2.1.2.1 = some (i, len)) (h : sy_u1 M i len S = some l) : sy_S1 x q S l := by
  obtain ⟨z, hz, rfl⟩ := Option.map_eq_some_iff.mp h
  exact fun hG => sy_go1 hM hq hz (hG _ List.mem_cons_self)
def sy_uK (lt : List (List Int32)) (A : List sy_Ce) (M : px_M) (i : Instr) (len : Nat) (S : sy_S) : Option (List sy_S) := (sy_k lt A i len M.2.2 S.2.1.2.2.2).map (fun z => [sy_at S S.1 (S.2.1.2.1 + len) S.2.1.2.2.1 z])
theorem sy_uK_ok (hM : q.1[S.2.1.1]? = some M) (hq : px_look M.2.1 S.2.1.2.1 = some (i, len)) (h : sy_uK x.2.1 q.2.1 M i len S = some l) : sy_S1 x q S l := by
  obtain ⟨z, hz, rfl⟩ := Option.map_eq_some_iff.mp h
  exact fun hG => sy_goK hM hq hz (hG _ List.mem_cons_self)
/-- branches -/
def sy_uB (i : Instr) (len : Nat) (S : sy_S) : Option (List sy_S) := match i, S.2.1.2.2.2 with
  | .ifCond k off, .inl e :: r => if len = 3 then (px_tgt S.2.1.2.1 off).map (fun t => sy_opt S (sy_two S.1 k e (sy_c 0)).1 t r ++ sy_opt S (sy_two S.1 k e (sy_c 0)).2 (S.2.1.2.1 + 3) r) else none
  | .if_icmp k off, .inl b :: .inl a :: r => if len = 3 then (px_tgt S.2.1.2.1 off).map (fun t => sy_opt S (sy_two S.1 k a b).1 t r ++ sy_opt S (sy_two S.1 k a b).2 (S.2.1.2.1 + 3) r) else none
  | .tableswitch dflt lo hi offs, .inl e :: r => (match px_tgt S.2.1.2.1 dflt, sy_b S.1.1 e, sy_tab S.1 e lo S.2.1.2.1 offs.toList 0 with
    | some t, some b, some l => if sy_fit b = true ∧ offs.size = (hi - lo + 1).toNat then some (l.map (fun z => sy_at S z.1 z.2 S.2.1.2.2.1 r) ++ (sy_opt S (sy_asm S.1 (sy_add (sy_sub (sy_c lo) e) (sy_c (-1)))) t r ++ sy_opt S (sy_asm S.1 (sy_add (sy_sub e (sy_c hi)) (sy_c (-1)))) t r)) else none
    | _, _, _ => none)
  | _, _ => none
theorem sy_uB_ok (hM : q.1[S.2.1.1]? = some M) (hq : px_look M.2.1 S.2.1.2.1 = some (i, len)) (h : sy_uB i len S = some l) : sy_S1 x q S l := by
  intro hG
  unfold sy_uB at h
  split at h
  · rename_i k off e r hst
    split at h
    · rename_i h3
      subst h3
      obtain ⟨t, ht, rfl⟩ := Option.map_eq_some_iff.mp h
      exact sy_goIf hM hq hst ht (fun g' hg => hG _ (List.mem_append_left _ (sy_opt_mem hg))) (fun g' hg => hG _ (List.mem_append_right _ (sy_opt_mem hg)))
    · cases h
  · rename_i k off b a r hst
    split at h
    · rename_i h3
      subst h3
      obtain ⟨t, ht, rfl⟩ := Option.map_eq_some_iff.mp h
      exact sy_goCmp hM hq hst ht (fun g' hg => hG _ (List.mem_append_left _ (sy_opt_mem hg))) (fun g' hg => hG _ (List.mem_append_right _ (sy_opt_mem hg)))
    · cases h
  · rename_i dflt lo hi offs e r hst
    split at h
    · rename_i t b l0 ht hb hl
      split at h
      · rename_i hc
        cases h
        exact sy_goTab hM hq hst ht hb hc.1 hc.2 hl (fun z hz => hG _ (List.mem_append_left _ (List.mem_map.mpr ⟨z, hz, rfl⟩))) (fun g' hg => hG _ (List.mem_append_right _ (List.mem_append_left _ (sy_opt_mem hg)))) (fun g' hg => hG _ (List.mem_append_right _ (List.mem_append_right _ (sy_opt_mem hg))))
      · cases h
    · cases h
  · cases h
/-- arithmetic that is no form -/
def sy_uA (i : Instr) (len : Nat) (S : sy_S) : Option (List sy_S) := if len = 1 ∧ sy_wS S = true then px_or (match S.2.1.2.2.2 with
    | .inl b :: .inl a :: r => if px_so1 i = 1 then (sy_bn S.1.1 i a b).map (fun rg => [sy_at S (sy_new S.1 rg) (S.2.1.2.1 + 1) S.2.1.2.2.1 (.inl (sy_x S.1.1.length) :: r)]) else none
    | _ => none) (px_or (match S.2.1.2.2.2 with
    | a :: r => (sy_u i a).map (fun rg => [sy_at S (sy_new S.1 rg) (S.2.1.2.1 + 1) S.2.1.2.2.1 (.inl (sy_x S.1.1.length) :: r)])
    | _ => none) ((sy_ul i S.2.1.2.2.2).map (fun z => [sy_at S (S.1.1, S.1.2.1 + 1, S.1.2.2) (S.2.1.2.1 + 1) S.2.1.2.2.1 (.inr (.inr S.1.2.1) :: z.2)]))) else none
theorem sy_uA_ok (hM : q.1[S.2.1.1]? = some M) (hq : px_look M.2.1 S.2.1.2.1 = some (i, len)) (h : sy_uA i len S = some l) : sy_S1 x q S l := by
  intro hG
  unfold sy_uA at h
  split at h
  · rename_i hc
    obtain ⟨h1, hw⟩ := hc
    subst h1
    rcases sy_or_some h with h | h
    · split at h
      · rename_i b a r hst
        split at h
        · rename_i h1
          obtain ⟨rg, hr, rfl⟩ := Option.map_eq_some_iff.mp h
          exact sy_goBin hw hM hq h1 hst hr (hG _ List.mem_cons_self)
        · cases h
      · cases h
    · rcases sy_or_some h with h | h
      · split at h
        · rename_i a r hst
          obtain ⟨rg, hr, rfl⟩ := Option.map_eq_some_iff.mp h
          exact sy_goU hw hM hq hst hr (hG _ List.mem_cons_self)
        · cases h
      · obtain ⟨z, hz, rfl⟩ := Option.map_eq_some_iff.mp h
        exact sy_goUL hw hM hq hz (hG _ List.mem_cons_self)
  · cases h
/-- a known value, under another form of its place -/
def sy_addF (S : sy_S) (f : sy_Fa) : sy_S := ((S.1.1, S.1.2.1, S.1.2.2.1, f :: S.1.2.2.2), S.2)
theorem sy_goAddF {f : sy_Fa} {ix : sy_L} {t : Bool} (hf : f ∈ S.1.2.2.2) (he : sy_eq2 t S.1.1 S.1.2.2.1 f.2.1 ix = true) (hG : sy_Good x q (sy_addF S (f.1, sy_nm S.1.1 ix, f.2.2))) : sy_Good x q S := by
  intro ρ τ w c cf d hR hd
  obtain ⟨⟨m1, m2, m3, m4, m5⟩, h2⟩ := hR
  refine hG ρ τ w c cf d ⟨⟨m1, m2, m3, fun f' hf' => ?_, m5⟩, h2⟩ hd
  rcases List.mem_cons.mp hf' with rfl | h
  · have := m4 f hf
    show 0 ≤ sy_e ρ (sy_nm S.1.1 ix) ∧ sy_get w f.1 (sy_e ρ (sy_nm S.1.1 ix)).toNat = some (sy_v ρ τ f.2.2)
    rw [sy_nm_e m2, ← sy_eq2_e m2 m3 he]
    exact this
  · exact m4 f' h
def sy_uR (A : List sy_Ce) (M : px_M) (i : Instr) (len : Nat) (S : sy_S) : Option (List sy_S) := match i, S.2.1.2.2.2 with
  | .iaload, .inl ix :: .inr (.inl a) :: r => if len = 1 ∧ 64 ≤ a ∧ sy_wS S = true then (match A[a - 64]? with
    | some (.inl (n, sg)) => if n ≤ 2147483647 then (match S.1.2.2.2.find? (fun f => f.1 == a - 64 && sy_eq2 (sy_spr S.2.1.1 (a - 64)) S.1.1 S.1.2.2.1 f.2.1 ix) with
      | some (k, fx, .inl e) => some [sy_at (sy_addF S (k, sy_nm S.1.1 ix, .inl e)) (sy_addF S (k, sy_nm S.1.1 ix, .inl e)).1 (S.2.1.2.1 + 1) S.2.1.2.2.1 (.inl e :: r)]
      | _ => (match sy_b S.1.1 ix, sy_rd S.1.1 sg ix with
        | some b, some rg => if 0 ≤ b.1 ∧ b.2 < (n : Int) ∧ sy_wl S.1.1.length (sy_nm S.1.1 ix) = true then some [sy_at S (S.1.1 ++ [rg], S.1.2.1, S.1.2.2.1, (a - 64, sy_nm S.1.1 ix, .inl (sy_x S.1.1.length)) :: S.1.2.2.2) (S.2.1.2.1 + 1) S.2.1.2.2.1 (.inl (sy_x S.1.1.length) :: r)] else none
        | _, _ => none)) else none
    | _ => none) else none
  | .getfield idx, .inr (.inl a) :: r => if len = 3 ∧ 64 ≤ a ∧ sy_wS S = true then (match A[a - 64]?, px_look M.2.2.1 idx with
    | some (.inr (.inr (ci, sl))), some (cj, s0) => if ci = cj then (match S.1.2.2.2.find? (fun f => decide (f.1 = a - 64) && decide (f.2.1 = sy_c s0)) with
      | some f => some [sy_at S S.1 (S.2.1.2.1 + 3) S.2.1.2.2.1 (f.2.2 :: r)]
      | none => (match sl[s0]? with
        | some (.inl rg) => some [sy_at S (S.1.1 ++ [rg], S.1.2.1, S.1.2.2.1, (a - 64, sy_c s0, .inl (sy_x S.1.1.length)) :: S.1.2.2.2) (S.2.1.2.1 + 3) S.2.1.2.2.1 (.inl (sy_x S.1.1.length) :: r)]
        | some (.inr b) => some [sy_at S S.1 (S.2.1.2.1 + 3) S.2.1.2.2.1 (.inr (.inl b) :: r)]
        | none => none)) else none
    | _, _ => none) else none
  | _, _ => none
theorem sy_uR_ok (hM : q.1[S.2.1.1]? = some M) (hq : px_look M.2.1 S.2.1.2.1 = some (i, len)) (h : sy_uR q.2.1 M i len S = some l) : sy_S1 x q S l := by
  intro hG
  unfold sy_uR at h
  split at h
  · rename_i ix a r hst
    split at h
    · rename_i hc
      obtain ⟨h1, ha, hw⟩ := hc
      subst h1
      split at h
      · rename_i n sg hA
        split at h
        · rename_i hn
          split at h
          · rename_i k fx e hfind
            cases h
            have hm := List.mem_of_find?_eq_some hfind
            have hp := List.find?_some hfind
            rw [Bool.and_eq_true] at hp
            have hk : k = a - 64 := eq_of_beq hp.1
            refine sy_goAddF hm hp.2 ?_
            have hG0 := hG _ List.mem_cons_self
            refine sy_goIaldK (S := sy_addF S (k, sy_nm S.1.1 ix, .inl e)) hM hq hst ha hA hn ?_ hG0
            rw [← hk]
            exact List.mem_cons_self
          · split at h
            · rename_i b rg hb hr
              split at h
              · rename_i hc
                cases h
                exact sy_goIald hw hM hq hst ha hA hn hb hc.1 hc.2.1 hr (hG _ List.mem_cons_self) hc.2.2
              · cases h
            · cases h
        · cases h
      · cases h
    · cases h
  · rename_i idx a r hst
    split at h
    · rename_i hc
      obtain ⟨h1, ha, hw⟩ := hc
      subst h1
      split at h
      · rename_i ci sl cj s0 hA hL
        split at h
        · rename_i hcc
          subst hcc
          split at h
          · rename_i f hfind
            cases h
            have hm := List.mem_of_find?_eq_some hfind
            have hp := List.find?_some hfind
            simp only [Bool.and_eq_true, decide_eq_true_eq] at hp
            refine sy_goGetK hM hq hst ha hA hL (.inl ?_) (hG _ List.mem_cons_self)
            rw [← hp.1, ← hp.2]
            exact hm
          · split at h
            · rename_i rg hr
              cases h
              exact sy_goGetI hw hM hq hst ha hA hL hr (hG _ List.mem_cons_self)
            · rename_i b hr
              cases h
              exact sy_goGetK hM hq hst ha hA hL (.inr ⟨b, rfl, hr⟩) (hG _ List.mem_cons_self)
            · cases h
        · cases h
      · cases h
    · cases h
  · cases h
/-- writes -/
def sy_same (A : List sy_Ce) (R : sy_T) (F : List sy_Fa) (sg : sy_Sg) (ix e : sy_L) : Bool := F.any (fun f => decide (f.2.2 = .inl e) && (sy_eq R f.2.1 ix && (match A[f.1]? with
  | some (.inl z) => decide (z.2 = sg)
  | _ => false)))
theorem sy_same_ok {sg : sy_Sg} {ix e : sy_L} (h : sy_same q.2.1 S.1.1 S.1.2.2.2 sg ix e = true) (ρ : Nat → Int) (τ : Nat → Int64) (w : px_W) (hm : sy_mem q S.1 ρ τ w) : sy_in (sy_seg sg (sy_e ρ ix).toNat) (Int32.ofInt (sy_e ρ e)) := by
  obtain ⟨f, hf, h2⟩ := List.any_eq_true.mp h
  simp only [Bool.and_eq_true, decide_eq_true_eq] at h2
  obtain ⟨h3, h4, h5⟩ := h2
  obtain ⟨m1, m2, m3, m4, m5, m6⟩ := hm
  split at h5
  · rename_i z hz
    obtain ⟨n, sg2⟩ := z
    have h6 : sg2 = sg := of_decide_eq_true h5
    subst h6
    obtain ⟨l, l1, l2, l3⟩ := sy_cell_i m5 hz
    have h7 := (m4 f hf).2
    rw [h3, sy_getI l1, sy_eq_e m2 h4] at h7
    obtain ⟨v, hv, he⟩ := Option.map_eq_some_iff.mp h7
    have h8 : v = Int32.ofInt (sy_e ρ e) := by
      injection he
    rw [← h8]
    exact l3 _ v hv
  · cases h5
def sy_ub (R : sy_T) (e : sy_L) (n : Int) : Bool := match sy_b R e with
  | some b => decide (b.2 < n)
  | none => false
def sy_isK (R : sy_T) (a : sy_A) (v : Int) : Bool := match a with
  | .inl e => decide (sy_b R e = some (v, v))
  | _ => false
/-- a value of the row that was kept, onto its place in the row -/
def sy_sm4 (Wr : sy_Wr) (R : sy_T) (F : List sy_Fa) (sg : sy_Sg) (ix e : sy_L) : Bool := (sy_js Wr).contains 4 && (decide (sg = sy_D) && (sy_ub R ix 1580 && (F.any (fun f => decide (f.1 = 151) && (decide (f.2.1 = sy_c 2) && sy_isK R f.2.2 1)) && F.any (fun f => decide (f.1 = 153) && (decide (f.2.2 = .inl e) && sy_eq R f.2.1 ix)))))
theorem sy_sm4_ok {sg : sy_Sg} {ix e : sy_L} (h : sy_sm4 q.2.2.1 S.1.1 S.1.2.2.2 sg ix e = true) (ρ : Nat → Int) (τ : Nat → Int64) (w : px_W) (hm : sy_mem q S.1 ρ τ w) : sy_in (sy_seg sg (sy_e ρ ix).toNat) (Int32.ofInt (sy_e ρ e)) := by
  unfold sy_sm4 at h
  simp only [Bool.and_eq_true, decide_eq_true_eq] at h
  obtain ⟨h1, h2, h3, h4, h5⟩ := h
  subst h2
  obtain ⟨m1, m2, m3, m4, m5, m6⟩ := hm
  have hj : sy_jp 4 w := m6.2 4 (by simpa using h1)
  obtain ⟨f, hf, f1⟩ := List.any_eq_true.mp h4
  obtain ⟨g, hg, g1⟩ := List.any_eq_true.mp h5
  simp only [Bool.and_eq_true, decide_eq_true_eq] at f1 g1
  obtain ⟨f2, f3, f4⟩ := f1
  obtain ⟨g2, g3, g4⟩ := g1
  obtain ⟨a1, a2⟩ := m4 f hf
  obtain ⟨b1, b2⟩ := m4 g hg
  rw [f2, f3, sy_c_e] at a2
  have hk : sy_get w 151 2 = some (.int 1) := by
    unfold sy_isK at f4
    split at f4
    · rename_i z hz
      have := sy_b_e m2 (of_decide_eq_true f4)
      rw [hz] at a2
      have a3 : sy_get w 151 2 = some (.int (Int32.ofInt (sy_e ρ z))) := a2
      rw [a3, show sy_e ρ z = 1 by dsimp only at this; omega]
      rfl
    · cases f4
  have hix := sy_eq_e m2 g4
  rw [g2, g3, hix] at b2
  rw [hix] at b1
  have hlt : (sy_e ρ ix).toNat < 1580 := by
    unfold sy_ub at h3
    split at h3
    · rename_i b hb
      have := sy_b_e m2 hb
      have := of_decide_eq_true h3
      omega
    · cases h3
  obtain ⟨x0, x1, x2⟩ := (hj hk).1 _ hlt
  rw [x1] at b2
  have b3 : Value.int x0 = Value.int (Int32.ofInt (sy_e ρ e)) := Option.some.inj b2
  have b4 : x0 = Int32.ofInt (sy_e ρ e) := by injection b3
  rw [← b4]
  exact x2
def sy_uW (cl : List vw_C) (A : List sy_Ce) (Wr : sy_Wr) (M : px_M) (i : Instr) (len : Nat) (S : sy_S) : Option (List sy_S) := match i, S.2.1.2.2.2 with
  | .iastore, .inl e :: .inl ix :: .inr (.inl a) :: r => if len = 1 ∧ 64 ≤ a then (match A[a - 64]?, sy_b S.1.1 ix with
    | some (.inl (n, sg)), some b => if n ≤ 2147483647 ∧ 0 ≤ b.1 ∧ b.2 < (n : Int) ∧ (sy_wr S.1.1 sg ix (sy_vb S.1.1 e) || (sy_same A S.1.1 S.1.2.2.2 sg ix e || sy_sm4 Wr S.1.1 S.1.2.2.2 sg ix e)) = true ∧ sy_mayI Wr (a - 64) b = true ∧ sy_jw Wr (a - 64) b.1 b.2 = true then some [sy_at S (S.1.1, S.1.2.1, S.1.2.2.1, (a - 64, sy_nm S.1.1 ix, .inl e) :: sy_drop S.1.1 S.1.2.2.1 (a - 64) ix S.1.2.2.2) (S.2.1.2.1 + 1) S.2.1.2.2.1 r] else none
    | _, _ => none) else none
  | .putfield idx, .inl e :: .inr (.inl a) :: r => if len = 3 ∧ 64 ≤ a then (match A[a - 64]?, px_look M.2.2.1 idx with
    | some (.inr (.inr (ci, sl))), some (cj, s0) => if ci = cj then (match cl[ci]?, sl[s0]? with
      | some k, some (.inl rg) => if sy_ft (px_ty k.2.1 s0) (sy_vb S.1.1 e) = true ∧ (k.2.1 s0).2.2.2 = false ∧ rg.1 ≤ (sy_vb S.1.1 e).1 ∧ (sy_vb S.1.1 e).2 ≤ rg.2 ∧ sy_may Wr (a - 64) s0 = true ∧ sy_jw Wr (a - 64) s0 s0 = true then some [sy_at S (S.1.1, S.1.2.1, S.1.2.2.1, (a - 64, sy_c s0, .inl e) :: sy_drop S.1.1 S.1.2.2.1 (a - 64) (sy_c s0) S.1.2.2.2) (S.2.1.2.1 + 3) S.2.1.2.2.1 r] else none
      | _, _ => none) else none
    | _, _ => none) else none
  | _, _ => none
theorem sy_uW_ok (hM : q.1[S.2.1.1]? = some M) (hq : px_look M.2.1 S.2.1.2.1 = some (i, len)) (h : sy_uW x.1 q.2.1 q.2.2.1 M i len S = some l) : sy_S1 x q S l := by
  intro hG
  unfold sy_uW at h
  split at h
  · rename_i e ix a r hst
    split at h
    · rename_i hc
      obtain ⟨h1, ha⟩ := hc
      subst h1
      split at h
      · rename_i n sg b hA hb
        split at h
        · rename_i hc
          cases h
          refine sy_goIast hM hq hst ha hA hc.1 hb hc.2.1 hc.2.2.1 (fun ρ τ w hm => ?_) hc.2.2.2.2.1 hc.2.2.2.2.2 (hG _ List.mem_cons_self)
          rcases Bool.or_eq_true _ _ ▸ hc.2.2.2.1 with h1 | h1
          · exact sy_wr_ok hm.2.1 h1 (sy_vb_ok hm.2.1 e)
          · rcases Bool.or_eq_true _ _ ▸ h1 with h1 | h1
            · exact sy_same_ok h1 ρ τ w hm
            · exact sy_sm4_ok h1 ρ τ w hm
        · cases h
      · cases h
    · cases h
  · rename_i idx e a r hst
    split at h
    · rename_i hc
      obtain ⟨h1, ha⟩ := hc
      subst h1
      split at h
      · rename_i ci sl cj s0 hA hL
        split at h
        · rename_i hcc
          subst hcc
          split at h
          · rename_i k rg hk hr
            split at h
            · rename_i hc
              cases h
              exact sy_goPut hM hq hst ha hA hL hk hc.1 hc.2.1 hr hc.2.2.1 hc.2.2.2.1 hc.2.2.2.2.1 hc.2.2.2.2.2 (hG _ List.mem_cons_self)
            · cases h
          · cases h
        · cases h
      · cases h
    · cases h
  · cases h
/-- returns to a caller -/
def sy_uV (M : px_M) (i : Instr) (len : Nat) (S : sy_S) : Option (List sy_S) := match S.2.2 with
  | f :: fs => (sy_rt S.1.1 i len M.1.2.2.2.1 S.2.1.2.2.2).map (fun v => [(S.1, (f.1, f.2.1, f.2.2.1, v.toList ++ f.2.2.2), fs)])
  | [] => none
theorem sy_uV_ok (hM : q.1[S.2.1.1]? = some M) (hq : px_look M.2.1 S.2.1.2.1 = some (i, len)) (h : sy_uV M i len S = some l) : sy_S1 x q S l := by
  intro hG
  unfold sy_uV at h
  split at h
  · rename_i f fs hfs
    obtain ⟨v, hv, rfl⟩ := Option.map_eq_some_iff.mp h
    exact sy_goBack hM hq hv hfs (hG _ List.mem_cons_self)
  · cases h
/-- calls in place -/
def sy_uC (cl : List vw_C) (P : List px_M) (A : List sy_Ce) (D : Nat) (M : px_M) (i : Instr) (len : Nat) (S : sy_S) : Option (List sy_S) := (sy_cl cl A P i len M.2.2 S.2.1.2.2.2).bind (fun z => (P[z.1]?).bind (fun M' => if sy_len z.2.1 ≤ M'.1.2.2.1 ∧ S.2.2.length + 1 ≤ D then some [(S.1, (z.1, 0, sy_args 0 z.2.1, []), (S.2.1.1, S.2.1.2.1 + 3, S.2.1.2.2.1, z.2.2) :: S.2.2)] else none))
theorem sy_uC_ok {D : Nat} (hD : D ≤ x.2.2.2.2.2.2) (hP : q.1 = x.2.2.1) (hM : q.1[S.2.1.1]? = some M) (hq : px_look M.2.1 S.2.1.2.1 = some (i, len)) (h : sy_uC x.1 x.2.2.1 q.2.1 D M i len S = some l) : sy_S1 x q S l := by
  intro hG
  obtain ⟨z, hz, h1⟩ := Option.bind_eq_some_iff.mp h
  obtain ⟨M', hM', h2⟩ := Option.bind_eq_some_iff.mp h1
  split at h2
  · rename_i hc
    cases h2
    exact sy_goCall hM hq hz hM' (by rw [hP]; exact hM') hc.1 (by omega) (hG _ List.mem_cons_self)
  · cases h2
end SU

end
end
section
noncomputable section
/-! GREATEST, LEAST, AMOUNT: by cases -/
theorem sy_frs_len {ρ : Nat → Int} {τ : Nat → Int64} {PM : List px_M} : ∀ (fs : List sy_Fr) (cs : List pf_F), sy_frs ρ τ PM fs cs → fs.length = cs.length
  | [], [], _ => rfl
  | [], _ :: _, h => h.elim
  | _ :: _, [], h => h.elim
  | f :: fs, c :: cs, h => by rw [List.length_cons, List.length_cons, sy_frs_len fs cs h.2]
section XM
variable {x : sy_X} {q : sy_Q} {S : sy_S} {M : px_M} {i : Instr} {len : Nat} {l : List sy_S}
theorem sy_goMx {k : Nat} {c : Nat × Nat} {a b u v : sy_L} {r : List sy_A} (hM : q.1[S.2.1.1]? = some M) (hq : px_look M.2.1 S.2.1.2.1 = some (.invokestatic k, 3)) (hst : S.2.1.2.2.2 = .inl b :: .inl a :: r) (hL : px_look M.2.2.2.1 k = some c) (hc : c.1 = 8 ∧ u = a ∧ v = b ∨ c.1 = 9 ∧ u = b ∧ v = a) (hsum : (r.map sy_cat).sum ≤ 8) (hdep : S.2.2.length + 1 ≤ x.2.2.2.2.2.2)
    (hT : ∀ g', (sy_two S.1 .lt u v).1 = some g' → sy_Good x q (sy_at S g' (S.2.1.2.1 + 3) S.2.1.2.2.1 (.inl b :: r))) (hF : ∀ g', (sy_two S.1 .lt u v).2 = some g' → sy_Good x q (sy_at S g' (S.2.1.2.1 + 3) S.2.1.2.2.1 (.inl a :: r))) : sy_Good x q S := by
  refine sy_open (fun ρ τ w lc cf d hm hl hf hd => ?_) hM
  have hcf := sy_frs_len _ _ hf
  have hd1 : 1 ≤ d := by omega
  rw [hst]
  have h2 := sy_two_ok hm .lt u v
  have h3 : px_s3 (.invokestatic k) 3 d M.2.2 ((.inl b :: .inl a :: r : List sy_A).map (sy_v ρ τ)) w = none := px_s3_no2 hL (by rcases hc with h | h <;> omega)
  have hs : px_s6 (.invokestatic k) 3 d M.2.2 ((.inl b :: .inl a :: r : List sy_A).map (sy_v ρ τ)) = some ((if px_cnd .lt (Int32.ofInt (sy_e ρ u)) (Int32.ofInt (sy_e ρ v)) = true then Value.int (Int32.ofInt (sy_e ρ b)) else Value.int (Int32.ofInt (sy_e ρ a))) :: r.map (sy_v ρ τ)) := by
    show (if 3 = 3 ∧ 1 ≤ d then (px_look M.2.2.2.1 k).bind _ else none) = _
    rw [if_pos ⟨rfl, hd1⟩, hL]
    show (if c.1 = 10 then _ else (if ((r.map (sy_v ρ τ)).map (fun v => v.category)).sum ≤ 8 then (if c.1 = 8 then some (Value.int (if Int32.ofInt (sy_e ρ a) < Int32.ofInt (sy_e ρ b) then Int32.ofInt (sy_e ρ b) else Int32.ofInt (sy_e ρ a)) :: r.map (sy_v ρ τ)) else if c.1 = 9 then some (Value.int (if Int32.ofInt (sy_e ρ b) < Int32.ofInt (sy_e ρ a) then Int32.ofInt (sy_e ρ b) else Int32.ofInt (sy_e ρ a)) :: r.map (sy_v ρ τ)) else none) else none)) = _
    rw [if_neg (by rcases hc with h | h <;> omega), if_pos (by rw [sy_sum_v]; exact hsum)]
    rcases hc with ⟨h8, rfl, rfl⟩ | ⟨h9, rfl, rfl⟩
    · rw [if_pos h8]
      by_cases hlt : Int32.ofInt (sy_e ρ u) < Int32.ofInt (sy_e ρ v)
      · rw [if_pos hlt, if_pos (show px_cnd .lt _ _ = true from decide_eq_true hlt)]
      · rw [if_neg hlt, if_neg (show ¬ px_cnd .lt _ _ = true from fun h => hlt (of_decide_eq_true h))]
    · rw [if_neg (by omega), if_pos h9]
      by_cases hlt : Int32.ofInt (sy_e ρ u) < Int32.ofInt (sy_e ρ v)
      · rw [if_pos hlt, if_pos (show px_cnd .lt _ _ = true from decide_eq_true hlt)]
      · rw [if_neg hlt, if_neg (show ¬ px_cnd .lt _ _ = true from fun h => hlt (of_decide_eq_true h))]
  by_cases hlt : px_cnd .lt (Int32.ofInt (sy_e ρ u)) (Int32.ofInt (sy_e ρ v)) = true
  · rw [if_pos hlt] at hs
    obtain ⟨g', h4, h5⟩ := h2.1 hlt
    exact pf_next (px_step_6 hq (Nat.le_refl 2) h3 hs) (sy_use (hT g' h4) hM h5 hl hf hd)
  · rw [if_neg hlt] at hs
    obtain ⟨g', h4, h5⟩ := h2.2 hlt
    exact pf_next (px_step_6 hq (Nat.le_refl 2) h3 hs) (sy_use (hF g' h4) hM h5 hl hf hd)
theorem sy_goAb {k : Nat} {c : Nat × Nat} {a : sy_L} {r : List sy_A} (hM : q.1[S.2.1.1]? = some M) (hq : px_look M.2.1 S.2.1.2.1 = some (.invokestatic k, 3)) (hst : S.2.1.2.2.2 = .inl a :: r) (hL : px_look M.2.2.2.1 k = some c) (hc : c.1 = 10) (hsum : (r.map sy_cat).sum ≤ 8) (hdep : S.2.2.length + 1 ≤ x.2.2.2.2.2.2)
    (hT : ∀ g', (sy_two S.1 .ge a (sy_c 0)).1 = some g' → sy_Good x q (sy_at S g' (S.2.1.2.1 + 3) S.2.1.2.2.1 (.inl a :: r))) (hF : ∀ g', (sy_two S.1 .ge a (sy_c 0)).2 = some g' → sy_Good x q (sy_at S g' (S.2.1.2.1 + 3) S.2.1.2.2.1 (.inl (sy_sub (sy_c 0) a) :: r))) : sy_Good x q S := by
  refine sy_open (fun ρ τ w lc cf d hm hl hf hd => ?_) hM
  have hcf := sy_frs_len _ _ hf
  have hd1 : 1 ≤ d := by omega
  rw [hst]
  have h2 := sy_two_ok hm .ge a (sy_c 0)
  rw [sy_zero] at h2
  have h3 : px_s3 (.invokestatic k) 3 d M.2.2 ((.inl a :: r : List sy_A).map (sy_v ρ τ)) w = none := px_s3_no2 hL (by omega)
  have hneg : (0 : Int32) - Int32.ofInt (sy_e ρ a) = Int32.ofInt (sy_e ρ (sy_sub (sy_c 0) a)) := by
    rw [sy_sub_e, Int32.ofInt_sub, sy_c_e]
    rfl
  have hs : px_s6 (.invokestatic k) 3 d M.2.2 ((.inl a :: r : List sy_A).map (sy_v ρ τ)) = some ((if px_cnd .ge (Int32.ofInt (sy_e ρ a)) 0 = true then Value.int (Int32.ofInt (sy_e ρ a)) else Value.int (Int32.ofInt (sy_e ρ (sy_sub (sy_c 0) a)))) :: r.map (sy_v ρ τ)) := by
    show (if 3 = 3 ∧ 1 ≤ d then (px_look M.2.2.2.1 k).bind _ else none) = _
    rw [if_pos ⟨rfl, hd1⟩, hL]
    show (if c.1 = 10 then (if ((r.map (sy_v ρ τ)).map (fun v => v.category)).sum ≤ 8 then some (Value.int (if 0 ≤ Int32.ofInt (sy_e ρ a) then Int32.ofInt (sy_e ρ a) else 0 - Int32.ofInt (sy_e ρ a)) :: r.map (sy_v ρ τ)) else none) else _) = _
    rw [if_pos hc, if_pos (by rw [sy_sum_v]; exact hsum)]
    by_cases hlt : 0 ≤ Int32.ofInt (sy_e ρ a)
    · rw [if_pos hlt, if_pos (show px_cnd .ge _ _ = true from decide_eq_true hlt)]
    · rw [if_neg hlt, if_neg (show ¬ px_cnd .ge _ _ = true from fun h => hlt (of_decide_eq_true h)), hneg]
  by_cases hlt : px_cnd .ge (Int32.ofInt (sy_e ρ a)) 0 = true
  · rw [if_pos hlt] at hs
    obtain ⟨g', h4, h5⟩ := h2.1 hlt
    exact pf_next (px_step_6 hq (Nat.le_refl 2) h3 hs) (sy_use (hT g' h4) hM h5 hl hf hd)
  · rw [if_neg hlt] at hs
    obtain ⟨g', h4, h5⟩ := h2.2 hlt
    exact pf_next (px_step_6 hq (Nat.le_refl 2) h3 hs) (sy_use (hF g' h4) hM h5 hl hf hd)
def sy_uX (D : Nat) (M : px_M) (i : Instr) (len : Nat) (S : sy_S) : Option (List sy_S) := match i, S.2.1.2.2.2 with
  | .invokestatic k, .inl b :: r => if len = 3 ∧ S.2.2.length + 1 ≤ D then (match px_look M.2.2.2.1 k with
    | some c => if c.1 = 10 then (if (r.map sy_cat).sum ≤ 8 then some (sy_opt S (sy_two S.1 .ge b (sy_c 0)).1 (S.2.1.2.1 + 3) (.inl b :: r) ++ sy_opt S (sy_two S.1 .ge b (sy_c 0)).2 (S.2.1.2.1 + 3) (.inl (sy_sub (sy_c 0) b) :: r)) else none) else (match r with
      | .inl a :: r2 => if (r2.map sy_cat).sum ≤ 8 then (if c.1 = 8 then some (sy_opt S (sy_two S.1 .lt a b).1 (S.2.1.2.1 + 3) (.inl b :: r2) ++ sy_opt S (sy_two S.1 .lt a b).2 (S.2.1.2.1 + 3) (.inl a :: r2)) else if c.1 = 9 then some (sy_opt S (sy_two S.1 .lt b a).1 (S.2.1.2.1 + 3) (.inl b :: r2) ++ sy_opt S (sy_two S.1 .lt b a).2 (S.2.1.2.1 + 3) (.inl a :: r2)) else none) else none
      | _ => none)
    | none => none) else none
  | _, _ => none
theorem sy_uX_ok {D : Nat} (hD : D ≤ x.2.2.2.2.2.2) (hM : q.1[S.2.1.1]? = some M) (hq : px_look M.2.1 S.2.1.2.1 = some (i, len)) (h : sy_uX D M i len S = some l) : sy_S1 x q S l := by
  intro hG
  unfold sy_uX at h
  split at h
  · rename_i k b r hst
    split at h
    · rename_i hc0
      obtain ⟨h1, hdep⟩ := hc0
      subst h1
      split at h
      · rename_i c hL
        split at h
        · rename_i hc
          split at h
          · rename_i hs
            cases h
            exact sy_goAb hM hq hst hL hc hs (by omega) (fun g' hg => hG _ (List.mem_append_left _ (sy_opt_mem hg))) (fun g' hg => hG _ (List.mem_append_right _ (sy_opt_mem hg)))
          · cases h
        · split at h
          · rename_i a r2
            split at h
            · rename_i hs
              split at h
              · rename_i hc
                cases h
                exact sy_goMx hM hq hst hL (.inl ⟨hc, rfl, rfl⟩) hs (by omega) (fun g' hg => hG _ (List.mem_append_left _ (sy_opt_mem hg))) (fun g' hg => hG _ (List.mem_append_right _ (sy_opt_mem hg)))
              · split at h
                · rename_i hc
                  cases h
                  exact sy_goMx hM hq hst hL (.inr ⟨hc, rfl, rfl⟩) hs (by omega) (fun g' hg => hG _ (List.mem_append_left _ (sy_opt_mem hg))) (fun g' hg => hG _ (List.mem_append_right _ (sy_opt_mem hg)))
                · cases h
            · cases h
          · cases h
      · cases h
    · cases h
  · cases h
end XM

end
end
section
noncomputable section
/-! LONG ARRAYS, LONG CONSTANTS, BYTES OF TEXTS -/
section XL
variable {x : sy_X} {q : sy_Q} {S : sy_S} {M : px_M} {i : Instr} {len : Nat} {l : List sy_S}
theorem sy_getL {w : px_W} {k : Nat} {l : List Int64} (h : w[k]? = some (.inr (.inl l))) (j : Nat) : sy_get w k j = (l[j]?).map Value.long := by
  unfold sy_get
  rw [h]
theorem sy_goLald {a n : Nat} {ix : sy_L} {b : Int × Int} {r : List sy_A} (hw : sy_wS S = true) (hM : q.1[S.2.1.1]? = some M) (hq : px_look M.2.1 S.2.1.2.1 = some (.laload, 1)) (hst : S.2.1.2.2.2 = .inl ix :: .inr (.inl a) :: r) (ha : 64 ≤ a) (hA : q.2.1[a - 64]? = some (.inr (.inl n))) (hn : n ≤ 2147483647) (hb : sy_b S.1.1 ix = some b) (hb1 : 0 ≤ b.1) (hb2 : b.2 < (n : Int))
    (hG : sy_Good x q (sy_at S (S.1.1, S.1.2.1 + 1, S.1.2.2) (S.2.1.2.1 + 1) S.2.1.2.2.1 (.inr (.inr S.1.2.1) :: r))) : sy_Good x q S := by
  refine sy_goFL (pre := [.inl ix, .inr (.inl a)]) hw hM hst (fun ρ τ w lc cf d hm _ => ?_) hG
  obtain ⟨l, l1, l2⟩ := sy_cell_l hm.2.2.2.2.1 hA
  obtain ⟨c1, c2⟩ := sy_b_e hm.2.1 hb
  obtain ⟨x1, x2⟩ := px_ix_of (z := sy_e ρ ix) (n := l.length) (by omega) (by omega) (by omega)
  refine ⟨l.getD (sy_e ρ ix).toNat 0, (fun hs : px_s2 x.1 x.2.1 .laload 1 (pf_scr x.2.2.2.1 cf) M.1.1.name M.1.1.cls M.2.2 (S.2.1.2.2.2.map (sy_v ρ τ)) w = some (.long (l.getD (sy_e ρ ix).toNat 0) :: r.map (sy_v ρ τ), w, 0, 0) => px_step_2 hq rfl hs) ?_⟩
  rw [hst]
  show (if 1 = 1 ∧ 64 ≤ a then (match w[a - 64]? with
      | some (.inr (.inl l)) => if px_ix (Int32.ofInt (sy_e ρ ix)) l.length = true then some (.long (l.getD (Int32.ofInt (sy_e ρ ix)).toNatClampNeg 0) :: r.map (sy_v ρ τ), w, 0, 0) else none
      | _ => none) else none) = _
  rw [if_pos ⟨rfl, ha⟩, l1]
  show (if px_ix (Int32.ofInt (sy_e ρ ix)) l.length = true then _ else none) = _
  rw [if_pos x1, x2]
theorem sy_goLast {a n s : Nat} {ix : sy_L} {b : Int × Int} {r : List sy_A} (hM : q.1[S.2.1.1]? = some M) (hq : px_look M.2.1 S.2.1.2.1 = some (.lastore, 1)) (hst : S.2.1.2.2.2 = .inr (.inr s) :: .inl ix :: .inr (.inl a) :: r) (ha : 64 ≤ a) (hA : q.2.1[a - 64]? = some (.inr (.inl n))) (hn : n ≤ 2147483647) (hb : sy_b S.1.1 ix = some b) (hb1 : 0 ≤ b.1) (hb2 : b.2 < (n : Int)) (hmay : sy_mayI q.2.2.1 (a - 64) b = true) (hjw : sy_jw q.2.2.1 (a - 64) b.1 b.2 = true)
    (hG : sy_Good x q (sy_at S (S.1.1, S.1.2.1, S.1.2.2.1, (a - 64, sy_nm S.1.1 ix, .inr (.inr s)) :: sy_drop S.1.1 S.1.2.2.1 (a - 64) ix S.1.2.2.2) (S.2.1.2.1 + 1) S.2.1.2.2.1 r)) : sy_Good x q S := by
  refine sy_open (fun ρ τ w lc cf d hm hl hf hd => ?_) hM
  obtain ⟨m1, m2, m3, m4, m5, m6⟩ := id hm
  obtain ⟨l, l1, l2⟩ := sy_cell_l m5 hA
  obtain ⟨c1, c2⟩ := sy_b_e m2 hb
  have hz : (sy_e ρ ix).toNat < l.length := by rw [l2]; omega
  obtain ⟨x1, x2⟩ := px_ix_of (z := sy_e ρ ix) (n := l.length) (by omega) (by omega) (by omega)
  have hg : ∀ k' i' : Nat, ¬ (k' = a - 64 ∧ i' = (sy_e ρ ix).toNat) → sy_get (w.set (a - 64) (.inr (.inl (l.set (sy_e ρ ix).toNat (τ s))))) k' i' = sy_get w k' i' := by
    intro k' i' hne
    rw [sy_get_set l1]
    split
    · rename_i hk
      subst hk
      have hi : (sy_e ρ ix).toNat ≠ i' := fun z => hne ⟨rfl, z.symm⟩
      rw [sy_getL l1]
      show ((l.set _ _)[i']?).map Value.long = _
      rw [List.getElem?_set_ne hi]
    · rfl
  have hm' : sy_mem q (S.1.1, S.1.2.1, S.1.2.2.1, (a - 64, sy_nm S.1.1 ix, .inr (.inr s)) :: sy_drop S.1.1 S.1.2.2.1 (a - 64) ix S.1.2.2.2) ρ τ (w.set (a - 64) (.inr (.inl (l.set (sy_e ρ ix).toNat (τ s))))) := by
    refine ⟨m1, m2, m3, fun f hf => ?_, sy_W_set m5 hA ?_, sy_fr_set m6 (sy_mayI_ok hmay (by omega) c1 c2) hjw (by omega) (by omega) hg⟩
    · rcases List.mem_cons.mp hf with rfl | hf
      · show 0 ≤ sy_e ρ (sy_nm S.1.1 ix) ∧ sy_get _ (a - 64) (sy_e ρ (sy_nm S.1.1 ix)).toNat = some (.long (τ s))
        rw [sy_nm_e m2, sy_get_set l1, if_pos rfl]
        refine ⟨by omega, ?_⟩
        show ((l.set _ _)[(sy_e ρ ix).toNat]?).map Value.long = _
        rw [List.getElem?_set_self hz]
        rfl
      · exact sy_drop_ok m2 m3 m4 (by omega) hg f hf
    · show (l.set _ _).length = n
      rw [List.length_set]
      exact l2
  refine (fun hs : px_s2 x.1 x.2.1 .lastore 1 (pf_scr x.2.2.2.1 cf) M.1.1.name M.1.1.cls M.2.2 (S.2.1.2.2.2.map (sy_v ρ τ)) w = some (r.map (sy_v ρ τ), w.set (a - 64) (.inr (.inl (l.set (sy_e ρ ix).toNat (τ s)))), 0, 0) => pf_next (px_step_2 hq rfl hs) (sy_use hG hM hm' hl hf hd)) ?_
  rw [hst]
  show (if 1 = 1 ∧ 64 ≤ a then (match w[a - 64]? with
      | some (.inr (.inl l)) => if px_ix (Int32.ofInt (sy_e ρ ix)) l.length = true then some (r.map (sy_v ρ τ), w.set (a - 64) (.inr (.inl (l.set (Int32.ofInt (sy_e ρ ix)).toNatClampNeg (τ s)))), 0, 0) else none
      | _ => none) else none) = _
  rw [if_pos ⟨rfl, ha⟩, l1]
  show (if px_ix (Int32.ofInt (sy_e ρ ix)) l.length = true then _ else none) = _
  rw [if_pos x1, x2]
theorem sy_goLdc2 {k : Nat} {v : Int64} (hw : sy_wS S = true) (hM : q.1[S.2.1.1]? = some M) (hq : px_look M.2.1 S.2.1.2.1 = some (.ldc2_w k, 3)) (hL : px_look M.2.2.2.2.2.2.1 k = some v)
    (hG : sy_Good x q (sy_at S (S.1.1, S.1.2.1 + 1, S.1.2.2) (S.2.1.2.1 + 3) S.2.1.2.2.1 (.inr (.inr S.1.2.1) :: S.2.1.2.2.2))) : sy_Good x q S := by
  refine sy_goFL (pre := []) hw hM rfl (fun ρ τ w lc cf d hm _ => ?_) hG
  refine ⟨v, (fun hs : px_s2 x.1 x.2.1 (.ldc2_w k) 3 (pf_scr x.2.2.2.1 cf) M.1.1.name M.1.1.cls M.2.2 (S.2.1.2.2.2.map (sy_v ρ τ)) w = some (.long v :: S.2.1.2.2.2.map (sy_v ρ τ), w, 0, 0) => px_step_2 hq rfl hs) ?_⟩
  show (if 3 = 3 then (px_look M.2.2.2.2.2.2.1 k).map (fun v => (.long v :: S.2.1.2.2.2.map (sy_v ρ τ), w, 0, 0)) else none) = _
  rw [if_pos rfl, hL]
  rfl
def sy_lr : List Int32 → Int × Int
  | [] => (0, 0)
  | c :: r => (min c.toInt (sy_lr r).1, max c.toInt (sy_lr r).2)
theorem sy_lr_ok : ∀ (l : List Int32) (j : Nat), (sy_lr l).1 ≤ (l.getD j 0).toInt ∧ (l.getD j 0).toInt ≤ (sy_lr l).2
  | [], j => by
    rw [List.getD_nil]
    exact ⟨Int.le_refl _, Int.le_refl _⟩
  | c :: r, 0 => by
    show min c.toInt _ ≤ c.toInt ∧ c.toInt ≤ max c.toInt _
    omega
  | c :: r, j + 1 => by
    have := sy_lr_ok r j
    rw [List.getD_cons_succ]
    show min c.toInt _ ≤ _ ∧ _ ≤ max c.toInt _
    omega
theorem sy_goBald {a : Nat} {ix : sy_L} {b : Int × Int} {r : List sy_A} (hw : sy_wS S = true) (hM : q.1[S.2.1.1]? = some M) (hq : px_look M.2.1 S.2.1.2.1 = some (.baload, 1)) (hst : S.2.1.2.2.2 = .inl ix :: .inr (.inl a) :: r) (ha : 17 ≤ a ∧ a ≤ 32) (hn : (x.2.1.map List.length).getD (a - 17) 0 ≤ 2147483647) (hb : sy_b S.1.1 ix = some b) (hb1 : 0 ≤ b.1) (hb2 : b.2 < (((x.2.1.map List.length).getD (a - 17) 0 : Nat) : Int))
    (hG : sy_Good x q (sy_at S (sy_new S.1 (sy_lr (x.2.1.getD (a - 17) []))) (S.2.1.2.1 + 1) S.2.1.2.2.1 (.inl (sy_x S.1.1.length) :: r))) : sy_Good x q S := by
  refine sy_goF (pre := [.inl ix, .inr (.inl a)]) hw hM hst (fun ρ τ w lc cf d hm _ => ?_) hG
  obtain ⟨c1, c2⟩ := sy_b_e hm.2.1 hb
  obtain ⟨x1, x2⟩ := px_ix_of (z := sy_e ρ ix) (n := (x.2.1.map List.length).getD (a - 17) 0) (by omega) (by omega) (by omega)
  obtain ⟨r1, r2⟩ := sy_lr_ok (x.2.1.getD (a - 17) []) (sy_e ρ ix).toNat
  refine ⟨(x.2.1.getD (a - 17) []).getD (sy_e ρ ix).toNat 0, r1, r2, (fun hs : px_s2 x.1 x.2.1 .baload 1 (pf_scr x.2.2.2.1 cf) M.1.1.name M.1.1.cls M.2.2 (S.2.1.2.2.2.map (sy_v ρ τ)) w = some (.int ((x.2.1.getD (a - 17) []).getD (sy_e ρ ix).toNat 0) :: r.map (sy_v ρ τ), w, 0, 0) => px_step_2 hq rfl hs) ?_⟩
  rw [hst]
  show (if 1 = 1 ∧ 17 ≤ a ∧ a ≤ 32 ∧ px_ix (Int32.ofInt (sy_e ρ ix)) ((x.2.1.map List.length).getD (a - 17) 0) = true then some (.int ((x.2.1.getD (a - 17) []).getD (Int32.ofInt (sy_e ρ ix)).toNatClampNeg 0) :: r.map (sy_v ρ τ), w, 0, 0) else none) = _
  rw [if_pos ⟨rfl, ha.1, ha.2, x1⟩, x2]
def sy_uL (lt : List (List Int32)) (A : List sy_Ce) (Wr : sy_Wr) (M : px_M) (i : Instr) (len : Nat) (S : sy_S) : Option (List sy_S) := match i, S.2.1.2.2.2 with
  | .laload, .inl ix :: .inr (.inl a) :: r => if len = 1 ∧ 64 ≤ a ∧ sy_wS S = true then (match A[a - 64]?, sy_b S.1.1 ix with
    | some (.inr (.inl n)), some b => if n ≤ 2147483647 ∧ 0 ≤ b.1 ∧ b.2 < (n : Int) then some [sy_at S (S.1.1, S.1.2.1 + 1, S.1.2.2) (S.2.1.2.1 + 1) S.2.1.2.2.1 (.inr (.inr S.1.2.1) :: r)] else none
    | _, _ => none) else none
  | .lastore, .inr (.inr s) :: .inl ix :: .inr (.inl a) :: r => if len = 1 ∧ 64 ≤ a then (match A[a - 64]?, sy_b S.1.1 ix with
    | some (.inr (.inl n)), some b => if n ≤ 2147483647 ∧ 0 ≤ b.1 ∧ b.2 < (n : Int) ∧ sy_mayI Wr (a - 64) b = true ∧ sy_jw Wr (a - 64) b.1 b.2 = true then some [sy_at S (S.1.1, S.1.2.1, S.1.2.2.1, (a - 64, sy_nm S.1.1 ix, .inr (.inr s)) :: sy_drop S.1.1 S.1.2.2.1 (a - 64) ix S.1.2.2.2) (S.2.1.2.1 + 1) S.2.1.2.2.1 r] else none
    | _, _ => none) else none
  | .ldc2_w k, r => if len = 3 ∧ sy_wS S = true then (px_look M.2.2.2.2.2.2.1 k).map (fun _ => [sy_at S (S.1.1, S.1.2.1 + 1, S.1.2.2) (S.2.1.2.1 + 3) S.2.1.2.2.1 (.inr (.inr S.1.2.1) :: r)]) else none
  | .baload, .inl ix :: .inr (.inl a) :: r => if len = 1 ∧ (17 ≤ a ∧ a ≤ 32) ∧ sy_wS S = true ∧ (lt.map List.length).getD (a - 17) 0 ≤ 2147483647 then (match sy_b S.1.1 ix with
    | some b => if 0 ≤ b.1 ∧ b.2 < (((lt.map List.length).getD (a - 17) 0 : Nat) : Int) then some [sy_at S (sy_new S.1 (sy_lr (lt.getD (a - 17) []))) (S.2.1.2.1 + 1) S.2.1.2.2.1 (.inl (sy_x S.1.1.length) :: r)] else none
    | none => none) else none
  | _, _ => none
theorem sy_uL_ok (hM : q.1[S.2.1.1]? = some M) (hq : px_look M.2.1 S.2.1.2.1 = some (i, len)) (h : sy_uL x.2.1 q.2.1 q.2.2.1 M i len S = some l) : sy_S1 x q S l := by
  intro hG
  unfold sy_uL at h
  split at h
  · rename_i ix a r hst
    split at h
    · rename_i hc
      obtain ⟨h1, ha, hw⟩ := hc
      subst h1
      split at h
      · rename_i n b hA hb
        split at h
        · rename_i hc
          cases h
          exact sy_goLald hw hM hq hst ha hA hc.1 hb hc.2.1 hc.2.2 (hG _ List.mem_cons_self)
        · cases h
      · cases h
    · cases h
  · rename_i s ix a r hst
    split at h
    · rename_i hc
      obtain ⟨h1, ha⟩ := hc
      subst h1
      split at h
      · rename_i n b hA hb
        split at h
        · rename_i hc
          cases h
          exact sy_goLast hM hq hst ha hA hc.1 hb hc.2.1 hc.2.2.1 hc.2.2.2.1 hc.2.2.2.2 (hG _ List.mem_cons_self)
        · cases h
      · cases h
    · cases h
  · split at h
    · rename_i hc
      obtain ⟨h1, hw⟩ := hc
      subst h1
      obtain ⟨v, hv, rfl⟩ := Option.map_eq_some_iff.mp h
      exact sy_goLdc2 hw hM hq hv (hG _ List.mem_cons_self)
    · cases h
  · rename_i ix a r hst
    split at h
    · rename_i hc
      obtain ⟨h1, ha, hw, hn⟩ := hc
      subst h1
      split at h
      · rename_i b hb
        split at h
        · rename_i hc
          cases h
          exact sy_goBald hw hM hq hst ha hn hb hc.1 hc.2 (hG _ List.mem_cons_self)
        · cases h
      · cases h
    · cases h
  · cases h
end XL

end
end
section
noncomputable section
/-! A WHOLE INT ARRAY IS COPIED ONTO ANOTHER OF ITS SHAPE -/
theorem sy_cpy_all {a b : List Int32} (h : a.length = b.length) : px_cpy a b 0 0 a.length = a := by
  unfold px_cpy
  rw [List.take_zero, List.nil_append, List.drop_zero, List.take_length, Nat.zero_add, h, List.drop_length, List.append_nil]
theorem px_ix_nn {z : Int} (h0 : 0 ≤ z) (h1 : z < 2147483647) : ¬ Int32.ofInt z < 0 ∧ (Int32.ofInt z).toNatClampNeg = z.toNat := by
  obtain ⟨h2, h3⟩ := px_ix_of (z := z) (n := z.toNat + 1) h0 (by omega) (by omega)
  refine ⟨fun hlt => ?_, h3⟩
  unfold px_ix at h2
  rw [decide_eq_true hlt] at h2
  cases h2
section XC
variable {x : sy_X} {q : sy_Q} {S : sy_S} {M : px_M} {i : Instr} {len : Nat} {l : List sy_S}
def sy_cpF (ka kb : Nat) (F : List sy_Fa) : List sy_Fa := (F.filter (fun f => f.1 == ka)).map (fun f => (kb, f.2)) ++ F.filter (fun f => !(f.1 == kb))
theorem sy_goCpy {k a b n : Nat} {c : Nat × Nat} {sg : sy_Sg} {e1 e2 e3 : sy_L} {r : List sy_A} (hM : q.1[S.2.1.1]? = some M) (hq : px_look M.2.1 S.2.1.2.1 = some (.invokestatic k, 3)) (hst : S.2.1.2.2.2 = .inl e1 :: .inl e2 :: .inr (.inl b) :: .inl e3 :: .inr (.inl a) :: r) (h1 : sy_b S.1.1 e1 = some ((n : Int), (n : Int))) (h2 : sy_b S.1.1 e2 = some (0, 0)) (h3 : sy_b S.1.1 e3 = some (0, 0)) (ha : 64 ≤ a) (hb : 64 ≤ b) (hA : q.2.1[a - 64]? = some (.inl (n, sg))) (hB : q.2.1[b - 64]? = some (.inl (n, sg))) (hn : n < 2147483647) (hL : px_look M.2.2.2.1 k = some c) (hc : c.1 = 6) (hsum : (r.map sy_cat).sum ≤ 8) (hdep : S.2.2.length + 1 ≤ x.2.2.2.2.2.2) (hmay : ∀ i, i < n → sy_may q.2.2.1 (b - 64) i = true) (hjw : sy_jw q.2.2.1 (b - 64) 0 (n : Int) = true)
    (hG : sy_Good x q (sy_at S (S.1.1, S.1.2.1, S.1.2.2.1, sy_cpF (a - 64) (b - 64) S.1.2.2.2) (S.2.1.2.1 + 3) S.2.1.2.2.1 r)) : sy_Good x q S := by
  refine sy_open (fun ρ τ w lc cf d hm hl hf hd => ?_) hM
  have hcf := sy_frs_len _ _ hf
  have hd1 : 1 ≤ d := by omega
  obtain ⟨m1, m2, m3, m4, m5, m6⟩ := id hm
  obtain ⟨la, a1, a2, a3⟩ := sy_cell_i m5 hA
  obtain ⟨lb, b1, b2, b3⟩ := sy_cell_i m5 hB
  have v1 : sy_e ρ e1 = n := by have := sy_b_e m2 h1; dsimp only at this; omega
  have v2 : sy_e ρ e2 = 0 := by have := sy_b_e m2 h2; dsimp only at this; omega
  have v3 : sy_e ρ e3 = 0 := by have := sy_b_e m2 h3; dsimp only at this; omega
  have hgb : ∀ i' : Nat, sy_get (w.set (b - 64) (.inl la)) (b - 64) i' = sy_get w (a - 64) i' := by
    intro i'
    rw [sy_get_set b1, if_pos rfl]
    exact sy_get_same a1 i'
  have hgo : ∀ k' i' : Nat, ¬ k' = b - 64 → sy_get (w.set (b - 64) (.inl la)) k' i' = sy_get w k' i' := by
    intro k' i' hk
    rw [sy_get_set b1, if_neg hk]
  have hm' : sy_mem q (S.1.1, S.1.2.1, S.1.2.2.1, sy_cpF (a - 64) (b - 64) S.1.2.2.2) ρ τ (w.set (b - 64) (.inl la)) := by
    refine ⟨m1, m2, m3, fun f hf => ?_, sy_W_set m5 hB ⟨a2, a3⟩, fun k' i' hk => ?_, fun j hj => sy_jp_fr (fun p hp i' h4 h5 => ?_) (m6.2 j hj)⟩
    · rcases List.mem_append.mp hf with hf | hf
      · obtain ⟨f0, hf0, rfl⟩ := List.mem_map.mp hf
        obtain ⟨g1, g2⟩ := List.mem_filter.mp hf0
        have g3 : f0.1 = a - 64 := eq_of_beq g2
        have g4 := m4 f0 g1
        rw [g3] at g4
        show 0 ≤ sy_e ρ f0.2.1 ∧ sy_get _ (b - 64) (sy_e ρ f0.2.1).toNat = some (sy_v ρ τ f0.2.2)
        rw [hgb]
        exact g4
      · obtain ⟨g1, g2⟩ := List.mem_filter.mp hf
        have g3 : ¬ f.1 = b - 64 := by
          intro e
          simp [e] at g2
        rw [hgo _ _ g3]
        exact m4 f g1
    · by_cases hkb : k' = b - 64
      · subst hkb
        have hi : n ≤ i' := by
          rcases Nat.lt_or_ge i' n with h | h
          · rw [hmay i' h] at hk
            cases hk
          · exact h
        rw [← m6.1 _ _ hk, hgb, sy_getI a1, sy_getI b1, List.getElem?_eq_none (by omega), List.getElem?_eq_none (by omega)]
      · rw [hgo _ _ hkb]
        exact m6.1 k' i' hk
    · by_cases hkb : p.1 = b - 64
      · have h3 := List.all_eq_true.mp (List.all_eq_true.mp hjw j hj) p hp
        rw [hkb] at h3
        simp only [beq_self_eq_true, Bool.not_true, Bool.false_or, Bool.or_eq_true, decide_eq_true_eq] at h3
        rw [hkb, hgb, sy_getI a1, sy_getI b1, List.getElem?_eq_none (by omega), List.getElem?_eq_none (by omega)]
      · exact hgo _ _ hkb
  obtain ⟨z1, z2⟩ := px_ix_nn (z := (n : Int)) (by omega) (by omega)
  obtain ⟨y1, y2⟩ := px_ix_nn (z := 0) (by omega) (by omega)
  have hs : px_s3 (.invokestatic k) 3 d M.2.2 (S.2.1.2.2.2.map (sy_v ρ τ)) w = some (r.map (sy_v ρ τ), w.set (b - 64) (.inl la)) := by
    rw [hst]
    show (if 3 = 3 ∧ 1 ≤ d ∧ 64 ≤ a ∧ 64 ≤ b ∧ ¬ Int32.ofInt (sy_e ρ e3) < 0 ∧ ¬ Int32.ofInt (sy_e ρ e2) < 0 ∧ ¬ Int32.ofInt (sy_e ρ e1) < 0 ∧ ((r.map (sy_v ρ τ)).map (fun v => v.category)).sum ≤ 8 then (match px_look M.2.2.2.1 k, w[a - 64]?, w[b - 64]? with
    | some q, some (.inl la), some (.inl lb) => if q.1 = 6 ∧ (Int32.ofInt (sy_e ρ e3)).toNatClampNeg + (Int32.ofInt (sy_e ρ e1)).toNatClampNeg ≤ la.length ∧ (Int32.ofInt (sy_e ρ e2)).toNatClampNeg + (Int32.ofInt (sy_e ρ e1)).toNatClampNeg ≤ lb.length then some (r.map (sy_v ρ τ), w.set (b - 64) (.inl (px_cpy la lb (Int32.ofInt (sy_e ρ e3)).toNatClampNeg (Int32.ofInt (sy_e ρ e2)).toNatClampNeg (Int32.ofInt (sy_e ρ e1)).toNatClampNeg))) else none
    | _, _, _ => none) else none) = _
    rw [v1, v2, v3, if_pos ⟨rfl, hd1, ha, hb, y1, y1, z1, by rw [sy_sum_v]; exact hsum⟩, hL, a1, b1]
    show (if c.1 = 6 ∧ (Int32.ofInt 0).toNatClampNeg + (Int32.ofInt (n : Int)).toNatClampNeg ≤ la.length ∧ (Int32.ofInt 0).toNatClampNeg + (Int32.ofInt (n : Int)).toNatClampNeg ≤ lb.length then some (r.map (sy_v ρ τ), w.set (b - 64) (.inl (px_cpy la lb (Int32.ofInt 0).toNatClampNeg (Int32.ofInt 0).toNatClampNeg (Int32.ofInt (n : Int)).toNatClampNeg))) else none) = _
    rw [y2, z2, if_pos ⟨hc, by omega, by omega⟩]
    have hcp := sy_cpy_all (a := la) (b := lb) (by omega)
    rw [a2] at hcp
    show some (_, w.set (b - 64) (.inl (px_cpy la lb 0 0 n))) = _
    rw [hcp]
  exact pf_next (px_step_3 hq (Nat.le_refl 2) hs) (sy_use hG hM hm' hl hf hd)
def sy_uY (A : List sy_Ce) (Wr : sy_Wr) (D : Nat) (M : px_M) (i : Instr) (len : Nat) (S : sy_S) : Option (List sy_S) := match i, S.2.1.2.2.2 with
  | .invokestatic k, .inl e1 :: .inl e2 :: .inr (.inl b) :: .inl e3 :: .inr (.inl a) :: r => if len = 3 ∧ S.2.2.length + 1 ≤ D ∧ 64 ≤ a ∧ 64 ≤ b ∧ (r.map sy_cat).sum ≤ 8 then (match px_look M.2.2.2.1 k, A[a - 64]?, A[b - 64]? with
    | some c, some (.inl (n, sg)), some (.inl z) => if c.1 = 6 ∧ z = (n, sg) ∧ n < 2147483647 ∧ sy_b S.1.1 e1 = some ((n : Int), (n : Int)) ∧ sy_b S.1.1 e2 = some (0, 0) ∧ sy_b S.1.1 e3 = some (0, 0) ∧ Wr.any (fun p => decide (p.1 = b - 64) && (decide (p.2.1 = 0) && decide (n ≤ p.2.2))) = true ∧ sy_jw Wr (b - 64) 0 (n : Int) = true then some [sy_at S (S.1.1, S.1.2.1, S.1.2.2.1, sy_cpF (a - 64) (b - 64) S.1.2.2.2) (S.2.1.2.1 + 3) S.2.1.2.2.1 r] else none
    | _, _, _ => none) else none
  | _, _ => none
theorem sy_uY_ok {D : Nat} (hD : D ≤ x.2.2.2.2.2.2) (hM : q.1[S.2.1.1]? = some M) (hq : px_look M.2.1 S.2.1.2.1 = some (i, len)) (h : sy_uY q.2.1 q.2.2.1 D M i len S = some l) : sy_S1 x q S l := by
  intro hG
  unfold sy_uY at h
  split at h
  · rename_i k e1 e2 b e3 a r hst
    split at h
    · rename_i hc0
      obtain ⟨h1, hdep, ha, hb, hsum⟩ := hc0
      subst h1
      split at h
      · rename_i c n sg z hL hA hB
        split at h
        · rename_i hc1
          obtain ⟨hc, hz, hn, g1, g2, g3, hw, hjw⟩ := hc1
          subst hz
          cases h
          refine sy_goCpy hM hq hst g1 g2 g3 ha hb hA hB hn hL hc hsum (by omega) (fun i hi => ?_) hjw (hG _ List.mem_cons_self)
          obtain ⟨p, hp, hp2⟩ := List.any_eq_true.mp hw
          simp only [Bool.and_eq_true, decide_eq_true_eq] at hp2
          refine List.any_eq_true.mpr ⟨p, hp, ?_⟩
          simp only [Bool.and_eq_true, decide_eq_true_eq]
          omega
        · cases h
      · cases h
    · cases h
  · cases h
end XC

end
end
section
noncomputable section
/-! A STATE BY OTHERS, WITHOUT A STEP -/
/-- points of the program: 1 the number on top is split into its values, 2 a comparison in three, 3 a shift with what it tells -/
def sy_PT : List (Nat × Nat × Nat) := [(240, 17, 1), (225, 48, 1), (226, 121, 1), (10, 17, 2), (285, 15, 2), (161, 47, 2), (226, 11, 3), (84, 14, 4), (84, 27, 4), (279, 66, 4), (279, 84, 4), (235, 31, 5), (227, 85, 1), (277, 20, 1), (277, 159, 1), (273, 44, 1), (272, 1, 6)]
def sy_pt (m pc : Nat) : Nat := match sy_PT.find? (fun p => p.1 == m && p.2.1 == pc) with
  | some p => p.2.2
  | none => 0
section PR
variable {x : sy_X} {q : sy_Q} {S : sy_S} {M : px_M} {i : Instr} {len : Nat} {l : List sy_S}
def sy_nam (S : sy_S) (pre r : List sy_A) (rg : Int × Int) (cs : List sy_L) : sy_S := ((S.1.1 ++ [rg], S.1.2.1, cs ++ S.1.2.2.1, S.1.2.2.2), (S.2.1.1, S.2.1.2.1, S.2.1.2.2.1, pre ++ .inl (sy_x S.1.1.length) :: r), S.2.2)
theorem sy_goNam {e : sy_L} {pre r : List sy_A} {rg : Int × Int} {cs : List sy_L} (hw : sy_wS S = true) (hst : S.2.1.2.2.2 = pre ++ .inl e :: r) (hv : ∀ (ρ : Nat → Int) (τ : Nat → Int64) (w : px_W), sy_mem q S.1 ρ τ w → ∃ v : Int, rg.1 ≤ v ∧ v ≤ rg.2 ∧ Int32.ofInt v = Int32.ofInt (sy_e ρ e) ∧ ∀ ρ' : Nat → Int, (∀ i, i < S.1.1.length → ρ' i = ρ i) → ρ' S.1.1.length = v → sy_cok ρ' cs) (hG : sy_Good x q (sy_nam S pre r rg cs)) : sy_Good x q S := by
  intro ρ τ w c cf d hR hd
  obtain ⟨v, v1, v2, v3, v4⟩ := hv ρ τ w hR.1
  obtain ⟨ρ', e1, e2, ⟨m1, m2, m3, m4⟩, ⟨f1, f2, f3, f4⟩, hf'⟩ := sy_fresh hw hR v1 v2
  refine hG ρ' τ w c cf d ⟨⟨m1, m2, fun z hz => ?_, m4⟩, ⟨f1, f2, f3, ?_⟩, hf'⟩ hd
  · rcases List.mem_append.mp hz with hz | hz
    · exact v4 ρ' e1 e2 z hz
    · exact m3 z hz
  · have g4 : c.2.2.2 = S.2.1.2.2.2.map (sy_v ρ τ) := hR.2.1.2.2.2
    have f4' : c.2.2.2 = S.2.1.2.2.2.map (sy_v ρ' τ) := f4
    show c.2.2.2 = (pre ++ .inl (sy_x S.1.1.length) :: r).map (sy_v ρ' τ)
    rw [hst, List.map_append, List.map_cons] at g4 f4'
    have hh := g4.symm.trans f4'
    have hl := List.append_inj hh (by rw [List.length_map, List.length_map])
    have he : sy_v ρ τ (.inl e) = sy_v ρ' τ (.inl e) := (List.cons.inj hl.2).1
    have he2 : sy_v ρ' τ (.inl (sy_x S.1.1.length)) = sy_v ρ' τ (.inl e) := by
      rw [← he]
      show Value.int (Int32.ofInt (sy_e ρ' (sy_x S.1.1.length))) = Value.int (Int32.ofInt (sy_e ρ e))
      rw [sy_x_e, e2, v3]
    rw [List.map_append, List.map_cons, he2]
    exact f4'
def sy_opg (S : sy_S) (g : Option sy_G) : List sy_S := match g with
  | some g' => [(g', S.2)]
  | none => []
theorem sy_opg_mem {g : Option sy_G} {g' : sy_G} (h : g = some g') : (g', S.2) ∈ sy_opg S g := by
  subst h
  exact List.mem_cons_self
/-- cases by the sign of a form -/
def sy_3 (S : sy_S) (d : sy_L) : List sy_S := sy_opg S (sy_asm S.1 (sy_add d (sy_c (-1)))) ++ (sy_opg S (sy_asm S.1 (sy_add (sy_scl (-1) d) (sy_c (-1)))) ++ sy_opg S (sy_asms S.1 [d, sy_scl (-1) d]))
theorem sy_go3 {d : sy_L} (hG : ∀ S' ∈ sy_3 S d, sy_Good x q S') : sy_Good x q S := by
  intro ρ τ w c cf k hR hd
  rcases Int.lt_trichotomy (sy_e ρ d) 0 with h | h | h
  · obtain ⟨g', h1, h2⟩ := sy_asm_ok hR.1 (e := sy_add (sy_scl (-1) d) (sy_c (-1))) (by rw [sy_add_e, sy_scl_e, sy_c_e]; omega)
    exact hG _ (List.mem_append_right _ (List.mem_append_left _ (sy_opg_mem h1))) ρ τ w c cf k ⟨h2, hR.2⟩ hd
  · obtain ⟨g', h1, h2⟩ := sy_asms_ok (l := [d, sy_scl (-1) d]) hR.1 (fun e he => by
      rcases List.mem_cons.mp he with rfl | he
      · omega
      · rw [List.mem_singleton.mp he, sy_scl_e]; omega)
    exact hG _ (List.mem_append_right _ (List.mem_append_right _ (sy_opg_mem h1))) ρ τ w c cf k ⟨h2, hR.2⟩ hd
  · obtain ⟨g', h1, h2⟩ := sy_asm_ok hR.1 (e := sy_add d (sy_c (-1))) (by rw [sy_add_e, sy_c_e]; omega)
    exact hG _ (List.mem_append_left _ (sy_opg_mem h1)) ρ τ w c cf k ⟨h2, hR.2⟩ hd
/-- a symbol split into its values -/
def sy_spl (S : sy_S) (y : Nat) (a : Int) : Nat → List sy_S
  | 0 => []
  | n + 1 => (sy_rng S.1 y (a, a), S.2) :: sy_spl S y (a + 1) n
theorem sy_spl_mem (S : sy_S) (y : Nat) : ∀ (n k : Nat) (a : Int), k < n → (sy_rng S.1 y (a + (k : Int), a + (k : Int)), S.2) ∈ sy_spl S y a n
  | n + 1, 0, a, _ => by
    rw [show a + ((0 : Nat) : Int) = a by omega]
    exact List.mem_cons_self
  | n + 1, k + 1, a, h => by
    have := sy_spl_mem S y n k (a + 1) (by omega)
    rw [show a + 1 + (k : Int) = a + ((k + 1 : Nat) : Int) by omega] at this
    exact List.mem_cons_of_mem _ this
theorem sy_goSpl {y : Nat} {p : Int × Int} (hy : S.1.1[y]? = some p) (hG : ∀ S' ∈ sy_spl S y p.1 (p.2 - p.1 + 1).toNat, sy_Good x q S') : sy_Good x q S := by
  intro ρ τ w c cf k hR hd
  obtain ⟨h1, h2⟩ := hR.1.2.1 y p hy
  have hm := sy_spl_mem S y (p.2 - p.1 + 1).toNat (ρ y - p.1).toNat p.1 (by omega)
  rw [show p.1 + (((ρ y - p.1).toNat : Nat) : Int) = ρ y by omega] at hm
  exact hG _ hm ρ τ w c cf k ⟨sy_rng_ok hR.1 (Int.le_refl _) (Int.le_refl _), hR.2⟩ hd
/-- is the sign of a form known -/
def sy_dec (R : sy_T) (cs : List sy_L) (d : sy_L) : Bool := sy_pos R cs (sy_add d (sy_c (-1))) || (sy_pos R cs (sy_add (sy_scl (-1) d) (sy_c (-1))) || (sy_pos R cs d && sy_pos R cs (sy_scl (-1) d)))
/-- a form on the stack under a name with this range -/
def sy_rn (S : sy_S) (pre : List sy_A) (e : sy_L) (r : List sy_A) (rg : Int × Int) : Option (List sy_S) := if sy_wS S = true ∧ sy_pos S.1.1 S.1.2.2.1 (sy_add e (sy_c (-rg.1))) = true ∧ sy_pos S.1.1 S.1.2.2.1 (sy_sub (sy_c rg.2) e) = true then some [sy_nam S pre r rg [sy_sub (sy_x S.1.1.length) e, sy_sub e (sy_x S.1.1.length)]] else none
theorem sy_rn_ok {pre r : List sy_A} {e : sy_L} {rg : Int × Int} (hst : S.2.1.2.2.2 = pre ++ .inl e :: r) (h : sy_rn S pre e r rg = some l) : sy_S1 x q S l := by
  intro hG
  unfold sy_rn at h
  split at h
  · rename_i hc
    obtain ⟨c1, c2, c3⟩ := hc
    cases h
    refine sy_goNam c1 hst (fun ρ τ w hm => ?_) (hG _ List.mem_cons_self)
    have p1 := sy_pos_e hm.2.1 hm.2.2.1 c2
    have p2 := sy_pos_e hm.2.1 hm.2.2.1 c3
    rw [sy_add_e, sy_c_e] at p1
    rw [sy_sub_e, sy_c_e] at p2
    refine ⟨sy_e ρ e, by omega, by omega, rfl, fun ρ' a1 a2 => ?_⟩
    have hwe : sy_wl S.1.1.length e = true := by
      unfold sy_wS sy_wf at c1
      simp only [Bool.and_eq_true] at c1
      have := List.all_eq_true.mp c1.2.1.2 (.inl e) (by rw [hst]; exact List.mem_append_right _ List.mem_cons_self)
      exact this
    have he := sy_ext_l a1 hwe
    intro z hz
    rcases List.mem_cons.mp hz with rfl | hz
    · rw [sy_sub_e, sy_x_e, a2, he]; omega
    · rw [List.mem_singleton.mp hz, sy_sub_e, sy_x_e, a2, he]; omega
  · cases h
/-- methods in which the same number and constant give the same -/
def sy_mm (m : Nat) : Bool := m == 200 || m == 226 || m == 294 || m == 141 || m == 227
/-- a form beyond the ints, named once -/
def sy_nam2 (S : sy_S) (r : List sy_A) (ix : sy_L) : sy_S := ((S.1.1 ++ [sy_full], S.1.2.1, S.1.2.2.1, (34359738368, ix, .inl (sy_x S.1.1.length)) :: S.1.2.2.2), (S.2.1.1, S.2.1.2.1, S.2.1.2.2.1, .inl (sy_x S.1.1.length) :: r), S.2.2)
theorem sy_goNam2 {e : sy_L} {r : List sy_A} (hw : sy_wS S = true) (hA : q.2.1.length ≤ 8589934592) (hst : S.2.1.2.2.2 = .inl e :: r) (hlo : sy_l0 S.1.1 (sy_add e (sy_c 1099511627776)) = true) (hG : sy_Good x q (sy_nam2 S r (sy_add e (sy_c 1099511627776)))) : sy_Good x q S := by
  intro ρ τ w c cf d hR hd
  obtain ⟨ρ', e1, e2, ⟨m1, m2, m3, m4, m5, m6⟩, ⟨f1, f2, f3, f4⟩, hf'⟩ := sy_fresh hw hR (v := (Int32.ofInt (sy_e ρ e)).toInt) (r := sy_full) (sy_full_in _).1 (sy_full_in _).2
  have hwe : sy_wl S.1.1.length e = true := by
    have c1 := hw
    unfold sy_wS sy_wf at c1
    simp only [Bool.and_eq_true] at c1
    exact List.all_eq_true.mp c1.2.1.2 (.inl e) (by rw [hst]; exact List.mem_cons_self)
  have he := sy_ext_l e1 hwe
  have h0 := sy_l0_e hR.1.2.1 hlo
  rw [sy_add_e, sy_c_e] at h0
  refine hG ρ' τ w c cf d ⟨⟨m1, m2, m3, fun f hf => ?_, m5, m6⟩, ⟨f1, f2, f3, ?_⟩, hf'⟩ hd
  · rcases List.mem_cons.mp hf with rfl | hf
    · show 0 ≤ sy_e ρ' (sy_add e (sy_c 1099511627776)) ∧ sy_get w 34359738368 (sy_e ρ' (sy_add e (sy_c 1099511627776))).toNat = some (.int (Int32.ofInt (sy_e ρ' (sy_x S.1.1.length))))
      rw [sy_add_e, sy_c_e, sy_x_e, e2, he, Int32.ofInt_toInt]
      refine ⟨h0, ?_⟩
      have h2 : w[34359738368]? = none := List.getElem?_eq_none (by have := m5.1; omega)
      unfold sy_get
      rw [h2]
      show some (Value.int (Int32.ofInt (((sy_e ρ e + 1099511627776).toNat : Int) - 1099511627776))) = _
      rw [show (((sy_e ρ e + 1099511627776).toNat : Nat) : Int) - 1099511627776 = sy_e ρ e by omega]
    · exact m4 f hf
  · have f4' : c.2.2.2 = S.2.1.2.2.2.map (sy_v ρ' τ) := f4
    rw [hst, List.map_cons] at f4'
    show c.2.2.2 = (.inl (sy_x S.1.1.length) :: r).map (sy_v ρ' τ)
    rw [List.map_cons, f4']
    congr 1
    show Value.int (Int32.ofInt (sy_e ρ' e)) = Value.int (Int32.ofInt (sy_e ρ' (sy_x S.1.1.length)))
    rw [sy_x_e, e2, he, Int32.ofInt_toInt]
theorem sy_goNam3 {e v ix : sy_L} {r : List sy_A} (hA : q.2.1.length ≤ 8589934592) (hst : S.2.1.2.2.2 = .inl e :: r) (hF : (34359738368, ix, .inl v) ∈ S.1.2.2.2) (he : sy_eq S.1.1 ix (sy_add e (sy_c 1099511627776)) = true) (hG : sy_Good x q (S.1, (S.2.1.1, S.2.1.2.1, S.2.1.2.2.1, .inl v :: r), S.2.2)) : sy_Good x q S := by
  intro ρ τ w c cf d hR hd
  refine hG ρ τ w c cf d ⟨hR.1, ⟨hR.2.1.1, hR.2.1.2.1, hR.2.1.2.2.1, ?_⟩, hR.2.2⟩ hd
  have f4 : c.2.2.2 = S.2.1.2.2.2.map (sy_v ρ τ) := hR.2.1.2.2.2
  rw [hst, List.map_cons] at f4
  show c.2.2.2 = (.inl v :: r).map (sy_v ρ τ)
  rw [List.map_cons, f4]
  congr 1
  obtain ⟨g1, g2⟩ := hR.1.2.2.2.1 _ hF
  have h1 := sy_eq_e hR.1.2.1 he
  dsimp only at g1 g2
  rw [h1, sy_add_e, sy_c_e] at g1 g2
  have h2 : w[34359738368]? = none := List.getElem?_eq_none (by have := hR.1.2.2.2.2.1.1; omega)
  unfold sy_get at g2
  rw [h2] at g2
  have g3 : some (Value.int (Int32.ofInt (((sy_e ρ e + 1099511627776).toNat : Int) - 1099511627776))) = some (sy_v ρ τ (.inl v)) := g2
  rw [show (((sy_e ρ e + 1099511627776).toNat : Nat) : Int) - 1099511627776 = sy_e ρ e by omega] at g3
  exact Option.some.inj g3
def sy_p0 (A : List sy_Ce) (S : sy_S) : Option (List sy_S) := if sy_mm S.2.1.1 = true ∧ A.length ≤ 8589934592 then (match S.2.1.2.2.2 with
  | .inl e :: r => (match sy_b S.1.1 e with
    | some b => if sy_fit b = false ∧ sy_wS S = true ∧ sy_l0 S.1.1 (sy_add e (sy_c 1099511627776)) = true then (match S.1.2.2.2.find? (fun f => f.1 == 34359738368 && sy_eq S.1.1 f.2.1 (sy_add e (sy_c 1099511627776))) with
      | some (_, _, .inl v) => some [(S.1, (S.2.1.1, S.2.1.2.1, S.2.1.2.2.1, .inl v :: r), S.2.2)]
      | _ => some [sy_nam2 S r (sy_add e (sy_c 1099511627776))]) else none
    | none => none)
  | _ => none) else none
theorem sy_p0_ok (h : sy_p0 q.2.1 S = some l) : sy_S1 x q S l := by
  intro hG
  unfold sy_p0 at h
  split at h
  · rename_i h0
    split at h
    · rename_i e r hst
      split at h
      · split at h
        · rename_i hc
          split at h
          · rename_i k fx v hfind
            cases h
            have hmm := List.mem_of_find?_eq_some hfind
            have hpp := List.find?_some hfind
            rw [Bool.and_eq_true] at hpp
            have hk : k = 34359738368 := eq_of_beq hpp.1
            subst hk
            exact sy_goNam3 h0.2 hst hmm hpp.2 (hG _ List.mem_cons_self)
          · cases h
            exact sy_goNam2 hc.2.1 h0.2 hst hc.2.2 (hG _ List.mem_cons_self)
        · cases h
      · cases h
    · cases h
  · cases h
def sy_p1 (S : sy_S) : Option (List sy_S) := match S.2.1.2.2.2 with
  | .inl e :: r => (match sy_b S.1.1 e with
    | some b => if sy_fit b = false ∧ sy_wS S = true then some [sy_nam S [] r sy_full []] else none
    | none => none)
  | _ => none
theorem sy_p1_ok (h : sy_p1 S = some l) : sy_S1 x q S l := by
  intro hG
  unfold sy_p1 at h
  split at h
  · rename_i e r hst
    split at h
    · split at h
      · rename_i hc
        cases h
        refine sy_goNam (pre := []) hc.2 hst (fun ρ τ w hm => ⟨(Int32.ofInt (sy_e ρ e)).toInt, (sy_full_in _).1, (sy_full_in _).2, Int32.ofInt_toInt _, fun ρ' _ _ z hz => ?_⟩) (hG _ List.mem_cons_self)
        cases hz
      · cases h
    · cases h
  · cases h
def sy_p2 (S : sy_S) : Option (List sy_S) := match sy_pt S.2.1.1 S.2.1.2.1, S.2.1.2.2.2 with
  | 1, .inl e :: _ => (match e.2.find? (fun t => match S.1.1[t.1]? with
      | some p => decide (p.1 < p.2)
      | none => false) with
    | some t => (match S.1.1[t.1]? with
      | some p => if p.2 - p.1 ≤ 300 then some (sy_spl S t.1 p.1 (p.2 - p.1 + 1).toNat) else none
      | none => none)
    | none => none)
  | _, _ => none
theorem sy_p2_ok (h : sy_p2 S = some l) : sy_S1 x q S l := by
  intro hG
  unfold sy_p2 at h
  split at h
  · split at h
    · split at h
      · rename_i p hp
        split at h
        · cases h
          exact sy_goSpl hp hG
        · cases h
      · cases h
    · cases h
  · cases h
def sy_p3 (i : Instr) (S : sy_S) : Option (List sy_S) := if sy_pt S.2.1.1 S.2.1.2.1 = 2 then (match i, S.2.1.2.2.2 with
  | .ifCond _ _, .inl a :: _ => if sy_dec S.1.1 S.1.2.2.1 a = true then none else some (sy_3 S a)
  | .if_icmp _ _, .inl b :: .inl a :: _ => if sy_dec S.1.1 S.1.2.2.1 (sy_sub a b) = true then none else some (sy_3 S (sy_sub a b))
  | _, _ => none) else none
theorem sy_p3_ok (h : sy_p3 i S = some l) : sy_S1 x q S l := by
  intro hG
  unfold sy_p3 at h
  split at h
  · split at h
    · split at h
      · cases h
      · cases h
        exact sy_go3 hG
    · split at h
      · cases h
      · cases h
        exact sy_go3 hG
    · cases h
  · cases h
def sy_cv (a : sy_A) : Bool := match a with
  | .inl e => e.2.isEmpty
  | _ => false
def sy_p4 (i : Instr) (S : sy_S) : Option (List sy_S) := match i, S.2.1.2.2.2 with
  | .iaload, .inl ix :: .inr (.inl a) :: _ => if sy_spr S.2.1.1 (a - 64) = true then (match S.1.2.2.2.find? (fun f => f.1 == a - 64 && ((sy_cv f.2.2 || !(f.1 == 139)) && !(sy_dec S.1.1 S.1.2.2.1 (sy_sub f.2.1 ix)))) with
    | some f => some (sy_3 S (sy_sub f.2.1 ix))
    | none => none) else none
  | .iastore, _ :: .inl ix :: .inr (.inl a) :: _ => if S.2.1.1 == 77 && (47 ≤ a - 64 && a - 64 ≤ 49) then (match S.1.2.2.2.find? (fun f => f.1 == a - 64 && !(sy_dec S.1.1 S.1.2.2.1 (sy_sub f.2.1 ix))) with
    | some f => some (sy_3 S (sy_sub f.2.1 ix))
    | none => none) else none
  | _, _ => none
theorem sy_p4_ok (h : sy_p4 i S = some l) : sy_S1 x q S l := by
  intro hG
  unfold sy_p4 at h
  split at h
  · split at h
    · split at h
      · cases h
        exact sy_go3 hG
      · cases h
    · cases h
  · split at h
    · split at h
      · cases h
        exact sy_go3 hG
      · cases h
    · cases h
  · cases h
def sy_inx (R : sy_T) (n : Nat) (ix : sy_L) : Bool := match sy_b R ix with
  | some b => decide (0 ≤ b.1) && decide (b.2 < (n : Int))
  | none => false
/-- the range that all places give -/
def sy_cm (sg : sy_Sg) (s c : Int) : Nat → Int × Int
  | 0 => sy_seg sg s.toNat
  | n + 1 => (max (sy_seg sg (s + c * ((n + 1 : Nat) : Int)).toNat).1 (sy_cm sg s c n).1, min (sy_seg sg (s + c * ((n + 1 : Nat) : Int)).toNat).2 (sy_cm sg s c n).2)
def sy_p5 (A : List sy_Ce) (Wr : sy_Wr) (M : px_M) (i : Instr) (S : sy_S) : Option (List sy_S) := match i, S.2.1.2.2.2 with
  | .iaload, .inl ix :: .inr (.inl a) :: r => if 64 ≤ a then (match A[a - 64]? with
    | some (.inl (n, _)) => if sy_inx S.1.1 n ix = true ∨ S.1.2.2.2.any (fun f => f.1 == a - 64 && sy_eq S.1.1 f.2.1 ix) = true then none else sy_rn S [] ix (.inr (.inl a) :: r) (0, (n : Int) - 1)
    | _ => none) else none
  | .laload, .inl ix :: .inr (.inl a) :: r => if 64 ≤ a then (match A[a - 64]? with
    | some (.inr (.inl n)) => if sy_inx S.1.1 n ix = true then none else sy_rn S [] ix (.inr (.inl a) :: r) (0, (n : Int) - 1)
    | _ => none) else none
  | .iastore, .inl e :: .inl ix :: .inr (.inl a) :: r => if 64 ≤ a then (match A[a - 64]? with
    | some (.inl (n, sg)) => if sy_inx S.1.1 n ix = true then (if sy_wr S.1.1 sg ix (sy_vb S.1.1 e) = true ∨ sy_same A S.1.1 S.1.2.2.2 sg ix e = true ∨ sy_sm4 Wr S.1.1 S.1.2.2.2 sg ix e = true then none else (match sy_pr S.1.1 ix with
        | some z => if z.2.2 ≤ 3000 then sy_rn S [] e (.inl ix :: .inr (.inl a) :: r) (sy_cm sg z.1 z.2.1 z.2.2) else none
        | none => none)) else sy_rn S [.inl e] ix (.inr (.inl a) :: r) (0, (n : Int) - 1)
    | _ => none) else none
  | .putfield idx, .inl e :: .inr (.inl a) :: r => if 64 ≤ a then (match A[a - 64]?, px_look M.2.2.1 idx with
    | some (.inr (.inr (_, sl))), some (_, s0) => (match sl[s0]? with
      | some (.inl rg) => if rg.1 ≤ (sy_vb S.1.1 e).1 ∧ (sy_vb S.1.1 e).2 ≤ rg.2 then none else sy_rn S [] e (.inr (.inl a) :: r) rg
      | _ => none)
    | _, _ => none) else none
  | .idiv, .inl b :: r => (match sy_b S.1.1 b with
    | some p => if p.1 ≤ 0 ∧ 0 ≤ p.2 then px_or (sy_rn S [] b r (1, p.2)) (sy_rn S [] b r (p.1, -1)) else none
    | none => none)
  | _, _ => none
theorem sy_p5_ok {A : List sy_Ce} {Wr : sy_Wr} (h : sy_p5 A Wr M i S = some l) : sy_S1 x q S l := by
  unfold sy_p5 at h
  split at h
  · rename_i ix a r hst
    split at h
    · split at h
      · split at h
        · cases h
        · exact sy_rn_ok (pre := []) hst h
      · cases h
    · cases h
  · rename_i ix a r hst
    split at h
    · split at h
      · split at h
        · cases h
        · exact sy_rn_ok (pre := []) hst h
      · cases h
    · cases h
  · rename_i e ix a r hst
    split at h
    · split at h
      · split at h
        · split at h
          · cases h
          · split at h
            · split at h
              · exact sy_rn_ok (pre := []) hst h
              · cases h
            · cases h
        · exact sy_rn_ok (pre := [.inl e]) hst h
      · cases h
    · cases h
  · rename_i idx e a r hst
    split at h
    · split at h
      · split at h
        · split at h
          · cases h
          · exact sy_rn_ok (pre := []) hst h
        · cases h
      · cases h
    · cases h
  · rename_i b r hst
    split at h
    · split at h
      · rcases px_or_some h with h | h
        · exact sy_rn_ok (pre := []) hst h
        · exact sy_rn_ok (pre := []) hst h
      · cases h
    · cases h
  · cases h
/-- what the lasting words tell: word, cell, its value there, other cell, range, places -/
def sy_JT : List (Nat × Nat × Int × Nat × (Int × Int) × Int) := [(0, 47, 2, 48, (0, 64), 56), (0, 47, 2, 49, (0, 64), 56), (3, 176, 6, 177, (0, 7), 4)]
theorem sy_JT_ok {t : Nat × Nat × Int × Nat × (Int × Int) × Int} (ht : t ∈ sy_JT) {w : px_W} (hj : sy_jp t.1 w) {k : Nat} (hk : (k : Int) < t.2.2.2.2.2) (h1 : sy_get w t.2.1 k = some (.int (Int32.ofInt t.2.2.1))) : sy_ji (sy_get w t.2.2.2.1 k) t.2.2.2.2.1 := by
  simp only [sy_JT, List.mem_cons, List.not_mem_nil, or_false] at ht
  rcases ht with rfl | rfl | rfl
  · exact (hj k (by dsimp only at hk; omega) h1).1
  · exact (hj k (by dsimp only at hk; omega) h1).2
  · exact hj k (by dsimp only at hk; omega) h1
def sy_sr (R : sy_T) (s : Nat) : Bool := match R[s]? with
  | some b => decide (0 ≤ b.1) && decide (b.2 < 6)
  | none => false
def sy_cnt (R : sy_T) (cs : List sy_L) (a : sy_A) (s : Nat) : Bool := match a with
  | .inl e => (match sy_b R e with
    | some p => sy_fit p
    | none => false) && sy_pos R cs (sy_add (sy_sub e (sy_x s)) (sy_c (-1)))
  | _ => false
/-- the number on top stands at a place of which a lasting word tells -/
def sy_p6 (Wr : sy_Wr) (S : sy_S) : Option (List sy_S) := if sy_pt S.2.1.1 S.2.1.2.1 = 4 then (match S.2.1.2.2.2 with
  | .inl (0, [(y, 1)]) :: _ => (match S.1.1[y]? with
    | some r => (sy_JT.findSome? (fun t => if (sy_js Wr).contains t.1 = true ∧ sy_fit r = true ∧ ¬ (t.2.2.2.2.1.1 ≤ r.1 ∧ r.2 ≤ t.2.2.2.2.1.2) then (S.1.2.2.2.findSome? (fun f => if f.1 = t.2.2.2.1 ∧ f.2.2 = .inl (0, [(y, 1)]) ∧ sy_ub S.1.1 f.2.1 t.2.2.2.2.2 = true ∧ S.1.2.2.2.any (fun g => decide (g.1 = t.2.1) && (sy_eq S.1.1 g.2.1 f.2.1 && sy_isK S.1.1 g.2.2 t.2.2.1)) = true then some (max r.1 t.2.2.2.2.1.1, min r.2 t.2.2.2.2.1.2) else none)) else none)).map (fun p => [(sy_rng S.1 y p, S.2)])
    | none => none)
  | _ => none) else none
theorem sy_p6_ok (h : sy_p6 q.2.2.1 S = some l) : sy_S1 x q S l := by
  intro hG
  unfold sy_p6 at h
  split at h
  · split at h
    · rename_i y rest hst
      split at h
      · rename_i r hr
        obtain ⟨p, hp, rfl⟩ := Option.map_eq_some_iff.mp h
        obtain ⟨t, ht, h1⟩ := List.exists_of_findSome?_eq_some hp
        split at h1
        · rename_i hc
          obtain ⟨c1, c2, c3⟩ := hc
          obtain ⟨f, hf, h2⟩ := List.exists_of_findSome?_eq_some h1
          split at h2
          · rename_i hd
            obtain ⟨d1, d2, d3, d4⟩ := hd
            cases h2
            intro ρ τ w c cf d hR hdd
            obtain ⟨m1, m2, m3, m4, m5, m6⟩ := id hR.1
            obtain ⟨g, hg, h3⟩ := List.any_eq_true.mp d4
            simp only [Bool.and_eq_true, decide_eq_true_eq] at h3
            obtain ⟨e1, e2, e3⟩ := h3
            have hgf := sy_eq_e m2 e2
            obtain ⟨f1, f2⟩ := m4 f hf
            obtain ⟨g1, g2⟩ := m4 g hg
            rw [hgf, e1] at g2
            have hsrc : sy_get w t.2.1 (sy_e ρ f.2.1).toNat = some (.int (Int32.ofInt t.2.2.1)) := by
              rw [g2]
              unfold sy_isK at e3
              split at e3
              · rename_i e he
                rw [he]
                have := sy_b_e m2 (of_decide_eq_true e3)
                show some (Value.int (Int32.ofInt (sy_e ρ e))) = _
                rw [show sy_e ρ e = t.2.2.1 by dsimp only at this; omega]
              · cases e3
            have hk : (((sy_e ρ f.2.1).toNat : Nat) : Int) < t.2.2.2.2.2 := by
              unfold sy_ub at d3
              split at d3
              · rename_i b hb
                have := sy_b_e m2 hb
                have := of_decide_eq_true d3
                omega
              · cases d3
            obtain ⟨z, z1, z2⟩ := sy_JT_ok ht (m6.2 t.1 (by simpa using c1)) hk hsrc
            rw [d1, z1, d2] at f2
            have hz : z = Int32.ofInt (sy_e ρ (0, [(y, 1)])) := by
              have f3 : Value.int z = Value.int (Int32.ofInt (sy_e ρ (0, [(y, 1)]))) := Option.some.inj f2
              injection f3
            have hy : sy_e ρ (0, [(y, 1)]) = ρ y := sy_x_e ρ y
            obtain ⟨r1, r2⟩ := m2 y r hr
            rw [hy] at hz
            have hzi : z.toInt = ρ y := by rw [hz]; exact sy_fit_e c2 r1 r2
            unfold sy_in at z2
            rw [hzi] at z2
            refine hG _ List.mem_cons_self ρ τ w c cf d ⟨sy_rng_ok hR.1 ?_ ?_, hR.2⟩ hdd
            · show max _ _ ≤ _; omega
            · show _ ≤ min _ _; omega
          · cases h2
        · cases h1
      · cases h
    · cases h
  · cases h
/-- the number on top is the speed of a ship that is there -/
def sy_p7 (Wr : sy_Wr) (S : sy_S) : Option (List sy_S) := if sy_pt S.2.1.1 S.2.1.2.1 = 5 ∧ (sy_js Wr).contains 2 = true then (match S.2.1.2.2.2 with
  | .inl (0, [(y, 1)]) :: _ => (match S.1.1[y]? with
    | some r => if sy_fit r = true ∧ ¬ (1 ≤ r.1 ∧ r.2 ≤ 40) then (S.1.2.2.2.findSome? (fun f => match f.2.1.2 with
      | [(s, 6)] => if f.1 = 152 ∧ f.2.2 = .inl (0, [(y, 1)]) ∧ f.2.1.1 = 250 ∧ sy_sr S.1.1 s = true ∧ S.1.2.2.2.any (fun g => decide (g.1 = 152) && (decide (g.2.1 = sy_c 6) && sy_cnt S.1.1 S.1.2.2.1 g.2.2 s)) = true then some (max r.1 1, min r.2 40) else none
      | _ => none)).map (fun p => [(sy_rng S.1 y p, S.2)]) else none
    | none => none)
  | _ => none) else none
theorem sy_p7_ok (h : sy_p7 q.2.2.1 S = some l) : sy_S1 x q S l := by
  intro hG
  unfold sy_p7 at h
  split at h
  · rename_i hc0
    split at h
    · rename_i y rest hst
      split at h
      · rename_i r hr
        split at h
        · rename_i hc
          obtain ⟨c2, c3⟩ := hc
          obtain ⟨p, hp, rfl⟩ := Option.map_eq_some_iff.mp h
          obtain ⟨f, hf, h2⟩ := List.exists_of_findSome?_eq_some hp
          split at h2
          · rename_i s hs
            split at h2
            · rename_i hd
              obtain ⟨d1, d2, d3, d4, d5⟩ := hd
              cases h2
              intro ρ τ w c cf d hR hdd
              obtain ⟨m1, m2, m3, m4, m5, m6⟩ := id hR.1
              obtain ⟨g, hg, h3⟩ := List.any_eq_true.mp d5
              simp only [Bool.and_eq_true, decide_eq_true_eq] at h3
              obtain ⟨e1, e2, e3⟩ := h3
              obtain ⟨f1, f2⟩ := m4 f hf
              obtain ⟨g1, g2⟩ := m4 g hg
              have hsb : 0 ≤ ρ s ∧ ρ s < 6 := by
                unfold sy_sr at d4
                split at d4
                · rename_i b hb
                  have := m2 s b hb
                  rw [Bool.and_eq_true, decide_eq_true_eq, decide_eq_true_eq] at d4
                  omega
                · cases d4
              unfold sy_cnt at e3
              split at e3
              · rename_i e he
                rw [Bool.and_eq_true] at e3
                rw [e1, e2, sy_c_e, he] at g2
                have g3 : sy_get w 152 6 = some (.int (Int32.ofInt (sy_e ρ e))) := g2
                have hfit : (Int32.ofInt (sy_e ρ e)).toInt = sy_e ρ e := by
                  have e4 := e3.1
                  split at e4
                  · rename_i p hp2
                    obtain ⟨p1, p2⟩ := sy_b_e m2 hp2
                    exact sy_fit_e e4 p1 p2
                  · cases e4
                have hpos := sy_pos_e m2 m3 e3.2
                rw [sy_add_e, sy_sub_e, sy_x_e, sy_c_e] at hpos
                have hix : sy_e ρ f.2.1 = 250 + 6 * ρ s := by
                  unfold sy_e
                  rw [d3, hs]
                  simp [sy_s]
                obtain ⟨z, z1, z2⟩ := (m6.2 2 (by simpa using hc0.2) : sy_jp 2 w) (ρ s).toNat (by omega) _ g3 (by rw [hfit]; omega)
                rw [d1, hix, d2, show (250 + 6 * ρ s).toNat = 250 + 6 * (ρ s).toNat by omega, z1] at f2
                have hz : z = Int32.ofInt (sy_e ρ (0, [(y, 1)])) := by
                  have f3 : Value.int z = Value.int (Int32.ofInt (sy_e ρ (0, [(y, 1)]))) := Option.some.inj f2
                  injection f3
                have hy : sy_e ρ (0, [(y, 1)]) = ρ y := sy_x_e ρ y
                obtain ⟨r1, r2⟩ := m2 y r hr
                rw [hy] at hz
                have hzi : z.toInt = ρ y := by rw [hz]; exact sy_fit_e c2 r1 r2
                unfold sy_in at z2
                rw [hzi] at z2
                refine hG _ List.mem_cons_self ρ τ w c cf d ⟨sy_rng_ok hR.1 ?_ ?_, hR.2⟩ hdd
                · show max _ _ ≤ _; omega
                · show _ ≤ min _ _; omega
              · cases e3
            · cases h2
          · cases h2
        · cases h
      · cases h
    · cases h
  · cases h
/-- a place is read ahead -/
theorem sy_goIntro {k j n : Nat} {sg : sy_Sg} (hw : sy_wS S = true) (hA : q.2.1[k]? = some (.inl (n, sg))) (hj : j < n) (hG : sy_Good x q ((S.1.1 ++ [sy_seg sg j], S.1.2.1, S.1.2.2.1, (k, sy_c (j : Int), .inl (sy_x S.1.1.length)) :: S.1.2.2.2), S.2)) : sy_Good x q S := by
  intro ρ τ w c cf d hR hd
  obtain ⟨l0, l1, l2, l3⟩ := sy_cell_i hR.1.2.2.2.2.1 hA
  have hg : l0[j]? = some l0[j] := List.getElem?_eq_getElem (by omega)
  have hin := l3 _ _ hg
  obtain ⟨ρ', e1, e2, ⟨m1, m2, m3, m4, m5, m6⟩, hf'⟩ := sy_fresh hw hR (v := l0[j].toInt) (r := sy_seg sg j) hin.1 hin.2
  refine hG ρ' τ w c cf d ⟨⟨m1, m2, m3, fun f hf => ?_, m5, m6⟩, hf'⟩ hd
  rcases List.mem_cons.mp hf with rfl | hf
  · show 0 ≤ sy_e ρ' (sy_c (j : Int)) ∧ sy_get w k (sy_e ρ' (sy_c (j : Int))).toNat = some (.int (Int32.ofInt (sy_e ρ' (sy_x S.1.1.length))))
    rw [sy_c_e, sy_x_e, e2, Int32.ofInt_toInt, sy_getI l1]
    refine ⟨by omega, ?_⟩
    rw [show ((j : Int)).toNat = j by omega, hg]
    rfl
  · exact m4 f hf
def sy_p8 (A : List sy_Ce) (S : sy_S) : Option (List sy_S) := if sy_pt S.2.1.1 S.2.1.2.1 = 6 then ([(172, 0), (172, 1), (172, 2), (172, 3), (176, 0), (176, 1), (176, 2), (176, 3), (177, 0), (177, 1), (177, 2), (177, 3)].findSome? (fun p : Nat × Nat => if S.1.2.2.2.any (fun f => f.1 == p.1 && decide (f.2.1 = sy_c (p.2 : Int))) = true then none else (match A[p.1]? with
  | some (.inl (n, sg)) => if p.2 < n ∧ sy_wS S = true then some [((S.1.1 ++ [sy_seg sg p.2], S.1.2.1, S.1.2.2.1, (p.1, sy_c (p.2 : Int), .inl (sy_x S.1.1.length)) :: S.1.2.2.2), S.2)] else none
  | _ => none))) else none
theorem sy_p8_ok (h : sy_p8 q.2.1 S = some l) : sy_S1 x q S l := by
  intro hG
  unfold sy_p8 at h
  split at h
  · obtain ⟨p, hp, h1⟩ := List.exists_of_findSome?_eq_some h
    split at h1
    · cases h1
    · split at h1
      · rename_i n sg hA
        split at h1
        · rename_i hc
          cases h1
          exact sy_goIntro hc.2 hA hc.1 (hG _ List.mem_cons_self)
        · cases h1
      · cases h1
  · cases h
def sy_pre (A : List sy_Ce) (Wr : sy_Wr) (M : px_M) (i : Instr) (S : sy_S) : Option (List sy_S) := px_or (sy_p0 A S) (px_or (sy_p1 S) (px_or (sy_p2 S) (px_or (sy_p3 i S) (px_or (sy_p4 i S) (px_or (sy_p6 Wr S) (px_or (sy_p7 Wr S) (px_or (sy_p8 A S) (sy_p5 A Wr M i S))))))))
theorem sy_pre_ok (h : sy_pre q.2.1 q.2.2.1 M i S = some l) : sy_S1 x q S l := by
  unfold sy_pre at h
  rcases px_or_some h with h | h
  · exact sy_p0_ok h
  rcases px_or_some h with h | h
  · exact sy_p1_ok h
  rcases px_or_some h with h | h
  · exact sy_p2_ok h
  rcases px_or_some h with h | h
  · exact sy_p3_ok h
  rcases px_or_some h with h | h
  · exact sy_p4_ok h
  rcases px_or_some h with h | h
  · exact sy_p6_ok h
  rcases px_or_some h with h | h
  · exact sy_p7_ok h
  rcases px_or_some h with h | h
  · exact sy_p8_ok h
  · exact sy_p5_ok h
end PR

end
end
section
noncomputable section
/-! A NEW NUMBER WITH WHAT IT TELLS -/
theorem sy_sh31 : ∀ y : Fin 31, ((Int32.ofInt (y.val : Int) &&& 31).toBitVec.smod 32).toNat = y.val := by decide
theorem sy_sh {X : Int32} {z : Int} (h0 : 0 ≤ z) (h1 : z ≤ 30) : (X >>> (Int32.ofInt z &&& 31)).toInt = X.toInt / ((2 ^ z.toNat : Nat) : Int) := by
  have h2 := sy_sh31 ⟨z.toNat, by omega⟩
  dsimp only at h2
  rw [show ((z.toNat : Nat) : Int) = z by omega] at h2
  have h3 : (X >>> (Int32.ofInt z &&& 31)).toInt = (X.toBitVec.sshiftRight ((Int32.ofInt z &&& 31).toBitVec.smod 32).toNat).toInt := rfl
  rw [h3, h2, BitVec.toInt_sshiftRight, Int.shiftRight_eq_div_pow]
  rfl
theorem sy_sh2 {X q : Int} {a b : Nat} (h : q = X / ((2 ^ a : Nat) : Int)) (hX : 0 ≤ X) (hab : a ≤ b) : 0 ≤ q ∧ q ≤ X ∧ 0 ≤ ((2 ^ b : Nat) : Int) * q + (((2 ^ b : Nat) : Int) - 1) - X := by
  have hp : 0 < 2 ^ a := Nat.pow_pos (by omega)
  have hp2 : (2 ^ a : Nat) ≤ 2 ^ b := Nat.pow_le_pow_right (by omega) hab
  have hq : 0 ≤ q := by rw [h]; exact Int.ediv_nonneg hX (by omega)
  have h1 : X < ((2 ^ a : Nat) : Int) * (q + 1) := by
    rw [h]
    have := Int.lt_mul_ediv_self_add (x := X) (k := ((2 ^ a : Nat) : Int)) (by omega)
    rw [Int.mul_add, Int.mul_one]
    exact this
  have h2 : ((2 ^ a : Nat) : Int) * (q + 1) ≤ ((2 ^ b : Nat) : Int) * (q + 1) := Int.mul_le_mul_of_nonneg_right (by omega) (by omega)
  have h3 : q ≤ X := by
    rw [h]
    exact Int.ediv_le_self _ hX
  have h4 : ((2 ^ b : Nat) : Int) * (q + 1) = ((2 ^ b : Nat) : Int) * q + ((2 ^ b : Nat) : Int) := by rw [Int.mul_add, Int.mul_one]
  rw [h4] at h2
  generalize ((2 ^ b : Nat) : Int) * q = B at *
  generalize ((2 ^ a : Nat) : Int) * (q + 1) = C at *
  generalize ((2 ^ b : Nat) : Int) = E at *
  omega
def sy_oc (i : Instr) : Nat := match i with
  | .ishr => 1
  | .iand => 2
  | .iushr => 3
  | .idiv => 5
  | .irem => 6
  | _ => 0
section RE
variable {x : sy_X} {q : sy_Q} {S : sy_S} {M : px_M} {i : Instr} {len : Nat} {l : List sy_S}
theorem sy_goFc {rg : Int × Int} {pc' : Nat} {pre r : List sy_A} {cs : List sy_L} (hw : sy_wS S = true) (hM : q.1[S.2.1.1]? = some M) (hst : S.2.1.2.2.2 = pre ++ r)
    (hs : ∀ (ρ : Nat → Int) (τ : Nat → Int64) (w : px_W) (lc : List (Nat × Value)) (cf : List pf_F) (d : Nat), sy_mem q S.1 ρ τ w → d + cf.length = x.2.2.2.2.2.2 → ∃ Z : Int32, rg.1 ≤ Z.toInt ∧ Z.toInt ≤ rg.2 ∧ (∀ ρ' : Nat → Int, (∀ i, i < S.1.1.length → ρ' i = ρ i) → ρ' S.1.1.length = Z.toInt → sy_cok ρ' cs) ∧ px_step x.1 x.2.1 x.2.2.1 d (pf_scr x.2.2.2.1 cf) M S.2.1.2.1 lc (S.2.1.2.2.2.map (sy_v ρ τ)) w = some (.inl (pc', lc, .int Z :: r.map (sy_v ρ τ), w, 0, 0)))
    (hG : sy_Good x q (sy_at S (S.1.1 ++ [rg], S.1.2.1, cs ++ S.1.2.2.1, S.1.2.2.2) pc' S.2.1.2.2.1 (.inl (sy_x S.1.1.length) :: r))) : sy_Good x q S := by
  refine sy_open (fun ρ τ w lc cf d hm hl hf hd => ?_) hM
  obtain ⟨Z, h1, h2, h2a, h3⟩ := hs ρ τ w lc cf d hm hd
  obtain ⟨ρ', e1, e2, ⟨m1, m2, m3, m4⟩, ⟨f1, f2, f3, f4⟩, hf'⟩ := sy_fresh (c := (M, S.2.1.2.1, lc, S.2.1.2.2.2.map (sy_v ρ τ))) hw ⟨hm, ⟨hM, rfl, hl, rfl⟩, hf⟩ h1 h2
  refine pf_next h3 ?_
  have f4' : S.2.1.2.2.2.map (sy_v ρ τ) = S.2.1.2.2.2.map (sy_v ρ' τ) := f4
  rw [hst, List.map_append, List.map_append] at f4'
  have hr := (List.append_inj' f4' (by rw [List.length_map, List.length_map])).2
  have hm' : sy_mem q (S.1.1 ++ [rg], S.1.2.1, cs ++ S.1.2.2.1, S.1.2.2.2) ρ' τ w := ⟨m1, m2, fun z hz => by
    rcases List.mem_append.mp hz with hz | hz
    · exact h2a ρ' e1 e2 z hz
    · exact m3 z hz, m4⟩
  have hu := sy_use hG hM hm' f3 hf' hd
  have e3 : (.inl (sy_x S.1.1.length) :: r : List sy_A).map (sy_v ρ' τ) = .int Z :: r.map (sy_v ρ τ) := by
    show Value.int (Int32.ofInt (sy_e ρ' (sy_x S.1.1.length))) :: r.map (sy_v ρ' τ) = _
    rw [sy_x_e, e2, Int32.ofInt_toInt, hr]
  rw [e3] at hu
  exact hu
theorem sy_bstep {a b : sy_L} {r : List sy_A} {Z : Int32} {ρ : Nat → Int} {τ : Nat → Int64} {w : px_W} {lc : List (Nat × Value)} {scr : Option (List Int32)} {d : Nat} (hq : px_look M.2.1 S.2.1.2.1 = some (i, 1)) (h1 : px_so1 i = 1) (hst : S.2.1.2.2.2 = .inl b :: .inl a :: r) (h2 : px_bin i (Int32.ofInt (sy_e ρ a)) (Int32.ofInt (sy_e ρ b)) = some Z) : px_step x.1 x.2.1 x.2.2.1 d scr M S.2.1.2.1 lc (S.2.1.2.2.2.map (sy_v ρ τ)) w = some (.inl (S.2.1.2.1 + 1, lc, .int Z :: r.map (sy_v ρ τ), w, 0, 0)) := by
  refine (fun hs : px_s1 i 1 S.2.1.2.1 M.1.2.2.1 lc (S.2.1.2.2.2.map (sy_v ρ τ)) = some (S.2.1.2.1 + 1, lc, .int Z :: r.map (sy_v ρ τ)) => px_step_1 hq hs) ?_
  refine px_s1_1 h1 ?_
  rw [hst]
  show (if 1 = 1 then (px_bin i (Int32.ofInt (sy_e ρ a)) (Int32.ofInt (sy_e ρ b))).map _ else none) = _
  rw [if_pos rfl, h2]
  rfl
theorem sy_wst {e : sy_L} (hw : sy_wS S = true) (he : .inl e ∈ S.2.1.2.2.2) : sy_wl S.1.1.length e = true := by
  unfold sy_wS sy_wf at hw
  simp only [Bool.and_eq_true] at hw
  exact List.all_eq_true.mp hw.2.1.2 (.inl e) he
/-- a half -/
def sy_n1 (i : Instr) (len : Nat) (S : sy_S) : Option (List sy_S) := match i, S.2.1.2.2.2 with
  | .idiv, .inl b :: .inl a :: r => if len = 1 ∧ sy_wS S = true ∧ b = sy_c 2 ∧ a.2.isEmpty = false then (match sy_b S.1.1 a, sy_bn S.1.1 .idiv a b with
    | some p, some rg => if sy_fit p = true ∧ 0 ≤ p.1 then some [sy_at S (S.1.1 ++ [rg], S.1.2.1, [sy_sub a (sy_scl 2 (sy_x S.1.1.length)), sy_add (sy_sub (sy_scl 2 (sy_x S.1.1.length)) a) (sy_c 1)] ++ S.1.2.2.1, S.1.2.2.2) (S.2.1.2.1 + 1) S.2.1.2.2.1 (.inl (sy_x S.1.1.length) :: r)] else none
    | _, _ => none) else none
  | _, _ => none
theorem sy_n1_ok (hM : q.1[S.2.1.1]? = some M) (hq : px_look M.2.1 S.2.1.2.1 = some (i, len)) (h : sy_n1 i len S = some l) : sy_S1 x q S l := by
  intro hG
  unfold sy_n1 at h
  split at h
  · rename_i b a r hst
    split at h
    · rename_i hc
      obtain ⟨c1, c2, c3, c4⟩ := hc
      subst c1
      split at h
      · rename_i p rg hp hrg
        split at h
        · rename_i hc
          cases h
          refine sy_goFc (pre := [.inl b, .inl a]) c2 hM hst (fun ρ τ w lc cf d hm _ => ?_) (hG _ List.mem_cons_self)
          obtain ⟨Z, z1, z2, z3⟩ := sy_bn_ok hm.2.1 hrg
          have hwa := sy_wst (S := S) (e := a) c2 (by rw [hst]; exact List.mem_cons_of_mem _ List.mem_cons_self)
          obtain ⟨p1, p2⟩ := sy_b_e hm.2.1 hp
          have ex := sy_fit_e hc.1 p1 p2
          refine ⟨Z, z2, z3, fun ρ' a1 a2 => ?_, sy_bstep hq rfl hst z1⟩
          have he := sy_ext_l a1 hwa
          subst c3
          rw [sy_c_e] at z1
          have hz : Z = Int32.ofInt (sy_e ρ a) / Int32.ofInt 2 := by
            have hne : ¬ Int32.ofInt 2 = 0 := by decide
            have : px_bin .idiv (Int32.ofInt (sy_e ρ a)) (Int32.ofInt 2) = some (Int32.ofInt (sy_e ρ a) / Int32.ofInt 2) := by
              show (if Int32.ofInt 2 = 0 then (none : Option Int32) else some (Int32.ofInt (sy_e ρ a) / Int32.ofInt 2)) = _
              rw [if_neg hne]
            rw [this] at z1
            exact (Option.some.inj z1).symm
          have hd2 := Int32.toInt_div_of_ne_right (Int32.ofInt (sy_e ρ a)) (Int32.ofInt 2) (by decide)
          rw [← hz, ex, show (Int32.ofInt 2).toInt = 2 by decide, Int.tdiv_eq_ediv_of_nonneg (by omega)] at hd2
          intro z hz2
          rcases List.mem_cons.mp hz2 with rfl | hz2
          · rw [sy_sub_e, sy_scl_e, sy_x_e, a2, he]; omega
          · rw [List.mem_singleton.mp hz2, sy_add_e, sy_sub_e, sy_scl_e, sy_x_e, sy_c_e, a2, he]; omega
        · cases h
      · cases h
    · cases h
  · cases h
/-- a shift to the right -/
def sy_n2 (i : Instr) (len : Nat) (S : sy_S) : Option (List sy_S) := if sy_pt S.2.1.1 S.2.1.2.1 = 3 then (match i, S.2.1.2.2.2 with
  | .ishr, .inl b :: .inl a :: r => if len = 1 ∧ sy_wS S = true then (match sy_b S.1.1 a, sy_b S.1.1 b with
    | some p, some s => if sy_fit p = true ∧ 0 ≤ p.1 ∧ 0 ≤ s.1 ∧ s.2 ≤ 30 then some [sy_at S (S.1.1 ++ [(0, p.2)], S.1.2.1, [sy_sub (sy_add (sy_scl ((2 ^ s.2.toNat : Nat) : Int) (sy_x S.1.1.length)) (sy_c (((2 ^ s.2.toNat : Nat) : Int) - 1))) a] ++ S.1.2.2.1, S.1.2.2.2) (S.2.1.2.1 + 1) S.2.1.2.2.1 (.inl (sy_x S.1.1.length) :: r)] else none
    | _, _ => none) else none
  | _, _ => none) else none
theorem sy_n2_ok (hM : q.1[S.2.1.1]? = some M) (hq : px_look M.2.1 S.2.1.2.1 = some (i, len)) (h : sy_n2 i len S = some l) : sy_S1 x q S l := by
  intro hG
  unfold sy_n2 at h
  split at h
  · split at h
    · rename_i b a r hst
      split at h
      · rename_i hc
        obtain ⟨c1, c2⟩ := hc
        subst c1
        split at h
        · rename_i p s hp hs
          split at h
          · rename_i hc
            obtain ⟨d1, d2, d3, d4⟩ := hc
            cases h
            refine sy_goFc (pre := [.inl b, .inl a]) c2 hM hst (fun ρ τ w lc cf d hm _ => ?_) (hG _ List.mem_cons_self)
            have hwa := sy_wst (S := S) (e := a) c2 (by rw [hst]; exact List.mem_cons_of_mem _ List.mem_cons_self)
            obtain ⟨p1, p2⟩ := sy_b_e hm.2.1 hp
            obtain ⟨s1, s2⟩ := sy_b_e hm.2.1 hs
            have ex := sy_fit_e d1 p1 p2
            have hz := sy_sh (X := Int32.ofInt (sy_e ρ a)) (z := sy_e ρ b) (by omega) (by omega)
            rw [ex] at hz
            obtain ⟨k1, k2, k3⟩ := sy_sh2 (b := s.2.toNat) hz (by omega) (by omega)
            refine ⟨_, k1, by show _ ≤ p.2; omega, fun ρ' a1 a2 => ?_, sy_bstep hq rfl hst rfl⟩
            have he := sy_ext_l a1 hwa
            intro z hz2
            rw [List.mem_singleton.mp hz2, sy_sub_e, sy_add_e, sy_scl_e, sy_x_e, sy_c_e, a2, he]
            exact k3
          · cases h
        · cases h
      · cases h
    · cases h
  · cases h
/-- the same number and constant as before -/
def sy_n3 (A : List sy_Ce) (i : Instr) (len : Nat) (S : sy_S) : Option (List sy_S) := if sy_mm S.2.1.1 = true ∧ 1 ≤ sy_oc i then (match S.2.1.2.2.2 with
  | .inl b :: .inl a :: r => if len = 1 ∧ sy_wS S = true ∧ px_so1 i = 1 ∧ b.2.isEmpty = true ∧ a.2.isEmpty = false ∧ -2147483648 ≤ b.1 ∧ b.1 ≤ 2147483647 ∧ A.length ≤ 8589934592 then (match sy_b S.1.1 a, sy_bn S.1.1 i a b with
    | some p, some rg => if sy_fit p = true ∧ sy_wl S.1.1.length (sy_add a (sy_c 2147483648)) = true then (match S.1.2.2.2.find? (fun f => f.1 == sy_oc i * 8589934592 + (b.1 + 2147483648).toNat && sy_eq S.1.1 f.2.1 (sy_add a (sy_c 2147483648))) with
      | some (_, _, .inl e) => some [sy_at S S.1 (S.2.1.2.1 + 1) S.2.1.2.2.1 (.inl e :: r)]
      | _ => some [sy_at S (S.1.1 ++ [rg], S.1.2.1, S.1.2.2.1, (sy_oc i * 8589934592 + (b.1 + 2147483648).toNat, sy_add a (sy_c 2147483648), .inl (sy_x S.1.1.length)) :: S.1.2.2.2) (S.2.1.2.1 + 1) S.2.1.2.2.1 (.inl (sy_x S.1.1.length) :: r)]) else none
    | _, _ => none) else none
  | _ => none) else none
theorem sy_px_ok {i : Instr} {z c : Int} {Z : Int32} (ho : 1 ≤ sy_oc i) (hz : -2147483648 ≤ z ∧ z ≤ 2147483647) (hc : -2147483648 ≤ c ∧ c ≤ 2147483647) (h : px_bin i (Int32.ofInt z) (Int32.ofInt c) = some Z) : sy_px (sy_oc i * 8589934592 + (c + 2147483648).toNat) (z + 2147483648).toNat = some (.int Z) := by
  have e1 : (((z + 2147483648).toNat : Nat) : Int) - 2147483648 = z := by omega
  have e2 : ∀ n : Nat, (n * 8589934592 + (c + 2147483648).toNat) / 8589934592 = n := fun n => by omega
  have e3 : ∀ n : Nat, (((n * 8589934592 + (c + 2147483648).toNat) % 8589934592 : Nat) : Int) - 2147483648 = c := fun n => by omega
  unfold sy_px
  rw [e2, e3, e1]
  unfold sy_oc at *
  split at ho
  · show (px_bin .ishr _ _).map Value.int = _
    rw [h]; rfl
  · show (px_bin .iand _ _).map Value.int = _
    rw [h]; rfl
  · show (px_bin .iushr _ _).map Value.int = _
    rw [h]; rfl
  · show (px_bin .idiv _ _).map Value.int = _
    rw [h]; rfl
  · show (px_bin .irem _ _).map Value.int = _
    rw [h]; rfl
  · omega
theorem sy_n3_ok (hM : q.1[S.2.1.1]? = some M) (hq : px_look M.2.1 S.2.1.2.1 = some (i, len)) (h : sy_n3 q.2.1 i len S = some l) : sy_S1 x q S l := by
  intro hG
  unfold sy_n3 at h
  split at h
  · rename_i ho
    obtain ⟨-, ho⟩ := ho
    split at h
    · rename_i b a r hst
      split at h
      · rename_i hc
        obtain ⟨c1, c2, c3, c4, c5, c6, c7, c8⟩ := hc
        subst c1
        have hb : b.2 = [] := List.isEmpty_iff.mp c4
        have get : ∀ (ρ : Nat → Int) (τ : Nat → Int64) (w : px_W) (Z : Int32), sy_mem q S.1 ρ τ w → (-2147483648 ≤ sy_e ρ a ∧ sy_e ρ a ≤ 2147483647) → px_bin i (Int32.ofInt (sy_e ρ a)) (Int32.ofInt (sy_e ρ b)) = some Z → 0 ≤ sy_e ρ (sy_add a (sy_c 2147483648)) ∧ sy_get w (sy_oc i * 8589934592 + (b.1 + 2147483648).toNat) (sy_e ρ (sy_add a (sy_c 2147483648))).toNat = some (.int Z) := by
          intro ρ τ w Z hm ha hz
          rw [sy_e_nil hb] at hz
          have h1 := sy_px_ok ho ha ⟨c6, c7⟩ hz
          have h2 : w[sy_oc i * 8589934592 + (b.1 + 2147483648).toNat]? = none := List.getElem?_eq_none (by have := hm.2.2.2.2.1.1; omega)
          rw [sy_add_e, sy_c_e]
          refine ⟨by omega, ?_⟩
          unfold sy_get
          rw [h2]
          exact h1
        split at h
        · rename_i p rg hp hrg
          split at h
          · rename_i hc2
            have hfit : ∀ (ρ : Nat → Int) (τ : Nat → Int64) (w : px_W), sy_mem q S.1 ρ τ w → -2147483648 ≤ sy_e ρ a ∧ sy_e ρ a ≤ 2147483647 := by
              intro ρ τ w hm
              obtain ⟨p1, p2⟩ := sy_b_e hm.2.1 hp
              have := hc2.1
              unfold sy_fit at this
              simp only [Bool.and_eq_true, decide_eq_true_eq] at this
              omega
            split at h
            · rename_i k fx e hfind
              cases h
              have hmm := List.mem_of_find?_eq_some hfind
              have hpp := List.find?_some hfind
              rw [Bool.and_eq_true] at hpp
              refine sy_goD hM (fun ρ τ w lc cf d hm _ => ?_) (hG _ List.mem_cons_self)
              obtain ⟨Z, z1, z2, z3⟩ := sy_bn_ok hm.2.1 hrg
              have g1 := (get ρ τ w Z hm (hfit ρ τ w hm) z1).2
              have g2 := (hm.2.2.2.1 _ hmm).2
              have hk : k = sy_oc i * 8589934592 + (b.1 + 2147483648).toNat := eq_of_beq hpp.1
              have he : sy_e ρ fx = sy_e ρ (sy_add a (sy_c 2147483648)) := sy_eq_e hm.2.1 hpp.2
              dsimp only at g2
              rw [hk, he, g1] at g2
              have g3 : Value.int Z = sy_v ρ τ (.inl e) := Option.some.inj g2
              have hs := sy_bstep (x := x) (τ := τ) (w := w) (lc := lc) (scr := pf_scr x.2.2.2.1 cf) (d := d) hq c3 hst z1
              rw [g3] at hs
              exact hs
            · cases h
              refine sy_goFa (pre := [.inl b, .inl a]) c2 hc2.2 hM hst (fun ρ τ w lc cf d hm _ => ?_) (hG _ List.mem_cons_self)
              obtain ⟨Z, z1, z2, z3⟩ := sy_bn_ok hm.2.1 hrg
              obtain ⟨g1, g2⟩ := get ρ τ w Z hm (hfit ρ τ w hm) z1
              exact ⟨Z, z2, z3, g1, g2, sy_bstep hq c3 hst z1⟩
          · cases h
        · cases h
      · cases h
    · cases h
  · cases h
def sy_uN (A : List sy_Ce) (i : Instr) (len : Nat) (S : sy_S) : Option (List sy_S) := px_or (sy_n1 i len S) (px_or (sy_n2 i len S) (sy_n3 A i len S))
theorem sy_uN_ok (hM : q.1[S.2.1.1]? = some M) (hq : px_look M.2.1 S.2.1.2.1 = some (i, len)) (h : sy_uN q.2.1 i len S = some l) : sy_S1 x q S l := by
  unfold sy_uN at h
  rcases px_or_some h with h | h
  · exact sy_n1_ok hM hq h
  rcases px_or_some h with h | h
  · exact sy_n2_ok hM hq h
  · exact sy_n3_ok hM hq h
end RE

end
end
section
noncomputable section
/-! A CHECK OF A CONTRACT, BY PROGRAM -/
/-- which symbol stands for what: a guess, that is checked afterwards -/
def sy_un1 (σ : List (Nat × sy_L)) (pat act : sy_L) : List (Nat × sy_L) :=
  let kn := pat.2.foldl (fun (acc : sy_L × List (Nat × Int)) t => match px_look σ t.1 with
    | some e => (sy_add acc.1 (sy_scl t.2 e), acc.2)
    | none => (acc.1, t :: acc.2)) ((pat.1, []), [])
  match kn.2 with
  | [(i, c)] =>
    let z := sy_sub act kn.1
    if c ≠ 0 ∧ z.1 % c = 0 ∧ z.2.all (fun t => decide (t.2 % c = 0)) = true then (i, (z.1 / c, z.2.map (fun t => (t.1, t.2 / c)))) :: σ else σ
  | _ => σ
abbrev sy_Un : Type := List (Nat × sy_L) × List (Nat × Nat)
def sy_unA (u : sy_Un) (pat act : sy_A) : sy_Un := match pat, act with
  | .inl p, .inl a => (sy_un1 u.1 p a, u.2)
  | .inr (.inr s), .inr (.inr t) => if (px_look u.2 s).isSome = true then u else (u.1, (s, t) :: u.2)
  | _, _ => u
def sy_sbq (σ : List (Nat × sy_L)) : List (Nat × Int) → Option sy_L
  | [] => some (0, [])
  | t :: r => match px_look σ t.1, sy_sbq σ r with
    | some e, some z => some (sy_add (sy_scl t.2 e) z)
    | _, _ => none
def sy_unF (R : sy_T) (F : List sy_Fa) (u : sy_Un) (f : sy_Fa) : sy_Un := match sy_sbq u.1 f.2.1.2 with
  | some z => (match F.find? (fun g => g.1 == f.1 && sy_eq R g.2.1 (f.2.1.1 + z.1, z.2)) with
    | some g => sy_unA u f.2.2 g.2.2
    | none => u)
  | none => u
def sy_unP : sy_Un → List sy_A → List sy_A → sy_Un
  | u, p :: ps, a :: as => sy_unP (sy_unA u p a) ps as
  | u, _, _ => u
def sy_unL (lv : List (Nat × sy_A)) : sy_Un → List (Nat × sy_A) → sy_Un
  | u, [] => u
  | u, p :: ps => sy_unL lv (match px_look lv p.1 with
    | some a => sy_unA u p.2 a
    | none => u) ps
def sy_fσ (T : sy_T) (u : sy_Un) : List sy_L := (List.range T.length).map (fun i => (px_look u.1 i).getD (sy_c (T.getD i (0, 0)).1))
def sy_fσL (n : Nat) (u : sy_Un) : List Nat := (List.range n).map (fun i => (px_look u.2 i).getD 0)
def sy_mapO {α β : Type} (f : α → Option β) : List α → Option (List β)
  | [] => some []
  | a :: r => match f a, sy_mapO f r with
    | some b, some l => some (b :: l)
    | _, _ => none
theorem sy_mapO_ok {α β : Type} {f : α → Option β} : ∀ {l : List α} {m : List β}, sy_mapO f l = some m → ∀ a ∈ l, ∃ b ∈ m, f a = some b
  | [], _, _, a, ha => absurd ha List.not_mem_nil
  | a0 :: r, m, h, a, ha => by
    unfold sy_mapO at h
    split at h
    · rename_i b l hb hl
      cases h
      rcases List.mem_cons.mp ha with rfl | ha
      · exact ⟨b, List.mem_cons_self, hb⟩
      · obtain ⟨b2, h2, h3⟩ := sy_mapO_ok hl a ha
        exact ⟨b2, List.mem_cons_of_mem _ h2, h3⟩
    · cases h
section CK
variable {x : sy_X} {q : sy_Q} {S : sy_S} {M : px_M} {i : Instr} {len : Nat} {l : List sy_S}
def sy_tryC (P : List px_M) (Wr : sy_Wr) (D : Nat) (S : sy_S) (z : Nat × List sy_A × List sy_A) (σ : List sy_L) (σL : List Nat) (C : sy_Co) : Option (List sy_S) := match P[z.1]? with
  | some M' => if z.1 = C.1 ∧ sy_len z.2.1 ≤ M'.1.2.2.1 ∧ S.2.2.length + 1 + C.2.2.2.2.1 ≤ D ∧ sy_eqs S.1.1 σ σL z.2.1 C.2.2.1 = true ∧ sy_fitG S.1 σ σL C.2.1 = true ∧ sy_wS S = true ∧ σ.length = C.2.1.1.length ∧ σ.all (sy_wl S.1.1.length) = true ∧ sy_wsub C.2.2.2.1 Wr = true ∧ sy_jc C.2.2.2.1 Wr = true ∧ z.2.2.all (sy_wa S.1.1.length S.1.2.1) = true ∧ C.2.2.2.2.2.all (fun p => decide (C.2.1.1.length ≤ p.1.1.length)) = true then sy_mapO (sy_aft S C σ z.2.2) C.2.2.2.2.2 else none
  | none => none
theorem sy_tryC_ok {D : Nat} {z : Nat × List sy_A × List sy_A} {σ : List sy_L} {σL : List Nat} {C : sy_Co} (hC : sy_Met x.1 x.2.1 x.2.2.1 q.2.1 x.2.2.2.2.1 C) (hD : D ≤ x.2.2.2.2.2.2) (hM : q.1[S.2.1.1]? = some M) (hq : px_look M.2.1 S.2.1.2.1 = some (i, len)) (hz : sy_cl x.1 q.2.1 x.2.2.1 i len M.2.2 S.2.1.2.2.2 = some z) (h : sy_tryC x.2.2.1 q.2.2.1 D S z σ σL C = some l) : sy_S1 x q S l := by
  intro hG
  unfold sy_tryC at h
  split at h
  · rename_i M' hM'
    split at h
    · rename_i hc
      obtain ⟨c1, c2, c3, c4, c5, c6, c7, c8, c9, c9j, c10, c11⟩ := hc
      refine sy_goMet hC c6 hM hq hz c1 hM' c2 (by omega) c5 c7 c8 c4 c9 c9j c10 (fun p hp => ?_)
      obtain ⟨S', hS', he⟩ := sy_mapO_ok h p hp
      exact ⟨of_decide_eq_true (List.all_eq_true.mp c11 p hp), S', he, hG S' hS'⟩
    · cases h
  · cases h
def sy_uM (P : List px_M) (Wr : sy_Wr) (D : Nat) (S : sy_S) (z : Nat × List sy_A × List sy_A) : List sy_Co → Option (List sy_S)
  | [] => none
  | C :: r => px_or (if z.1 = C.1 then
      let u := C.2.1.2.2.2.foldl (sy_unF S.1.1 S.1.2.2.2) (sy_unP ([], []) C.2.2.1 z.2.1)
      sy_tryC P Wr D S z (sy_fσ C.2.1.1 u) (sy_fσL C.2.1.2.1 u) C else none) (sy_uM P Wr D S z r)
theorem sy_uM_ok {D : Nat} {z : Nat × List sy_A × List sy_A} (hD : D ≤ x.2.2.2.2.2.2) (hM : q.1[S.2.1.1]? = some M) (hq : px_look M.2.1 S.2.1.2.1 = some (i, len)) (hz : sy_cl x.1 q.2.1 x.2.2.1 i len M.2.2 S.2.1.2.2.2 = some z) : ∀ Cs : List sy_Co, (∀ C ∈ Cs, sy_Met x.1 x.2.1 x.2.2.1 q.2.1 x.2.2.2.2.1 C) → sy_uM x.2.2.1 q.2.2.1 D S z Cs = some l → sy_S1 x q S l
  | [], _, h => by cases h
  | C :: r, hC, h => by
    unfold sy_uM at h
    rcases px_or_some h with h | h
    · split at h
      · exact sy_tryC_ok (hC C List.mem_cons_self) hD hM hq hz h
      · cases h
    · exact sy_uM_ok hD hM hq hz r (fun C' h' => hC C' (List.mem_cons_of_mem _ h')) h
/-- one step of any sort -/
def sy_suc (cl : List vw_C) (lt : List (List Int32)) (P : List px_M) (A : List sy_Ce) (Wr : sy_Wr) (Cs : List sy_Co) (D : Nat) (S : sy_S) : Option (List sy_S) := match P[S.2.1.1]? with
  | none => none
  | some M => (match px_look M.2.1 S.2.1.2.1 with
    | none => none
    | some (i, len) => px_or (sy_pre A Wr M i S) (px_or (sy_uN A i len S) (px_or (sy_u1 M i len S) (px_or (sy_uB i len S) (px_or (sy_uR A M i len S) (px_or (sy_uW cl A Wr M i len S) (px_or (sy_uK lt A M i len S) (px_or (sy_uA i len S) (px_or (sy_uV M i len S) (px_or (sy_uX D M i len S) (px_or (sy_uL lt A Wr M i len S) (px_or (sy_uY A Wr D M i len S) (match sy_cl cl A P i len M.2.2 S.2.1.2.2.2 with
      | some z => if Cs.any (fun C => C.1 == z.1) = true then sy_uM P Wr D S z Cs else sy_uC cl P A D M i len S
      | none => none)))))))))))))
theorem sy_suc_ok {D : Nat} {Cs : List sy_Co} (hCs : ∀ C ∈ Cs, sy_Met x.1 x.2.1 x.2.2.1 q.2.1 x.2.2.2.2.1 C) (hD : D ≤ x.2.2.2.2.2.2) (hP : q.1 = x.2.2.1) (h : sy_suc x.1 x.2.1 x.2.2.1 q.2.1 q.2.2.1 Cs D S = some l) : sy_S1 x q S l := by
  unfold sy_suc at h
  split at h
  · cases h
  · rename_i M hM
    rw [← hP] at hM
    split at h
    · cases h
    · rename_i i len hq
      rcases px_or_some h with h | h
      · exact sy_pre_ok h
      rcases px_or_some h with h | h
      · exact sy_uN_ok hM hq h
      rcases px_or_some h with h | h
      · exact sy_u1_ok hM hq h
      rcases px_or_some h with h | h
      · exact sy_uB_ok hM hq h
      rcases px_or_some h with h | h
      · exact sy_uR_ok hM hq h
      rcases px_or_some h with h | h
      · exact sy_uW_ok hM hq h
      rcases px_or_some h with h | h
      · exact sy_uK_ok hM hq h
      rcases px_or_some h with h | h
      · exact sy_uA_ok hM hq h
      rcases px_or_some h with h | h
      · exact sy_uV_ok hM hq h
      rcases px_or_some h with h | h
      · exact sy_uX_ok hD hM hq h
      rcases px_or_some h with h | h
      · exact sy_uL_ok hM hq h
      rcases px_or_some h with h | h
      · exact sy_uY_ok hD hM hq h
      split at h
      · rename_i z hz
        split at h
        · exact sy_uM_ok hD hM hq hz Cs hCs h
        · exact sy_uC_ok hD hP hM hq h
      · cases h
/-- a state that fits one of the cuts, or ends by one of the ends -/
def sy_idσ (N0 : Nat) : List (Nat × sy_L) := (List.range N0).map (fun i => (i, sy_x i))
/-- symbols of a cut of which nothing is known: the symbols of the same number, or one of them 1 -/
def sy_unk (T : sy_T) (u : sy_Un) : List Nat := (List.range T.length).filter (fun i => (px_look u.1 i).isNone)
def sy_σ1 (l : List Nat) (σ : List sy_L) : List sy_L := l.foldl (fun σ i => σ.set i (sy_x i)) σ
def sy_atC (N0 : Nat) (m : sy_L) (S : sy_S) (c : sy_Cut) : Bool := decide (S.2.1.2.1 = c.1) && (let u := c.2.1.2.2.2.foldl (sy_unF S.1.1 S.1.2.2.2) (sy_unL S.2.1.2.2.1 (sy_idσ N0, []) c.2.2.1)
  sy_fitC N0 S c (sy_fσ c.2.1.1 u) (sy_fσL c.2.1.2.1 u) m || (match sy_unk c.2.1.1 u with
    | [] => false
    | i :: r => sy_fitC N0 S c (sy_σ1 (i :: r) (sy_fσ c.2.1.1 u)) (sy_fσL c.2.1.2.1 u) m || (i :: r).any (fun j => sy_fitC N0 S c ((sy_σ1 (i :: r) (sy_fσ c.2.1.1 u)).set j (sy_c 1)) (sy_fσL c.2.1.2.1 u) m)))
def sy_atP (N0 : Nat) (g : sy_G) (v : Option sy_A) (p : sy_Po) : Bool := let u := p.1.2.2.2.foldl (sy_unF g.1 g.2.2.2) (match v, p.2 with
    | some a, some b => sy_unA (sy_idσ N0, []) b a
    | _, _ => (sy_idσ N0, []))
  sy_fitP N0 g v (sy_fσ p.1.1 u) (sy_fσL p.1.2.1 u) p
/-- a form beyond the ints -/
def sy_uf (R : sy_T) (v : Option sy_A) : Bool := match v with
  | some (.inl e) => (match sy_b R e with
    | some b => !sy_fit b
    | none => false)
  | _ => false
/-- none: go on; true: fits -/
def sy_halt (P : List px_M) (C : sy_Co) (cuts : List sy_Cut) (m : sy_L) (S : sy_S) : Option Bool := match S.2.2 with
  | _ :: _ => none
  | [] => if S.2.1.2.2.2 = [] ∧ cuts.any (fun c => c.1 == S.2.1.2.1) = true ∧ S.2.1.1 = C.1 then some (cuts.any (sy_atC C.2.1.1.length m S)) else (match P[S.2.1.1]? with
    | some M => (match px_look M.2.1 S.2.1.2.1 with
      | some (i, len) => (match sy_rt S.1.1 i len M.1.2.2.2.1 S.2.1.2.2.2 with
        | some v => if sy_uf S.1.1 v = true then none else some (C.2.2.2.2.2.any (sy_atP C.2.1.1.length S.1 v))
        | none => none)
      | none => none)
    | none => none)
theorem sy_halt_ok {cuts : List sy_Cut} {C : sy_Co} {ρ0 : Nat → Int} {m : sy_L} (hMC : x.2.2.1[C.1]? = some M) (hI : sy_I x q.2.1 q.2.2.1 q.2.2.2.1 ρ0 C.2.1.1.length M cuts (sy_e q.2.2.2.2.1 m)) (hN : C.2.1.1.length ≤ q.2.2.2.2.2 ∧ ∀ i, i < C.2.1.1.length → q.2.2.2.2.1 i = ρ0 i) (hmw : sy_wl q.2.2.2.2.2 m = true) (hP : q.1 = x.2.2.1) (hK : x.2.2.2.2.2.1 = sy_K q.2.1 C q.2.2.2.1 ρ0) (hWr : q.2.2.1 = C.2.2.2.1) (h : sy_halt x.2.2.1 C cuts m S = some true) : sy_Good x q S := by
  unfold sy_halt at h
  split at h
  · cases h
  · rename_i hfs
    split at h
    · rename_i hc
      obtain ⟨c, hcc, h1⟩ := List.any_eq_true.mp (Option.some.inj h)
      unfold sy_atC at h1
      rw [Bool.and_eq_true] at h1
      have hgo : ∀ (σ : List sy_L) (σL : List Nat), sy_fitC C.2.1.1.length S c σ σL m = true → sy_Good x q S := fun σ σL h2 => sy_goCut hI hN hmw (by rw [hP, hc.2.2]; exact hMC) hcc h2
      obtain ⟨-, h2⟩ := h1
      rw [Bool.or_eq_true] at h2
      rcases h2 with h2 | h2
      · exact hgo _ _ h2
      · split at h2
        · cases h2
        · rw [Bool.or_eq_true] at h2
          rcases h2 with h2 | h2
          · exact hgo _ _ h2
          · obtain ⟨j, -, h3⟩ := List.any_eq_true.mp h2
            exact hgo _ _ h3
    · split at h
      · rename_i M2 hM2
        split at h
        · rename_i i len hq
          split at h
          · rename_i v hv
            split at h
            · cases h
            · obtain ⟨p, hp, h1⟩ := List.any_eq_true.mp (Option.some.inj h)
              exact sy_goPost hK hWr hN (by rw [hP]; exact hM2) hq hv hfs hp h1
          · cases h
        · cases h
      · cases h
/-- all states of a list, with fuel -/
def sy_all (cl : List vw_C) (lt : List (List Int32)) (P : List px_M) (A : List sy_Ce) (Cs : List sy_Co) (C : sy_Co) (cuts : List sy_Cut) (m : sy_L) : Nat → List sy_S → Bool
  | 0, _ => false
  | _ + 1, [] => true
  | n + 1, S :: r => match sy_halt P C cuts m S with
    | some b => b && sy_all cl lt P A Cs C cuts m n r
    | none => (match sy_suc cl lt P A C.2.2.2.1 Cs C.2.2.2.2.1 S with
      | some l => sy_all cl lt P A Cs C cuts m n (l ++ r)
      | none => false)
theorem sy_all_ok {cuts : List sy_Cut} {Cs : List sy_Co} {C : sy_Co} {ρ0 : Nat → Int} {m : sy_L} (hCs : ∀ C ∈ Cs, sy_Met x.1 x.2.1 x.2.2.1 q.2.1 x.2.2.2.2.1 C) (hD : C.2.2.2.2.1 ≤ x.2.2.2.2.2.2) (hMC : x.2.2.1[C.1]? = some M) (hI : sy_I x q.2.1 q.2.2.1 q.2.2.2.1 ρ0 C.2.1.1.length M cuts (sy_e q.2.2.2.2.1 m)) (hN : C.2.1.1.length ≤ q.2.2.2.2.2 ∧ ∀ i, i < C.2.1.1.length → q.2.2.2.2.1 i = ρ0 i) (hmw : sy_wl q.2.2.2.2.2 m = true) (hP : q.1 = x.2.2.1) (hK : x.2.2.2.2.2.1 = sy_K q.2.1 C q.2.2.2.1 ρ0) (hWr : q.2.2.1 = C.2.2.2.1) : ∀ (n : Nat) (l : List sy_S), sy_all x.1 x.2.1 x.2.2.1 q.2.1 Cs C cuts m n l = true → ∀ S ∈ l, sy_Good x q S
  | 0, l, h => by cases h
  | n + 1, [], _ => fun S hS => absurd hS List.not_mem_nil
  | n + 1, S0 :: r, h => by
    unfold sy_all at h
    intro S hS
    split at h
    · rename_i b hb
      rw [Bool.and_eq_true] at h
      rw [h.1] at hb
      rcases List.mem_cons.mp hS with rfl | hS
      · exact sy_halt_ok hMC hI hN hmw hP hK hWr hb
      · exact sy_all_ok hCs hD hMC hI hN hmw hP hK hWr n r h.2 S hS
    · split at h
      · rename_i l0 hl
        have ih := sy_all_ok hCs hD hMC hI hN hmw hP hK hWr n (l0 ++ r) h
        rcases List.mem_cons.mp hS with rfl | hS
        · rw [← hWr] at hl
          exact sy_suc_ok hCs hD hP hl (fun S' h' => ih S' (List.mem_append_left _ h'))
        · exact ih S (List.mem_append_right _ hS)
      · cases h
end CK
/-- a cut is checked: its first step, and all that comes of it -/
def sy_ckC (cl : List vw_C) (lt : List (List Int32)) (P : List px_M) (A : List sy_Ce) (Cs : List sy_Co) (C : sy_Co) (cuts : List sy_Cut) (n : Nat) (c : sy_Cut) : Bool := sy_wl c.2.1.1.length c.2.2.2 && (match sy_suc cl lt P A C.2.2.2.1 Cs C.2.2.2.2.1 (sy_cS C.1 c) with
  | some l => sy_all cl lt P A Cs C cuts c.2.2.2 n l
  | none => false)
/-- a contract holds, if its cuts are checked -/
theorem sy_met2 {cl : List vw_C} {lt : List (List Int32)} {P : List px_M} {A : List sy_Ce} {b : Nat × Nat} {Cs : List sy_Co} {C : sy_Co} {cuts : List sy_Cut} {m0 : sy_L} (n : Nat) (hCs : ∀ C ∈ Cs, sy_Met cl lt P A b C) (h0 : cuts.head? = some (0, C.2.1, sy_args 0 C.2.2.1, m0)) (hm0 : sy_pos C.2.1.1 C.2.1.2.2.1 m0 = true) (hc : cuts.all (sy_ckC cl lt P A Cs C cuts n) = true) : sy_Met cl lt P A b C := by
  refine sy_met (PM := P) (cuts := cuts) (fun _ _ h => h) (List.mem_of_mem_head? h0) hm0 (fun c hcc M hM d w0 ρ0 ρs hd hr hI => ?_)
  have h1 := List.all_eq_true.mp hc c hcc
  unfold sy_ckC at h1
  rw [Bool.and_eq_true] at h1
  obtain ⟨h2, h3⟩ := h1
  split at h3
  · rename_i l hl
    have ih := sy_all_ok (x := (cl, lt, P, none, b, sy_K A C w0 ρ0, d)) (q := (P, A, C.2.2.2.1, w0, ρs, c.2.1.1.length)) (ρ0 := ρ0) hCs hd hM hI hr h2 rfl rfl rfl n l h3
    exact sy_suc_ok (x := (cl, lt, P, none, b, sy_K A C w0 ρ0, d)) (q := (P, A, C.2.2.2.1, w0, ρs, c.2.1.1.length)) hCs hd rfl hl ih
  · cases h3

end
end
section
noncomputable section
/-! THE QUICK ENGINE: looked up in quick tables, and by the sort of the instruction -/
def sy_tag (i : Instr) : Nat := match i with
  | .ifCond _ _ => 3
  | .if_icmp _ _ => 3
  | .iaload => 4
  | .getfield _ => 5
  | .iastore => 6
  | .putfield _ => 7
  | .ireturn => 8
  | .return_ => 8
  | .lreturn => 8
  | .ishr => 2
  | .iand => 2
  | .ior => 2
  | .ishl => 2
  | .imul => 2
  | .invokestatic _ => 9
  | .invokevirtual _ => 9
  | .invokespecial _ => 0
  | .idiv => 0
  | .irem => 0
  | .laload => 0
  | .lastore => 0
  | .tableswitch _ _ _ _ => 3
  | _ => 1
/-- surely an int: no need to look -/
def sy_pl (e : sy_L) : Bool := match e.2 with
  | [] => (match e.1 with
    | .ofNat n => Nat.ble n 2147483647
    | .negSucc n => Nat.ble n 2147483647)
  | [t] => (match e.1 with
    | .ofNat n => Nat.beq n 0 && (match t.2 with
      | .ofNat k => Nat.beq k 1
      | .negSucc _ => false)
    | .negSucc _ => false)
  | _ => false
def sy_top (st : List sy_A) : Bool := match st with
  | .inl e :: _ => sy_pl e
  | _ => true
def sy_pq (m pc : Nat) : Nat := cond (Nat.ble m 227) (cond (Nat.ble m 161) (cond (Nat.ble m 10) (cond (Nat.beq m 10) (cond (Nat.beq pc 17) 2 0) 0) (cond (Nat.ble m 84) (cond (Nat.beq m 84) (cond (Nat.beq pc 14) 4 (cond (Nat.beq pc 27) 4 0)) 0) (cond (Nat.beq m 161) (cond (Nat.beq pc 47) 2 0) 0))) (cond (Nat.ble m 225) (cond (Nat.beq m 225) (cond (Nat.beq pc 48) 1 0) 0) (cond (Nat.ble m 226) (cond (Nat.beq m 226) (cond (Nat.beq pc 121) 1 (cond (Nat.beq pc 11) 3 0)) 0) (cond (Nat.beq m 227) (cond (Nat.beq pc 85) 1 0) 0)))) (cond (Nat.ble m 272) (cond (Nat.ble m 235) (cond (Nat.beq m 235) (cond (Nat.beq pc 31) 5 0) 0) (cond (Nat.ble m 240) (cond (Nat.beq m 240) (cond (Nat.beq pc 17) 1 0) 0) (cond (Nat.beq m 272) (cond (Nat.beq pc 1) 6 0) 0))) (cond (Nat.ble m 277) (cond (Nat.ble m 273) (cond (Nat.beq m 273) (cond (Nat.beq pc 44) 1 0) 0) (cond (Nat.beq m 277) (cond (Nat.beq pc 20) 1 (cond (Nat.beq pc 159) 1 0)) 0)) (cond (Nat.ble m 279) (cond (Nat.beq m 279) (cond (Nat.beq pc 66) 4 (cond (Nat.beq pc 84) 4 0)) 0) (cond (Nat.beq m 285) (cond (Nat.beq pc 15) 2 0) 0))))
def ty_same (An : Nat → Option sy_Ce) (R : sy_T) (F : List sy_Fa) (sg : sy_Sg) (ix e : sy_L) : Bool := F.any (fun f => decide (f.2.2 = .inl e) && (sy_eq R f.2.1 ix && (match An (f.1) with
  | some (.inl z) => decide (z.2 = sg)
  | _ => false)))
def ty_p5 (An : Nat → Option sy_Ce) (Wr : sy_Wr) (M : px_M) (i : Instr) (S : sy_S) : Option (List sy_S) := match i, S.2.1.2.2.2 with
  | .iaload, .inl ix :: .inr (.inl a) :: r => if 64 ≤ a then (match An (a - 64) with
    | some (.inl (n, _)) => if sy_inx S.1.1 n ix = true ∨ S.1.2.2.2.any (fun f => f.1 == a - 64 && sy_eq S.1.1 f.2.1 ix) = true then none else sy_rn S [] ix (.inr (.inl a) :: r) (0, (n : Int) - 1)
    | _ => none) else none
  | .laload, .inl ix :: .inr (.inl a) :: r => if 64 ≤ a then (match An (a - 64) with
    | some (.inr (.inl n)) => if sy_inx S.1.1 n ix = true then none else sy_rn S [] ix (.inr (.inl a) :: r) (0, (n : Int) - 1)
    | _ => none) else none
  | .iastore, .inl e :: .inl ix :: .inr (.inl a) :: r => if 64 ≤ a then (match An (a - 64) with
    | some (.inl (n, sg)) => if sy_inx S.1.1 n ix = true then (if sy_wr S.1.1 sg ix (sy_vb S.1.1 e) = true ∨ ty_same An S.1.1 S.1.2.2.2 sg ix e = true ∨ sy_sm4 Wr S.1.1 S.1.2.2.2 sg ix e = true then none else (match sy_pr S.1.1 ix with
        | some z => if z.2.2 ≤ 3000 then sy_rn S [] e (.inl ix :: .inr (.inl a) :: r) (sy_cm sg z.1 z.2.1 z.2.2) else none
        | none => none)) else sy_rn S [.inl e] ix (.inr (.inl a) :: r) (0, (n : Int) - 1)
    | _ => none) else none
  | .putfield idx, .inl e :: .inr (.inl a) :: r => if 64 ≤ a then (match An (a - 64), px_look M.2.2.1 idx with
    | some (.inr (.inr (_, sl))), some (_, s0) => (match sl[s0]? with
      | some (.inl rg) => if rg.1 ≤ (sy_vb S.1.1 e).1 ∧ (sy_vb S.1.1 e).2 ≤ rg.2 then none else sy_rn S [] e (.inr (.inl a) :: r) rg
      | _ => none)
    | _, _ => none) else none
  | .idiv, .inl b :: r => (match sy_b S.1.1 b with
    | some p => if p.1 ≤ 0 ∧ 0 ≤ p.2 then px_or (sy_rn S [] b r (1, p.2)) (sy_rn S [] b r (p.1, -1)) else none
    | none => none)
  | _, _ => none
def ty_uR (An : Nat → Option sy_Ce) (M : px_M) (i : Instr) (len : Nat) (S : sy_S) : Option (List sy_S) := match i, S.2.1.2.2.2 with
  | .iaload, .inl ix :: .inr (.inl a) :: r => if len = 1 ∧ 64 ≤ a ∧ sy_wS S = true then (match An (a - 64) with
    | some (.inl (n, sg)) => if n ≤ 2147483647 then (match S.1.2.2.2.find? (fun f => f.1 == a - 64 && sy_eq2 (sy_spr S.2.1.1 (a - 64)) S.1.1 S.1.2.2.1 f.2.1 ix) with
      | some (k, fx, .inl e) => some [sy_at (sy_addF S (k, sy_nm S.1.1 ix, .inl e)) (sy_addF S (k, sy_nm S.1.1 ix, .inl e)).1 (S.2.1.2.1 + 1) S.2.1.2.2.1 (.inl e :: r)]
      | _ => (match sy_b S.1.1 ix, sy_rd S.1.1 sg ix with
        | some b, some rg => if 0 ≤ b.1 ∧ b.2 < (n : Int) ∧ sy_wl S.1.1.length (sy_nm S.1.1 ix) = true then some [sy_at S (S.1.1 ++ [rg], S.1.2.1, S.1.2.2.1, (a - 64, sy_nm S.1.1 ix, .inl (sy_x S.1.1.length)) :: S.1.2.2.2) (S.2.1.2.1 + 1) S.2.1.2.2.1 (.inl (sy_x S.1.1.length) :: r)] else none
        | _, _ => none)) else none
    | _ => none) else none
  | .getfield idx, .inr (.inl a) :: r => if len = 3 ∧ 64 ≤ a ∧ sy_wS S = true then (match An (a - 64), px_look M.2.2.1 idx with
    | some (.inr (.inr (ci, sl))), some (cj, s0) => if ci = cj then (match S.1.2.2.2.find? (fun f => decide (f.1 = a - 64) && decide (f.2.1 = sy_c s0)) with
      | some f => some [sy_at S S.1 (S.2.1.2.1 + 3) S.2.1.2.2.1 (f.2.2 :: r)]
      | none => (match sl[s0]? with
        | some (.inl rg) => some [sy_at S (S.1.1 ++ [rg], S.1.2.1, S.1.2.2.1, (a - 64, sy_c s0, .inl (sy_x S.1.1.length)) :: S.1.2.2.2) (S.2.1.2.1 + 3) S.2.1.2.2.1 (.inl (sy_x S.1.1.length) :: r)]
        | some (.inr b) => some [sy_at S S.1 (S.2.1.2.1 + 3) S.2.1.2.2.1 (.inr (.inl b) :: r)]
        | none => none)) else none
    | _, _ => none) else none
  | _, _ => none
def ty_uW (cl : List vw_C) (An : Nat → Option sy_Ce) (Wr : sy_Wr) (M : px_M) (i : Instr) (len : Nat) (S : sy_S) : Option (List sy_S) := match i, S.2.1.2.2.2 with
  | .iastore, .inl e :: .inl ix :: .inr (.inl a) :: r => if len = 1 ∧ 64 ≤ a then (match An (a - 64), sy_b S.1.1 ix with
    | some (.inl (n, sg)), some b => if n ≤ 2147483647 ∧ 0 ≤ b.1 ∧ b.2 < (n : Int) ∧ (sy_wr S.1.1 sg ix (sy_vb S.1.1 e) || (ty_same An S.1.1 S.1.2.2.2 sg ix e || sy_sm4 Wr S.1.1 S.1.2.2.2 sg ix e)) = true ∧ sy_mayI Wr (a - 64) b = true ∧ sy_jw Wr (a - 64) b.1 b.2 = true then some [sy_at S (S.1.1, S.1.2.1, S.1.2.2.1, (a - 64, sy_nm S.1.1 ix, .inl e) :: sy_drop S.1.1 S.1.2.2.1 (a - 64) ix S.1.2.2.2) (S.2.1.2.1 + 1) S.2.1.2.2.1 r] else none
    | _, _ => none) else none
  | .putfield idx, .inl e :: .inr (.inl a) :: r => if len = 3 ∧ 64 ≤ a then (match An (a - 64), px_look M.2.2.1 idx with
    | some (.inr (.inr (ci, sl))), some (cj, s0) => if ci = cj then (match cl[ci]?, sl[s0]? with
      | some k, some (.inl rg) => if sy_ft (px_ty k.2.1 s0) (sy_vb S.1.1 e) = true ∧ (k.2.1 s0).2.2.2 = false ∧ rg.1 ≤ (sy_vb S.1.1 e).1 ∧ (sy_vb S.1.1 e).2 ≤ rg.2 ∧ sy_may Wr (a - 64) s0 = true ∧ sy_jw Wr (a - 64) s0 s0 = true then some [sy_at S (S.1.1, S.1.2.1, S.1.2.2.1, (a - 64, sy_c s0, .inl e) :: sy_drop S.1.1 S.1.2.2.1 (a - 64) (sy_c s0) S.1.2.2.2) (S.2.1.2.1 + 3) S.2.1.2.2.1 r] else none
      | _, _ => none) else none
    | _, _ => none) else none
  | _, _ => none
def ty_clb (A : List sy_Ce) (n : Nat) : Bool := A.all (fun a => match a with
  | .inr (.inr o) => decide (o.1 < n)
  | _ => true)
theorem ty_clb_ok {A : List sy_Ce} {n : Nat} (h : ty_clb A n = true) : ∀ (k : Nat) (o : Nat × List ((Int × Int) ⊕ Nat)), A[k]? = some (.inr (.inr o)) → o.1 < n := fun k o hk => of_decide_eq_true (List.all_eq_true.mp h _ (List.mem_of_getElem? hk))
theorem px_c0 {α : Type} {a b : α} : cond false a b = b := rfl
theorem px_c1 {α : Type} {a b : α} : cond true a b = a := rfl
theorem px_cond {α : Type} {b : Bool} {a c : Option α} {z : α} (h : cond b a c = some z) : a = some z ∨ c = some z := by
  cases b with
  | false => exact Or.inr h
  | true => exact Or.inl h
section TY
variable {x : sy_X} {q : sy_Q} {S : sy_S} {M : px_M} {i : Instr} {len : Nat} {l : List sy_S}
theorem ty_p5_eq {A : List sy_Ce} {Wr : sy_Wr} : ty_p5 (fun k => A[k]?) Wr M i S = sy_p5 A Wr M i S := rfl
theorem ty_uR_eq {A : List sy_Ce} : ty_uR (fun k => A[k]?) M i len S = sy_uR A M i len S := rfl
theorem ty_uW_eq {cl : List vw_C} {A : List sy_Ce} {Wr : sy_Wr} : ty_uW cl (fun k => A[k]?) Wr M i len S = sy_uW cl A Wr M i len S := rfl
/-- the called method, by its number -/
def ty_cl (An : Nat → Option sy_Ce) (H : Nat → Option (px_M × Nat)) (i : Instr) (len : Nat) (L : px_L) (st : List sy_A) : Option (Nat × List sy_A × List sy_A) := match i with
  | .invokestatic k => (px_look L.2.1 k).bind (fun c => (H c.2).bind (fun M => if len = 3 ∧ (c.1 = 1 ∨ c.1 = 4) ∧ M.1.1.2.2.2.2 ≤ st.length ∧ ((st.drop M.1.1.2.2.2.2).map sy_cat).sum ≤ 8 then some (c.2, (st.take M.1.1.2.2.2.2).reverse, st.drop M.1.1.2.2.2.2) else none))
  | .invokevirtual k => (px_look L.2.1 k).bind (fun c => (H c.2).bind (fun M => match st.drop M.1.1.2.2.2.2 with
    | .inr (.inl b) :: r => if len = 3 ∧ c.1 = 0 ∧ M.1.1.2.2.2.2 ≤ st.length ∧ (r.map sy_cat).sum ≤ 8 ∧ 64 ≤ b then (match An (b - 64) with
      | some (.inr (.inr o)) => cond (Nat.beq (o.1 + 1) M.2) (some (c.2, .inr (.inl b) :: (st.take M.1.1.2.2.2.2).reverse, r)) none
      | _ => none) else none
    | _ => none))
  | _ => none
theorem ty_cl_ok {cl : List vw_C} {A : List sy_Ce} {P : List px_M} {H : Nat → Option (px_M × Nat)} {L : px_L} {st : List sy_A} {z : Nat × List sy_A × List sy_A} (hH : px_Hok cl P H) (hcl : ∀ (k : Nat) (o : Nat × List ((Int × Int) ⊕ Nat)), A[k]? = some (.inr (.inr o)) → o.1 < cl.length) (h : ty_cl (fun k => A[k]?) H i len L st = some z) : sy_cl cl A P i len L st = some z := by
  unfold ty_cl at h
  unfold sy_cl
  split at h
  · obtain ⟨c, hc, h1⟩ := Option.bind_eq_some_iff.mp h
    obtain ⟨M, hM, h2⟩ := Option.bind_eq_some_iff.mp h1
    obtain ⟨h3, -⟩ := hH _ _ hM
    refine Option.bind_eq_some_iff.mpr ⟨c, hc, Option.bind_eq_some_iff.mpr ⟨M.1, h3, h2⟩⟩
  · obtain ⟨c, hc, h1⟩ := Option.bind_eq_some_iff.mp h
    obtain ⟨M, hM, h2⟩ := Option.bind_eq_some_iff.mp h1
    obtain ⟨h3, h4⟩ := hH _ _ hM
    refine Option.bind_eq_some_iff.mpr ⟨c, hc, Option.bind_eq_some_iff.mpr ⟨M.1, h3, ?_⟩⟩
    try dsimp only at h2
    try dsimp only
    split at h2
    · rename_i b r hst
      rw [hst]
      try dsimp only
      split at h2
      · rename_i hh
        rw [if_pos ⟨hh.1, hh.2.1, hh.2.2.1, hh.2.2.2.1⟩, if_pos hh.2.2.2.2]
        try dsimp only at h2
        split at h2
        · rename_i o ho
          rw [ho]
          try dsimp only
          cases hb : Nat.beq (o.1 + 1) M.2 with
          | false =>
            rw [hb] at h2
            have h5 : (none : Option (Nat × List sy_A × List sy_A)) = some z := h2
            cases h5
          | true =>
            rw [hb] at h2
            have h6 := Nat.eq_of_beq_eq_true hb
            have h7 := hcl _ _ ho
            have h8 : cl[o.1]? = some cl[o.1] := List.getElem?_eq_getElem h7
            have h9 := h4 cl[o.1] (by omega) (by rw [← h6, Nat.add_sub_cancel]; exact h8)
            rw [h8]
            try dsimp only
            rw [if_pos h9]
            exact h2
        · cases h2
      · cases h2
    · cases h2
  · cases h
def ty_tryC (H : Nat → Option (px_M × Nat)) (Wr : sy_Wr) (D : Nat) (S : sy_S) (z : Nat × List sy_A × List sy_A) (σ : List sy_L) (σL : List Nat) (C : sy_Co) : Option (List sy_S) := match H z.1 with
  | some M' => if z.1 = C.1 ∧ sy_len z.2.1 ≤ M'.1.1.2.2.1 ∧ S.2.2.length + 1 + C.2.2.2.2.1 ≤ D ∧ sy_eqs S.1.1 σ σL z.2.1 C.2.2.1 = true ∧ sy_fitG S.1 σ σL C.2.1 = true ∧ sy_wS S = true ∧ σ.length = C.2.1.1.length ∧ σ.all (sy_wl S.1.1.length) = true ∧ sy_wsub C.2.2.2.1 Wr = true ∧ sy_jc C.2.2.2.1 Wr = true ∧ z.2.2.all (sy_wa S.1.1.length S.1.2.1) = true ∧ C.2.2.2.2.2.all (fun p => decide (C.2.1.1.length ≤ p.1.1.length)) = true then sy_mapO (sy_aft S C σ z.2.2) C.2.2.2.2.2 else none
  | none => none
theorem ty_tryC_ok {P : List px_M} {cl : List vw_C} {H : Nat → Option (px_M × Nat)} {Wr : sy_Wr} {D : Nat} {z : Nat × List sy_A × List sy_A} {σ : List sy_L} {σL : List Nat} {C : sy_Co} (hH : px_Hok cl P H) (h : ty_tryC H Wr D S z σ σL C = some l) : sy_tryC P Wr D S z σ σL C = some l := by
  unfold ty_tryC at h
  unfold sy_tryC
  split at h
  · rename_i M' hM'
    rw [(hH _ _ hM').1]
    exact h
  · cases h
def ty_uM (H : Nat → Option (px_M × Nat)) (Wr : sy_Wr) (D : Nat) (S : sy_S) (z : Nat × List sy_A × List sy_A) : List sy_Co → Option (List sy_S)
  | [] => none
  | C :: r => px_or (cond (Nat.beq z.1 C.1) (
      let u := C.2.1.2.2.2.foldl (sy_unF S.1.1 S.1.2.2.2) (sy_unP ([], []) C.2.2.1 z.2.1)
      ty_tryC H Wr D S z (sy_fσ C.2.1.1 u) (sy_fσL C.2.1.2.1 u) C) none) (ty_uM H Wr D S z r)
theorem ty_uM_ok {H : Nat → Option (px_M × Nat)} {D : Nat} {z : Nat × List sy_A × List sy_A} (hH : px_Hok x.1 x.2.2.1 H) (hD : D ≤ x.2.2.2.2.2.2) (hM : q.1[S.2.1.1]? = some M) (hq : px_look M.2.1 S.2.1.2.1 = some (i, len)) (hz : sy_cl x.1 q.2.1 x.2.2.1 i len M.2.2 S.2.1.2.2.2 = some z) : ∀ Cs : List sy_Co, (∀ C ∈ Cs, sy_Met x.1 x.2.1 x.2.2.1 q.2.1 x.2.2.2.2.1 C) → ty_uM H q.2.2.1 D S z Cs = some l → sy_S1 x q S l
  | [], _, h => by cases h
  | C :: r, hC, h => by
    unfold ty_uM at h
    rcases px_or_some h with h | h
    · rcases px_cond h with h | h
      · exact sy_tryC_ok (hC C List.mem_cons_self) hD hM hq hz (ty_tryC_ok hH h)
      · cases h
    · exact ty_uM_ok hH hD hM hq hz r (fun C' h' => hC C' (List.mem_cons_of_mem _ h')) h
/-- calls: by contract, or in place -/
def ty_ca (An : Nat → Option sy_Ce) (H : Nat → Option (px_M × Nat)) (Wr : sy_Wr) (Cs : List sy_Co) (D : Nat) (M : px_M) (i : Instr) (len : Nat) (S : sy_S) : Option (List sy_S) := match ty_cl An H i len M.2.2 S.2.1.2.2.2 with
  | some z => cond (Cs.any (fun C => Nat.beq C.1 z.1)) (ty_uM H Wr D S z Cs) (match H z.1 with
    | some M' => if sy_len z.2.1 ≤ M'.1.1.2.2.1 ∧ S.2.2.length + 1 ≤ D then some [(S.1, (z.1, 0, sy_args 0 z.2.1, []), (S.2.1.1, S.2.1.2.1 + 3, S.2.1.2.2.1, z.2.2) :: S.2.2)] else none
    | none => none)
  | none => none
theorem ty_ca_ok {H : Nat → Option (px_M × Nat)} {D : Nat} {Cs : List sy_Co} (hH : px_Hok x.1 x.2.2.1 H) (hcl : ∀ (k : Nat) (o : Nat × List ((Int × Int) ⊕ Nat)), q.2.1[k]? = some (.inr (.inr o)) → o.1 < x.1.length) (hCs : ∀ C ∈ Cs, sy_Met x.1 x.2.1 x.2.2.1 q.2.1 x.2.2.2.2.1 C) (hD : D ≤ x.2.2.2.2.2.2) (hP : ∀ (j : Nat) (M : px_M), x.2.2.1[j]? = some M → q.1[j]? = some M) (hM : q.1[S.2.1.1]? = some M) (hq : px_look M.2.1 S.2.1.2.1 = some (i, len)) (h : ty_ca (fun k => q.2.1[k]?) H q.2.2.1 Cs D M i len S = some l) : sy_S1 x q S l := by
  unfold ty_ca at h
  split at h
  · rename_i z hz
    have hz' := ty_cl_ok hH hcl hz
    rcases px_cond h with h | h
    · exact ty_uM_ok hH hD hM hq hz' Cs hCs h
    · split at h
      · rename_i M' hM'
        split at h
        · rename_i hc
          cases h
          intro hG
          have h1 := (hH _ _ hM').1
          exact sy_goCall hM hq hz' h1 (hP _ _ h1) hc.1 (by omega) (hG _ List.mem_cons_self)
        · cases h
      · cases h
  · cases h
/-- by the sort of the instruction -/
def ty_tg (cl : List vw_C) (An : Nat → Option sy_Ce) (H : Nat → Option (px_M × Nat)) (A : List sy_Ce) (Wr : sy_Wr) (Cs : List sy_Co) (D : Nat) (M : px_M) (i : Instr) (len : Nat) (S : sy_S) (t : Nat) : Option (List sy_S) :=
  cond (Nat.beq t 1) (sy_u1 M i len S) (cond (Nat.beq t 3) (sy_uB i len S) (cond (Nat.beq t 4) (px_or (sy_p4 i S) (px_or (ty_p5 An Wr M i S) (ty_uR An M i len S)))
  (cond (Nat.beq t 5) (ty_uR An M i len S) (cond (Nat.beq t 2) (px_or (sy_uN A i len S) (px_or (sy_u1 M i len S) (sy_uA i len S)))
  (cond (Nat.beq t 9) (px_or (sy_uX D M i len S) (ty_ca An H Wr Cs D M i len S)) (cond (Nat.beq t 6) (px_or (sy_p4 i S) (px_or (ty_p5 An Wr M i S) (ty_uW cl An Wr M i len S)))
  (cond (Nat.beq t 7) (px_or (ty_p5 An Wr M i S) (ty_uW cl An Wr M i len S)) (cond (Nat.beq t 8) (sy_uV M i len S) none))))))))
theorem ty_tg_ok {H : Nat → Option (px_M × Nat)} {D t : Nat} {Cs : List sy_Co} (hH : px_Hok x.1 x.2.2.1 H) (hcl : ∀ (k : Nat) (o : Nat × List ((Int × Int) ⊕ Nat)), q.2.1[k]? = some (.inr (.inr o)) → o.1 < x.1.length) (hCs : ∀ C ∈ Cs, sy_Met x.1 x.2.1 x.2.2.1 q.2.1 x.2.2.2.2.1 C) (hD : D ≤ x.2.2.2.2.2.2) (hP : ∀ (j : Nat) (M : px_M), x.2.2.1[j]? = some M → q.1[j]? = some M) (hM : q.1[S.2.1.1]? = some M) (hq : px_look M.2.1 S.2.1.2.1 = some (i, len)) (h : ty_tg x.1 (fun k => q.2.1[k]?) H q.2.1 q.2.2.1 Cs D M i len S t = some l) : sy_S1 x q S l := by
  unfold ty_tg at h
  rcases px_cond h with h | h
  · exact sy_u1_ok hM hq h
  rcases px_cond h with h | h
  · exact sy_uB_ok hM hq h
  rcases px_cond h with h | h
  · rcases px_or_some h with h | h
    · exact sy_p4_ok h
    rcases px_or_some h with h | h
    · exact sy_p5_ok (ty_p5_eq.symm.trans h)
    · exact sy_uR_ok hM hq (ty_uR_eq.symm.trans h)
  rcases px_cond h with h | h
  · exact sy_uR_ok hM hq (ty_uR_eq.symm.trans h)
  rcases px_cond h with h | h
  · rcases px_or_some h with h | h
    · exact sy_uN_ok hM hq h
    rcases px_or_some h with h | h
    · exact sy_u1_ok hM hq h
    · exact sy_uA_ok hM hq h
  rcases px_cond h with h | h
  · rcases px_or_some h with h | h
    · exact sy_uX_ok hD hM hq h
    · exact ty_ca_ok hH hcl hCs hD hP hM hq h
  rcases px_cond h with h | h
  · rcases px_or_some h with h | h
    · exact sy_p4_ok h
    rcases px_or_some h with h | h
    · exact sy_p5_ok (ty_p5_eq.symm.trans h)
    · exact sy_uW_ok hM hq (ty_uW_eq.symm.trans h)
  rcases px_cond h with h | h
  · rcases px_or_some h with h | h
    · exact sy_p5_ok (ty_p5_eq.symm.trans h)
    · exact sy_uW_ok hM hq (ty_uW_eq.symm.trans h)
  rcases px_cond h with h | h
  · exact sy_uV_ok hM hq h
  · cases h
def ty_ch (cl : List vw_C) (lt : List (List Int32)) (P : List px_M) (A : List sy_Ce) (Wr : sy_Wr) (Cs : List sy_Co) (D : Nat) (M : px_M) (i : Instr) (len : Nat) (S : sy_S) : Option (List sy_S) := px_or (sy_pre A Wr M i S) (px_or (sy_uN A i len S) (px_or (sy_u1 M i len S) (px_or (sy_uB i len S) (px_or (sy_uR A M i len S) (px_or (sy_uW cl A Wr M i len S) (px_or (sy_uK lt A M i len S) (px_or (sy_uA i len S) (px_or (sy_uV M i len S) (px_or (sy_uX D M i len S) (px_or (sy_uL lt A Wr M i len S) (px_or (sy_uY A Wr D M i len S) (match sy_cl cl A P i len M.2.2 S.2.1.2.2.2 with
      | some z => if Cs.any (fun C => C.1 == z.1) = true then sy_uM P Wr D S z Cs else sy_uC cl P A D M i len S
      | none => none))))))))))))
theorem ty_ch_ok {D : Nat} {Cs : List sy_Co} (hCs : ∀ C ∈ Cs, sy_Met x.1 x.2.1 x.2.2.1 q.2.1 x.2.2.2.2.1 C) (hD : D ≤ x.2.2.2.2.2.2) (hP : q.1 = x.2.2.1) (hM : q.1[S.2.1.1]? = some M) (hq : px_look M.2.1 S.2.1.2.1 = some (i, len)) (h : ty_ch x.1 x.2.1 x.2.2.1 q.2.1 q.2.2.1 Cs D M i len S = some l) : sy_S1 x q S l := by
  unfold ty_ch at h
  rcases px_or_some h with h | h
  · exact sy_pre_ok h
  rcases px_or_some h with h | h
  · exact sy_uN_ok hM hq h
  rcases px_or_some h with h | h
  · exact sy_u1_ok hM hq h
  rcases px_or_some h with h | h
  · exact sy_uB_ok hM hq h
  rcases px_or_some h with h | h
  · exact sy_uR_ok hM hq h
  rcases px_or_some h with h | h
  · exact sy_uW_ok hM hq h
  rcases px_or_some h with h | h
  · exact sy_uK_ok hM hq h
  rcases px_or_some h with h | h
  · exact sy_uA_ok hM hq h
  rcases px_or_some h with h | h
  · exact sy_uV_ok hM hq h
  rcases px_or_some h with h | h
  · exact sy_uX_ok hD hM hq h
  rcases px_or_some h with h | h
  · exact sy_uL_ok hM hq h
  rcases px_or_some h with h | h
  · exact sy_uY_ok hD hM hq h
  split at h
  · rename_i z hz
    split at h
    · exact sy_uM_ok hD hM hq hz Cs hCs h
    · exact sy_uC_ok hD hP hM hq h
  · cases h
/-- one step of any sort -/
def ty_suc (cl : List vw_C) (lt : List (List Int32)) (P : List px_M) (G : Nat → Nat → Option (px_M × Instr × Nat)) (H : Nat → Option (px_M × Nat)) (An : Nat → Option sy_Ce) (A : List sy_Ce) (Wr : sy_Wr) (Cs : List sy_Co) (D : Nat) (S : sy_S) : Option (List sy_S) := match G S.2.1.1 S.2.1.2.1 with
  | none => none
  | some (M, i, len) => px_or (cond (sy_top S.2.1.2.2.2) none (px_or (sy_p0 A S) (sy_p1 S))) (px_or (cond (Nat.beq (sy_pq S.2.1.1 S.2.1.2.1) 0) (ty_tg cl An H A Wr Cs D M i len S (sy_tag i)) none) (ty_ch cl lt P A Wr Cs D M i len S))
theorem ty_suc_ok {G : Nat → Nat → Option (px_M × Instr × Nat)} {H : Nat → Option (px_M × Nat)} {An : Nat → Option sy_Ce} {D : Nat} {Cs : List sy_Co} (hGo : px_Gok x.2.2.1 G) (hH : px_Hok x.1 x.2.2.1 H) (hA : An = fun k => q.2.1[k]?) (hcl : ∀ (k : Nat) (o : Nat × List ((Int × Int) ⊕ Nat)), q.2.1[k]? = some (.inr (.inr o)) → o.1 < x.1.length) (hCs : ∀ C ∈ Cs, sy_Met x.1 x.2.1 x.2.2.1 q.2.1 x.2.2.2.2.1 C) (hD : D ≤ x.2.2.2.2.2.2) (hP : q.1 = x.2.2.1) (h : ty_suc x.1 x.2.1 x.2.2.1 G H An q.2.1 q.2.2.1 Cs D S = some l) : sy_S1 x q S l := by
  unfold ty_suc at h
  split at h
  · cases h
  · rename_i M i len hg
    obtain ⟨hM, hq⟩ := hGo _ _ _ _ _ hg
    rw [← hP] at hM
    rcases px_or_some h with h | h
    · rcases px_cond h with h | h
      · cases h
      · rcases px_or_some h with h | h
        · exact sy_p0_ok h
        · exact sy_p1_ok h
    rcases px_or_some h with h | h
    · rcases px_cond h with h | h
      · rw [hA] at h
        exact ty_tg_ok hH hcl hCs hD (fun j M h => by rw [hP]; exact h) hM hq h
      · cases h
    · exact ty_ch_ok hCs hD hP hM hq h
/-- none: go on; true: fits -/
def ty_halt (G : Nat → Nat → Option (px_M × Instr × Nat)) (C : sy_Co) (cuts : List sy_Cut) (m : sy_L) (S : sy_S) : Option Bool := match S.2.2 with
  | _ :: _ => none
  | [] => cond (S.2.1.2.2.2.isEmpty && (Nat.beq S.2.1.1 C.1 && cuts.any (fun c => Nat.beq c.1 S.2.1.2.1))) (some (cuts.any (sy_atC C.2.1.1.length m S))) (match G S.2.1.1 S.2.1.2.1 with
    | some (M, i, len) => cond (Nat.beq (sy_tag i) 1) none (match sy_rt S.1.1 i len M.1.2.2.2.1 S.2.1.2.2.2 with
        | some v => if sy_uf S.1.1 v = true then none else some (C.2.2.2.2.2.any (sy_atP C.2.1.1.length S.1 v))
        | none => none)
    | none => none)
theorem ty_halt_ok {G : Nat → Nat → Option (px_M × Instr × Nat)} {cuts : List sy_Cut} {C : sy_Co} {ρ0 : Nat → Int} {m : sy_L} (hGo : px_Gok x.2.2.1 G) (hMC : x.2.2.1[C.1]? = some M) (hI : sy_I x q.2.1 q.2.2.1 q.2.2.2.1 ρ0 C.2.1.1.length M cuts (sy_e q.2.2.2.2.1 m)) (hN : C.2.1.1.length ≤ q.2.2.2.2.2 ∧ ∀ i, i < C.2.1.1.length → q.2.2.2.2.1 i = ρ0 i) (hmw : sy_wl q.2.2.2.2.2 m = true) (hP : q.1 = x.2.2.1) (hK : x.2.2.2.2.2.1 = sy_K q.2.1 C q.2.2.2.1 ρ0) (hWr : q.2.2.1 = C.2.2.2.1) (h : ty_halt G C cuts m S = some true) : sy_Good x q S := by
  unfold ty_halt at h
  split at h
  · cases h
  · rename_i hfs
    cases hc : (S.2.1.2.2.2.isEmpty && (Nat.beq S.2.1.1 C.1 && cuts.any (fun c => Nat.beq c.1 S.2.1.2.1))) with
    | true =>
      rw [hc, px_c1] at h
      have h0 : some (cuts.any (sy_atC C.2.1.1.length m S)) = some true := h
      rw [Bool.and_eq_true, Bool.and_eq_true] at hc
      have hj := Nat.eq_of_beq_eq_true hc.2.1
      obtain ⟨c, hcc, h1⟩ := List.any_eq_true.mp (Option.some.inj h0)
      unfold sy_atC at h1
      rw [Bool.and_eq_true] at h1
      have hgo : ∀ (σ : List sy_L) (σL : List Nat), sy_fitC C.2.1.1.length S c σ σL m = true → sy_Good x q S := fun σ σL h2 => sy_goCut hI hN hmw (by rw [hP, hj]; exact hMC) hcc h2
      obtain ⟨-, h2⟩ := h1
      rw [Bool.or_eq_true] at h2
      rcases h2 with h2 | h2
      · exact hgo _ _ h2
      · split at h2
        · cases h2
        · rw [Bool.or_eq_true] at h2
          rcases h2 with h2 | h2
          · exact hgo _ _ h2
          · obtain ⟨j, -, h3⟩ := List.any_eq_true.mp h2
            exact hgo _ _ h3
    | false =>
      rw [hc, px_c0] at h
      split at h
      · rename_i M2 i len hg
        obtain ⟨hM2, hq⟩ := hGo _ _ _ _ _ hg
        rcases px_cond h with h | h
        · cases h
        split at h
        · rename_i v hv
          split at h
          · cases h
          · obtain ⟨p, hp, h1⟩ := List.any_eq_true.mp (Option.some.inj h)
            exact sy_goPost hK hWr hN (by rw [hP]; exact hM2) hq hv hfs hp h1
        · cases h
      · cases h
/-- all states of a list, with fuel -/
def ty_all (cl : List vw_C) (lt : List (List Int32)) (P : List px_M) (G : Nat → Nat → Option (px_M × Instr × Nat)) (H : Nat → Option (px_M × Nat)) (An : Nat → Option sy_Ce) (A : List sy_Ce) (Cs : List sy_Co) (C : sy_Co) (cuts : List sy_Cut) (m : sy_L) : Nat → List sy_S → Bool
  | 0, _ => false
  | _ + 1, [] => true
  | n + 1, S :: r => match ty_halt G C cuts m S with
    | some b => b && ty_all cl lt P G H An A Cs C cuts m n r
    | none => (match ty_suc cl lt P G H An A C.2.2.2.1 Cs C.2.2.2.2.1 S with
      | some l => ty_all cl lt P G H An A Cs C cuts m n (l ++ r)
      | none => false)
theorem ty_all_ok {G : Nat → Nat → Option (px_M × Instr × Nat)} {H : Nat → Option (px_M × Nat)} {An : Nat → Option sy_Ce} {cuts : List sy_Cut} {Cs : List sy_Co} {C : sy_Co} {ρ0 : Nat → Int} {m : sy_L} (hGo : px_Gok x.2.2.1 G) (hH : px_Hok x.1 x.2.2.1 H) (hA : An = fun k => q.2.1[k]?) (hcl : ∀ (k : Nat) (o : Nat × List ((Int × Int) ⊕ Nat)), q.2.1[k]? = some (.inr (.inr o)) → o.1 < x.1.length) (hCs : ∀ C ∈ Cs, sy_Met x.1 x.2.1 x.2.2.1 q.2.1 x.2.2.2.2.1 C) (hD : C.2.2.2.2.1 ≤ x.2.2.2.2.2.2) (hMC : x.2.2.1[C.1]? = some M) (hI : sy_I x q.2.1 q.2.2.1 q.2.2.2.1 ρ0 C.2.1.1.length M cuts (sy_e q.2.2.2.2.1 m)) (hN : C.2.1.1.length ≤ q.2.2.2.2.2 ∧ ∀ i, i < C.2.1.1.length → q.2.2.2.2.1 i = ρ0 i) (hmw : sy_wl q.2.2.2.2.2 m = true) (hP : q.1 = x.2.2.1) (hK : x.2.2.2.2.2.1 = sy_K q.2.1 C q.2.2.2.1 ρ0) (hWr : q.2.2.1 = C.2.2.2.1) : ∀ (n : Nat) (l : List sy_S), ty_all x.1 x.2.1 x.2.2.1 G H An q.2.1 Cs C cuts m n l = true → ∀ S ∈ l, sy_Good x q S
  | 0, l, h => by cases h
  | n + 1, [], _ => fun S hS => absurd hS List.not_mem_nil
  | n + 1, S0 :: r, h => by
    unfold ty_all at h
    intro S hS
    split at h
    · rename_i b hb
      rw [Bool.and_eq_true] at h
      rw [h.1] at hb
      rcases List.mem_cons.mp hS with rfl | hS
      · exact ty_halt_ok hGo hMC hI hN hmw hP hK hWr hb
      · exact ty_all_ok hGo hH hA hcl hCs hD hMC hI hN hmw hP hK hWr n r h.2 S hS
    · split at h
      · rename_i l0 hl
        have ih := ty_all_ok hGo hH hA hcl hCs hD hMC hI hN hmw hP hK hWr n (l0 ++ r) h
        rcases List.mem_cons.mp hS with rfl | hS
        · rw [← hWr] at hl
          exact ty_suc_ok hGo hH hA hcl hCs hD hP hl (fun S' h' => ih S' (List.mem_append_left _ h'))
        · exact ih S (List.mem_append_right _ hS)
      · cases h
end TY
/-- a cut is checked: its first step, and all that comes of it -/
def ty_ckC (cl : List vw_C) (lt : List (List Int32)) (P : List px_M) (G : Nat → Nat → Option (px_M × Instr × Nat)) (H : Nat → Option (px_M × Nat)) (An : Nat → Option sy_Ce) (A : List sy_Ce) (Cs : List sy_Co) (C : sy_Co) (cuts : List sy_Cut) (n : Nat) (c : sy_Cut) : Bool := sy_wl c.2.1.1.length c.2.2.2 && (match ty_suc cl lt P G H An A C.2.2.2.1 Cs C.2.2.2.2.1 (sy_cS C.1 c) with
  | some l => ty_all cl lt P G H An A Cs C cuts c.2.2.2 n l
  | none => false)
/-- a contract holds, if its cuts are checked -/
theorem ty_met2 {cl : List vw_C} {lt : List (List Int32)} {P : List px_M} {G : Nat → Nat → Option (px_M × Instr × Nat)} {H : Nat → Option (px_M × Nat)} {An : Nat → Option sy_Ce} {A : List sy_Ce} {b : Nat × Nat} {Cs : List sy_Co} {C : sy_Co} {cuts : List sy_Cut} {m0 : sy_L} (n : Nat) (hGo : px_Gok P G) (hH : px_Hok cl P H) (hA : An = fun k => A[k]?) (hcl : ∀ (k : Nat) (o : Nat × List ((Int × Int) ⊕ Nat)), A[k]? = some (.inr (.inr o)) → o.1 < cl.length) (hCs : ∀ C ∈ Cs, sy_Met cl lt P A b C) (h0 : cuts.head? = some (0, C.2.1, sy_args 0 C.2.2.1, m0)) (hm0 : sy_pos C.2.1.1 C.2.1.2.2.1 m0 = true) (hc : cuts.all (ty_ckC cl lt P G H An A Cs C cuts n) = true) : sy_Met cl lt P A b C := by
  refine sy_met (PM := P) (cuts := cuts) (fun _ _ h => h) (List.mem_of_mem_head? h0) hm0 (fun c hcc M hM d w0 ρ0 ρs hd hr hI => ?_)
  have h1 := List.all_eq_true.mp hc c hcc
  unfold ty_ckC at h1
  rw [Bool.and_eq_true] at h1
  obtain ⟨h2, h3⟩ := h1
  split at h3
  · rename_i l hl
    have ih := ty_all_ok (x := (cl, lt, P, none, b, sy_K A C w0 ρ0, d)) (q := (P, A, C.2.2.2.1, w0, ρs, c.2.1.1.length)) (ρ0 := ρ0) hGo hH hA hcl hCs hd hM hI hr h2 rfl rfl rfl n l h3
    exact ty_suc_ok (x := (cl, lt, P, none, b, sy_K A C w0 ρ0, d)) (q := (P, A, C.2.2.2.1, w0, ρs, c.2.1.1.length)) hGo hH hA hcl hCs hd rfl hl ih
  · cases h3

end
end
section
noncomputable section
/-! A SHAPE IS CHECKED BY PROGRAM -/
def sy_inB (q : Int × Int) (x : Int32) : Bool := decide (q.1 ≤ x.toInt) && decide (x.toInt ≤ q.2)
theorem sy_inB_ok {q : Int × Int} {x : Int32} (h : sy_inB q x = true) : sy_in q x := by
  unfold sy_inB at h
  simp only [Bool.and_eq_true, decide_eq_true_eq] at h
  exact h
def sy_aI (sg : sy_Sg) : Nat → List Int32 → Bool
  | _, [] => true
  | n, x :: r => sy_inB (sy_seg sg n) x && sy_aI sg (n + 1) r
theorem sy_aI_ok {sg : sy_Sg} : ∀ (l : List Int32) (n : Nat), sy_aI sg n l = true → ∀ (i : Nat) (x : Int32), l[i]? = some x → sy_in (sy_seg sg (n + i)) x
  | [], _, _, i, x, hx => by simp at hx
  | y :: r, n, h, i, x, hx => by
    unfold sy_aI at h
    rw [Bool.and_eq_true] at h
    cases i with
    | zero =>
      rw [List.getElem?_cons_zero] at hx
      cases hx
      exact sy_inB_ok h.1
    | succ i =>
      rw [List.getElem?_cons_succ] at hx
      have := sy_aI_ok r (n + 1) h.2 i x hx
      rw [show n + 1 + i = n + (i + 1) by omega] at this
      exact this
def sy_sl : List ((Int × Int) ⊕ Nat) → List Value → Bool
  | [], [] => true
  | .inl r :: s, .int x :: t => sy_inB r x && sy_sl s t
  | .inr a :: s, .ref b :: t => decide (a = b) && sy_sl s t
  | _, _ => false
theorem sy_sl_ok : ∀ (s : List ((Int × Int) ⊕ Nat)) (t : List Value), sy_sl s t = true → t.length = s.length ∧ (∀ (i : Nat) (r : Int × Int), s[i]? = some (.inl r) → ∃ x, t[i]? = some (.int x) ∧ sy_in r x) ∧ ∀ (i a : Nat), s[i]? = some (.inr a) → t[i]? = some (.ref a)
  | [], [], _ => ⟨rfl, fun i r h => by simp at h, fun i a h => by simp at h⟩
  | .inl r :: s, .int x :: t, h => by
    unfold sy_sl at h
    rw [Bool.and_eq_true] at h
    obtain ⟨h1, h2, h3⟩ := sy_sl_ok s t h.2
    refine ⟨by rw [List.length_cons, List.length_cons, h1], fun i r2 hr => ?_, fun i a ha => ?_⟩
    · cases i with
      | zero =>
        rw [List.getElem?_cons_zero] at hr
        cases hr
        exact ⟨x, rfl, sy_inB_ok h.1⟩
      | succ i =>
        rw [List.getElem?_cons_succ] at hr ⊢
        exact h2 i r2 hr
    · cases i with
      | zero =>
        rw [List.getElem?_cons_zero] at ha
        cases ha
      | succ i =>
        rw [List.getElem?_cons_succ] at ha ⊢
        exact h3 i a ha
  | .inr b :: s, .ref c :: t, h => by
    unfold sy_sl at h
    rw [Bool.and_eq_true] at h
    obtain ⟨h1, h2, h3⟩ := sy_sl_ok s t h.2
    have hbc : b = c := of_decide_eq_true h.1
    refine ⟨by rw [List.length_cons, List.length_cons, h1], fun i r2 hr => ?_, fun i a ha => ?_⟩
    · cases i with
      | zero =>
        rw [List.getElem?_cons_zero] at hr
        cases hr
      | succ i =>
        rw [List.getElem?_cons_succ] at hr ⊢
        exact h2 i r2 hr
    · cases i with
      | zero =>
        rw [List.getElem?_cons_zero] at ha
        cases ha
        rw [List.getElem?_cons_zero, hbc]
      | succ i =>
        rw [List.getElem?_cons_succ] at ha ⊢
        exact h3 i a ha
  | [], _ :: _, h => by simp [sy_sl] at h
  | .inl _ :: _, [], h => by simp [sy_sl] at h
  | .inr _ :: _, [], h => by simp [sy_sl] at h
  | .inl _ :: _, .ref _ :: _, h => by simp [sy_sl] at h
  | .inl _ :: _, .long _ :: _, h => by simp [sy_sl] at h
  | .inl _ :: _, .null :: _, h => by simp [sy_sl] at h
  | .inr _ :: _, .int _ :: _, h => by simp [sy_sl] at h
  | .inr _ :: _, .long _ :: _, h => by simp [sy_sl] at h
  | .inr _ :: _, .null :: _, h => by simp [sy_sl] at h
  | .inl _ :: _, .float _ :: _, h => by simp [sy_sl] at h
  | .inl _ :: _, .double _ :: _, h => by simp [sy_sl] at h
  | .inr _ :: _, .float _ :: _, h => by simp [sy_sl] at h
  | .inr _ :: _, .double _ :: _, h => by simp [sy_sl] at h
def sy_ceB (a : sy_Ce) (c : px_E) : Bool := match a, c with
  | .inl (n, sg), .inl l => decide (l.length = n) && sy_aI sg 0 l
  | .inr (.inl n), .inr (.inl l) => decide (l.length = n)
  | .inr (.inr (k, sl)), .inr (.inr o) => decide (o.1 = k) && sy_sl sl o.2
  | _, _ => false
theorem sy_ceB_ok {a : sy_Ce} {c : px_E} (h : sy_ceB a c = true) : sy_ce a c := by
  unfold sy_ceB at h
  unfold sy_ce
  split at h
  · rw [Bool.and_eq_true] at h
    refine ⟨of_decide_eq_true h.1, fun i x hx => ?_⟩
    have := sy_aI_ok _ 0 h.2 i x hx
    rw [Nat.zero_add] at this
    exact this
  · exact of_decide_eq_true h
  · rw [Bool.and_eq_true] at h
    obtain ⟨h1, h2, h3⟩ := sy_sl_ok _ _ h.2
    exact ⟨of_decide_eq_true h.1, h1, h2, h3⟩
  · cases h
def sy_WB : List sy_Ce → px_W → Bool
  | [], [] => true
  | a :: r, c :: s => sy_ceB a c && sy_WB r s
  | _, _ => false
theorem sy_WB_ok : ∀ {A : List sy_Ce} {w : px_W}, sy_WB A w = true → sy_W A w
  | [], [], _ => ⟨rfl, fun k a h => by simp at h⟩
  | a :: r, c :: s, h => by
    unfold sy_WB at h
    rw [Bool.and_eq_true] at h
    obtain ⟨h1, h2⟩ := sy_WB_ok h.2
    refine ⟨by rw [List.length_cons, List.length_cons, h1], fun k a2 hk => ?_⟩
    cases k with
    | zero =>
      rw [List.getElem?_cons_zero] at hk
      cases hk
      exact ⟨c, rfl, sy_ceB_ok h.1⟩
    | succ k =>
      rw [List.getElem?_cons_succ] at hk ⊢
      exact h2 k a2 hk
  | [], _ :: _, h => by simp [sy_WB] at h
  | _ :: _, [], h => by simp [sy_WB] at h

end
end
section
noncomputable section
/-! THE LAW'S OWN FRAME: THE SCRIPT -/
section LW
variable {x : sy_X} {q : sy_Q} {S : sy_S} {M : px_M} {i : Instr} {len : Nat} {l : List sy_S}
/-- reads of the script: its length is symbol 0 -/
def sy_uQ (i : Instr) (len : Nat) (S : sy_S) : Option (List sy_S) := match i, S.2.1.2.2.2 with
  | .arraylength, .inr (.inl 0) :: r => if len = 1 ∧ S.2.2 = [] then some [sy_at S S.1 (S.2.1.2.1 + 1) S.2.1.2.2.1 (.inl (sy_x 0) :: r)] else none
  | .iaload, .inl ix :: .inr (.inl 0) :: r => if len = 1 ∧ S.2.2 = [] ∧ sy_wS S = true ∧ sy_pos S.1.1 S.1.2.2.1 ix = true ∧ sy_pos S.1.1 S.1.2.2.1 (sy_add (sy_sub (sy_x 0) ix) (sy_c (-1))) = true then some [sy_at S (sy_new S.1 sy_full) (S.2.1.2.1 + 1) S.2.1.2.2.1 (.inl (sy_x S.1.1.length) :: r)] else none
  | _, _ => none
theorem sy_frs_nil {ρ : Nat → Int} {τ : Nat → Int64} {PM : List px_M} {cf : List pf_F} (h : sy_frs ρ τ PM [] cf) : cf = [] := by
  cases cf with
  | nil => rfl
  | cons => exact h.elim
theorem sy_uQ_ok {xs : List Int32} (hx : x.2.2.2.1 = some xs) (hlen : xs.length ≤ 3072) (hN : 1 ≤ q.2.2.2.2.2 ∧ q.2.2.2.2.1 0 = xs.length) (hM : q.1[S.2.1.1]? = some M) (hq : px_look M.2.1 S.2.1.2.1 = some (i, len)) (h : sy_uQ i len S = some l) : sy_S1 x q S l := by
  intro hG
  unfold sy_uQ at h
  split at h
  · rename_i r hst
    split at h
    · rename_i hc
      obtain ⟨h1, hfs⟩ := hc
      subst h1
      cases h
      refine sy_open (fun ρ τ w lc cf d hm hl hf hd => ?_) hM
      have hcf : cf = [] := by rw [hfs] at hf; exact sy_frs_nil hf
      have h0 : ρ 0 = xs.length := by rw [hm.1.2 0 (by omega)]; exact hN.2
      refine (fun hs : px_s2 x.1 x.2.1 .arraylength 1 (pf_scr x.2.2.2.1 cf) M.1.1.name M.1.1.cls M.2.2 (S.2.1.2.2.2.map (sy_v ρ τ)) w = some ((.inl (sy_x 0) :: r : List sy_A).map (sy_v ρ τ), w, 0, 0) => pf_next (px_step_2 hq rfl hs) (sy_use (hG _ List.mem_cons_self) hM hm hl hf hd)) ?_
      rw [hst, hcf, hx]
      show some (Value.int (Int32.ofNat xs.length) :: r.map (sy_v ρ τ), w, 0, 0) = some (Value.int (Int32.ofInt (sy_e ρ (sy_x 0))) :: r.map (sy_v ρ τ), w, 0, 0)
      rw [sy_x_e, h0]
      rfl
    · cases h
  · rename_i ix r hst
    split at h
    · rename_i hc
      obtain ⟨h1, hfs, hw, p1, p2⟩ := hc
      subst h1
      cases h
      refine sy_open (fun ρ τ w lc cf d hm hl hf hd => ?_) hM
      have hcf : cf = [] := by rw [hfs] at hf; exact sy_frs_nil hf
      have h0 : ρ 0 = xs.length := by rw [hm.1.2 0 (by omega)]; exact hN.2
      have a1 := sy_pos_e hm.2.1 hm.2.2.1 p1
      have a2 := sy_pos_e hm.2.1 hm.2.2.1 p2
      rw [sy_add_e, sy_sub_e, sy_x_e, sy_c_e, h0] at a2
      obtain ⟨x1, x2⟩ := px_ix_of (z := sy_e ρ ix) (n := xs.length) a1 (by omega) (by omega)
      have hb := sy_full_in (xs.getD (sy_e ρ ix).toNat 0)
      obtain ⟨ρ', e1, e2, hm', ⟨f1, f2, f3, f4⟩, hf'⟩ := sy_fresh (c := (M, S.2.1.2.1, lc, S.2.1.2.2.2.map (sy_v ρ τ))) hw ⟨hm, ⟨hM, rfl, hl, rfl⟩, hf⟩ hb.1 hb.2
      have f4' : S.2.1.2.2.2.map (sy_v ρ τ) = S.2.1.2.2.2.map (sy_v ρ' τ) := f4
      rw [hst] at f4'
      have hr : r.map (sy_v ρ τ) = r.map (sy_v ρ' τ) := (List.cons.inj (List.cons.inj f4').2).2
      have hu := sy_use (hG _ List.mem_cons_self) hM hm' f3 hf' hd
      have e3 : (.inl (sy_x S.1.1.length) :: r : List sy_A).map (sy_v ρ' τ) = .int (xs.getD (sy_e ρ ix).toNat 0) :: r.map (sy_v ρ τ) := by
        show Value.int (Int32.ofInt (sy_e ρ' (sy_x S.1.1.length))) :: r.map (sy_v ρ' τ) = _
        rw [sy_x_e, e2, Int32.ofInt_toInt, hr]
      rw [e3] at hu
      refine (fun hs : px_s2 x.1 x.2.1 .iaload 1 (pf_scr x.2.2.2.1 cf) M.1.1.name M.1.1.cls M.2.2 (S.2.1.2.2.2.map (sy_v ρ τ)) w = some (.int (xs.getD (sy_e ρ ix).toNat 0) :: r.map (sy_v ρ τ), w, 0, 0) => pf_next (px_step_2 hq rfl hs) hu) ?_
      rw [hst, hcf, hx]
      show (if px_ix (Int32.ofInt (sy_e ρ ix)) xs.length = true then some (Value.int (xs.getD (Int32.ofInt (sy_e ρ ix)).toNatClampNeg 0) :: r.map (sy_v ρ τ), w, 0, 0) else none) = _
      rw [if_pos x1, x2]
    · cases h
  · cases h
/-- a step of the law's frame -/
def sy_sucL (cl : List vw_C) (lt : List (List Int32)) (P PM : List px_M) (A : List sy_Ce) (Wr : sy_Wr) (Cs : List sy_Co) (D : Nat) (S : sy_S) : Option (List sy_S) := match PM[S.2.1.1]? with
  | none => none
  | some M => (match px_look M.2.1 S.2.1.2.1 with
    | none => none
    | some (i, len) => px_or (sy_pre A Wr M i S) (px_or (sy_uQ i len S) (px_or (sy_u1 M i len S) (px_or (sy_uB i len S) (px_or (sy_uK lt A M i len S) (px_or (sy_uA i len S) (px_or (sy_uL lt A Wr M i len S) (match sy_cl cl A P i len M.2.2 S.2.1.2.2.2 with
      | some z => sy_uM P Wr D S z Cs
      | none => none))))))))
theorem sy_sucL_ok {D : Nat} {Cs : List sy_Co} {xs : List Int32} (hx : x.2.2.2.1 = some xs) (hlen : xs.length ≤ 3072) (hN : 1 ≤ q.2.2.2.2.2 ∧ q.2.2.2.2.1 0 = xs.length) (hCs : ∀ C ∈ Cs, sy_Met x.1 x.2.1 x.2.2.1 q.2.1 x.2.2.2.2.1 C) (hD : D ≤ x.2.2.2.2.2.2) (h : sy_sucL x.1 x.2.1 x.2.2.1 q.1 q.2.1 q.2.2.1 Cs D S = some l) : sy_S1 x q S l := by
  unfold sy_sucL at h
  split at h
  · cases h
  · rename_i M hM
    split at h
    · cases h
    · rename_i i len hq
      rcases px_or_some h with h | h
      · exact sy_pre_ok h
      rcases px_or_some h with h | h
      · exact sy_uQ_ok hx hlen hN hM hq h
      rcases px_or_some h with h | h
      · exact sy_u1_ok hM hq h
      rcases px_or_some h with h | h
      · exact sy_uB_ok hM hq h
      rcases px_or_some h with h | h
      · exact sy_uK_ok hM hq h
      rcases px_or_some h with h | h
      · exact sy_uA_ok hM hq h
      rcases px_or_some h with h | h
      · exact sy_uL_ok hM hq h
      split at h
      · rename_i z hz
        exact sy_uM_ok hD hM hq hz Cs hCs h
      · cases h
end LW

end
end
section
noncomputable section
/-! THE LAW'S LOOP, BY PROGRAM -/
section LZ
variable {x : sy_X} {q : sy_Q} {S : sy_S} {M : px_M} {i : Instr} {len : Nat} {l : List sy_S}
def sy_haltL (PM : List px_M) (j N0 : Nat) (cuts : List sy_Cut) (m : sy_L) (S : sy_S) : Option Bool := match S.2.2 with
  | _ :: _ => none
  | [] => if S.2.1.2.2.2 = [] ∧ cuts.any (fun c => c.1 == S.2.1.2.1) = true ∧ S.2.1.1 = j then some (cuts.any (sy_atC N0 m S)) else (match PM[S.2.1.1]? with
    | some M => (match px_look M.2.1 S.2.1.2.1 with
      | some (i, len) => (match sy_rt S.1.1 i len M.1.2.2.2.1 S.2.1.2.2.2 with
        | some v => some (decide (v = some (.inl (sy_c 1))))
        | none => none)
      | none => none)
    | none => none)
theorem sy_atC_ok {cuts : List sy_Cut} {ρ0 : Nat → Int} {N0 : Nat} {c : sy_Cut} {m : sy_L} (hI : sy_I x q.2.1 q.2.2.1 q.2.2.2.1 ρ0 N0 M cuts (sy_e q.2.2.2.2.1 m)) (hN : N0 ≤ q.2.2.2.2.2 ∧ ∀ i, i < N0 → q.2.2.2.2.1 i = ρ0 i) (hmw : sy_wl q.2.2.2.2.2 m = true) (hM : q.1[S.2.1.1]? = some M) (hc : c ∈ cuts) (h1 : sy_atC N0 m S c = true) : sy_Good x q S := by
  unfold sy_atC at h1
  rw [Bool.and_eq_true] at h1
  have hgo : ∀ (σ : List sy_L) (σL : List Nat), sy_fitC N0 S c σ σL m = true → sy_Good x q S := fun σ σL h2 => sy_goCut hI hN hmw hM hc h2
  obtain ⟨-, h2⟩ := h1
  rw [Bool.or_eq_true] at h2
  rcases h2 with h2 | h2
  · exact hgo _ _ h2
  · split at h2
    · cases h2
    · rw [Bool.or_eq_true] at h2
      rcases h2 with h2 | h2
      · exact hgo _ _ h2
      · obtain ⟨j, -, h3⟩ := List.any_eq_true.mp h2
        exact hgo _ _ h3
theorem sy_haltL_ok {cuts : List sy_Cut} {j N0 : Nat} {ρ0 : Nat → Int} {m : sy_L} (hMC : q.1[j]? = some M) (hI : sy_I x q.2.1 q.2.2.1 q.2.2.2.1 ρ0 N0 M cuts (sy_e q.2.2.2.2.1 m)) (hN : N0 ≤ q.2.2.2.2.2 ∧ ∀ i, i < N0 → q.2.2.2.2.1 i = ρ0 i) (hmw : sy_wl q.2.2.2.2.2 m = true) (hK : x.2.2.2.2.2.1 = fun v _ => v = some (.int 1)) (h : sy_haltL q.1 j N0 cuts m S = some true) : sy_Good x q S := by
  unfold sy_haltL at h
  split at h
  · cases h
  · rename_i hfs
    split at h
    · rename_i hc
      obtain ⟨c, hcc, h1⟩ := List.any_eq_true.mp (Option.some.inj h)
      exact sy_atC_ok hI hN hmw (by rw [hc.2.2]; exact hMC) hcc h1
    · split at h
      · rename_i M2 hM2
        split at h
        · rename_i i len hq
          split at h
          · rename_i v hv
            have h1 : v = some (.inl (sy_c 1)) := of_decide_eq_true (Option.some.inj h)
            refine sy_goEnd hM2 hq hv hfs (fun ρ τ w hm => ?_)
            rw [hK, h1]
            show some (Value.int (Int32.ofInt (sy_e ρ (sy_c 1)))) = _
            rw [sy_c_e]
            rfl
          · cases h
        · cases h
      · cases h
def sy_allL (cl : List vw_C) (lt : List (List Int32)) (P PM : List px_M) (A : List sy_Ce) (Wr : sy_Wr) (Cs : List sy_Co) (D j N0 : Nat) (cuts : List sy_Cut) (m : sy_L) : Nat → List sy_S → Bool
  | 0, _ => false
  | _ + 1, [] => true
  | n + 1, S :: r => match sy_haltL PM j N0 cuts m S with
    | some b => b && sy_allL cl lt P PM A Wr Cs D j N0 cuts m n r
    | none => (match sy_sucL cl lt P PM A Wr Cs D S with
      | some l => sy_allL cl lt P PM A Wr Cs D j N0 cuts m n (l ++ r)
      | none => false)
theorem sy_allL_ok {cuts : List sy_Cut} {Cs : List sy_Co} {D j N0 : Nat} {ρ0 : Nat → Int} {m : sy_L} {xs : List Int32} (hx : x.2.2.2.1 = some xs) (hlen : xs.length ≤ 3072) (hN1 : 1 ≤ q.2.2.2.2.2 ∧ q.2.2.2.2.1 0 = xs.length) (hCs : ∀ C ∈ Cs, sy_Met x.1 x.2.1 x.2.2.1 q.2.1 x.2.2.2.2.1 C) (hD : D ≤ x.2.2.2.2.2.2) (hMC : q.1[j]? = some M) (hI : sy_I x q.2.1 q.2.2.1 q.2.2.2.1 ρ0 N0 M cuts (sy_e q.2.2.2.2.1 m)) (hN : N0 ≤ q.2.2.2.2.2 ∧ ∀ i, i < N0 → q.2.2.2.2.1 i = ρ0 i) (hmw : sy_wl q.2.2.2.2.2 m = true) (hK : x.2.2.2.2.2.1 = fun v _ => v = some (.int 1)) : ∀ (n : Nat) (l : List sy_S), sy_allL x.1 x.2.1 x.2.2.1 q.1 q.2.1 q.2.2.1 Cs D j N0 cuts m n l = true → ∀ S ∈ l, sy_Good x q S
  | 0, l, h => by cases h
  | n + 1, [], _ => fun S hS => absurd hS List.not_mem_nil
  | n + 1, S0 :: r, h => by
    unfold sy_allL at h
    intro S hS
    split at h
    · rename_i b hb
      rw [Bool.and_eq_true] at h
      rw [h.1] at hb
      rcases List.mem_cons.mp hS with rfl | hS
      · exact sy_haltL_ok hMC hI hN hmw hK hb
      · exact sy_allL_ok hx hlen hN1 hCs hD hMC hI hN hmw hK n r h.2 S hS
    · split at h
      · rename_i l0 hl
        have ih := sy_allL_ok hx hlen hN1 hCs hD hMC hI hN hmw hK n (l0 ++ r) h
        rcases List.mem_cons.mp hS with rfl | hS
        · exact sy_sucL_ok hx hlen hN1 hCs hD hl (fun S' h' => ih S' (List.mem_append_left _ h'))
        · exact ih S (List.mem_append_right _ hS)
      · cases h
end LZ

end
end
section
noncomputable section
/-! THE LAW'S LOOP ENDS WITH 1 -/
def sy_ckL (cl : List vw_C) (lt : List (List Int32)) (P PM : List px_M) (A : List sy_Ce) (Wr : sy_Wr) (Cs : List sy_Co) (D j : Nat) (cuts : List sy_Cut) (n : Nat) (c : sy_Cut) : Bool := decide (1 ≤ c.2.1.1.length) && (sy_wl c.2.1.1.length c.2.2.2 && (match sy_sucL cl lt P PM A Wr Cs D (sy_cS j c) with
  | some l => sy_allL cl lt P PM A Wr Cs D j 1 cuts c.2.2.2 n l
  | none => false))
theorem sy_law {cl : List vw_C} {lt : List (List Int32)} {P PM : List px_M} {A : List sy_Ce} {Wr : sy_Wr} {Cs : List sy_Co} {D d j : Nat} {M : px_M} {cuts : List sy_Cut} {xs : List Int32} (n : Nat) (hlen : xs.length ≤ 3072) (hPM : PM[j]? = some M) (hCs : ∀ C ∈ Cs, sy_Met cl lt P A (0, 0) C) (hD : D ≤ d) (hc : cuts.all (sy_ckL cl lt P PM A Wr Cs D j cuts n) = true) {w : px_W} {ρ0 : Nat → Int} (h0 : ρ0 0 = xs.length) : ∀ m : Nat, sy_I (cl, lt, P, some xs, (0, 0), (fun v _ => v = some (.int 1)), d) A Wr w ρ0 1 M cuts (m : Int) := by
  refine sy_floyd hPM (fun c hcc ρs hr hI => ?_)
  have h1 := List.all_eq_true.mp hc c hcc
  unfold sy_ckL at h1
  rw [Bool.and_eq_true, Bool.and_eq_true] at h1
  obtain ⟨h2, h3, h4⟩ := h1
  have hN1 : ρs 0 = xs.length := by rw [hr.2 0 (by omega)]; exact h0
  split at h4
  · rename_i l hl
    have ih := sy_allL_ok (x := (cl, lt, P, some xs, (0, 0), (fun v _ => v = some (.int 1)), d)) (q := (PM, A, Wr, w, ρs, c.2.1.1.length)) (ρ0 := ρ0) rfl hlen ⟨of_decide_eq_true h2, hN1⟩ hCs hD hPM hI hr h3 rfl n l h4
    exact sy_sucL_ok (x := (cl, lt, P, some xs, (0, 0), (fun v _ => v = some (.int 1)), d)) (q := (PM, A, Wr, w, ρs, c.2.1.1.length)) rfl hlen ⟨of_decide_eq_true h2, hN1⟩ hCs hD hl ih
  · cases h4
/-- a run that needs no room is a run in any room -/
theorem px_room {cl : List vw_C} {lt : List (List Int32)} {P : List px_M} (b : Nat × Nat) : ∀ (n d : Nat) (scr : Option (List Int32)) (M : px_M) (pc : Nat) (lv : List (Nat × Value)) (st : List Value) (w : px_W) (v : Option Value) (w' : px_W) (b' : Nat × Nat), px_exec cl lt P n d scr M pc lv st w (0, 0) = some (v, w', b') → px_exec cl lt P n d scr M pc lv st w b = some (v, w', b)
  | 0, _, _, _, _, _, _, _, _, _, _, h => by simp [px_exec] at h
  | n + 1, d, scr, M, pc, lv, st, w, v, w', b', h => by
    rw [px_exec_succ] at h ⊢
    cases hs : px_step cl lt P d scr M pc lv st w with
    | none => rw [hs] at h; cases h
    | some z =>
      rw [hs] at h
      match z with
      | .inl z =>
        simp only at h ⊢
        split at h
        · rename_i hb
          have h1 : z.2.2.2.2.1 = 0 := by have := hb.1; omega
          have h2 : z.2.2.2.2.2 = 0 := by have := hb.2; omega
          rw [h1, h2] at h ⊢
          rw [if_pos ⟨Nat.zero_le _, Nat.zero_le _⟩]
          exact px_room b n _ _ _ _ _ _ _ _ _ _ h
        · cases h
      | .inr (.inl v2) =>
        simp only at h ⊢
        cases h
        rfl
      | .inr (.inr q) =>
        simp only at h ⊢
        split at h
        · rename_i d' M' hM'
          split at h
          · rename_i hf
            rw [if_pos hf]
            split at h
            · cases h
            · rename_i r2 hr2
              obtain ⟨v2, w2, b2⟩ := r2
              have hb2 := px_mono _ _ _ _ _ _ _ _ _ _ hr2
              have hb3 : b2 = (0, 0) := by
                obtain ⟨x1, x2⟩ := b2
                dsimp only at hb2
                have e1 : x1 = 0 := by omega
                have e2 : x2 = 0 := by omega
                rw [e1, e2]
              subst hb3
              rw [px_room b n _ _ _ _ _ _ _ _ _ _ hr2]
              exact px_room b n _ _ _ _ _ _ _ _ _ _ h
          · cases h
        · cases h

end
end
section
noncomputable section
/-! THE LAW'S LOOP, WITH WHAT IT READ OF THE SCRIPT KEPT IN MIND -/
section LT
variable {x : sy_X} {q : sy_Q} {S : sy_S} {M : px_M} {i : Instr} {len : Nat} {l : List sy_S}
/-- splits at chosen places: 1 one by one, 2 below, above, equal, 3 a shift by a constant -/
def sy_zp1 (S : sy_S) : Option (List sy_S) := match S.2.1.2.2.2 with
  | .inl e :: _ => (match e.2.find? (fun t => match S.1.1[t.1]? with
      | some p => decide (p.1 < p.2)
      | none => false) with
    | some t => (match S.1.1[t.1]? with
      | some p => if p.2 - p.1 ≤ 300 then some (sy_spl S t.1 p.1 (p.2 - p.1 + 1).toNat) else none
      | none => none)
    | none => none)
  | _ => none
theorem sy_zp1_ok (h : sy_zp1 S = some l) : sy_S1 x q S l := by
  intro hG
  unfold sy_zp1 at h
  split at h
  · split at h
    · split at h
      · rename_i p hp
        split at h
        · cases h
          exact sy_goSpl hp hG
        · cases h
      · cases h
    · cases h
  · cases h
def sy_zp2 (i : Instr) (S : sy_S) : Option (List sy_S) := match i, S.2.1.2.2.2 with
  | .ifCond _ _, .inl a :: _ => if sy_dec S.1.1 S.1.2.2.1 a = true then none else some (sy_3 S a)
  | .if_icmp _ _, .inl b :: .inl a :: _ => if sy_dec S.1.1 S.1.2.2.1 (sy_sub a b) = true then none else some (sy_3 S (sy_sub a b))
  | _, _ => none
theorem sy_zp2_ok (h : sy_zp2 i S = some l) : sy_S1 x q S l := by
  intro hG
  unfold sy_zp2 at h
  split at h
  · split at h
    · cases h
    · cases h
      exact sy_go3 hG
  · split at h
    · cases h
    · cases h
      exact sy_go3 hG
  · cases h
def sy_zp3 (i : Instr) (len : Nat) (S : sy_S) : Option (List sy_S) := match i, S.2.1.2.2.2 with
  | .ishr, .inl b :: .inl a :: r => if len = 1 ∧ sy_wS S = true then (match sy_b S.1.1 a, sy_b S.1.1 b with
    | some p, some s => if sy_fit p = true ∧ s.1 = s.2 ∧ 0 ≤ s.1 ∧ s.1 ≤ 30 then some [sy_at S (S.1.1 ++ [(p.1 / ((2 ^ s.1.toNat : Nat) : Int), p.2 / ((2 ^ s.1.toNat : Nat) : Int))], S.1.2.1, [] ++ S.1.2.2.1, S.1.2.2.2) (S.2.1.2.1 + 1) S.2.1.2.2.1 (.inl (sy_x S.1.1.length) :: r)] else none
    | _, _ => none) else none
  | _, _ => none
theorem sy_zp3_ok (hM : q.1[S.2.1.1]? = some M) (hq : px_look M.2.1 S.2.1.2.1 = some (i, len)) (h : sy_zp3 i len S = some l) : sy_S1 x q S l := by
  intro hG
  unfold sy_zp3 at h
  split at h
  · rename_i b a r hst
    split at h
    · rename_i hc
      obtain ⟨c1, c2⟩ := hc
      subst c1
      split at h
      · rename_i p s hp hs
        split at h
        · rename_i hc
          obtain ⟨d1, d2, d3, d4⟩ := hc
          cases h
          refine sy_goFc (pre := [.inl b, .inl a]) (cs := []) c2 hM hst (fun ρ τ w lc cf d hm _ => ?_) (hG _ List.mem_cons_self)
          obtain ⟨p1, p2⟩ := sy_b_e hm.2.1 hp
          obtain ⟨s1, s2⟩ := sy_b_e hm.2.1 hs
          have es : sy_e ρ b = s.1 := by omega
          have ex := sy_fit_e d1 p1 p2
          have hz := sy_sh (X := Int32.ofInt (sy_e ρ a)) (z := sy_e ρ b) (by omega) (by omega)
          rw [ex, es] at hz
          have hpos : (0 : Int) < ((2 ^ s.1.toNat : Nat) : Int) := by
            have : 0 < 2 ^ s.1.toNat := Nat.pow_pos (by decide)
            omega
          refine ⟨_, ?_, ?_, fun ρ' a1 a2 => fun z hz2 => absurd hz2 List.not_mem_nil, sy_bstep hq rfl hst rfl⟩
          · show p.1 / _ ≤ _
            rw [es, hz]
            exact Int.ediv_le_ediv hpos p1
          · show _ ≤ p.2 / _
            rw [es, hz]
            exact Int.ediv_le_ediv hpos p2
        · cases h
      · cases h
    · cases h
  · cases h
/-- the number on top is at most 0, at most 200, or above -/
def sy_zp4 (S : sy_S) : Option (List sy_S) := match S.2.1.2.2.2 with
  | .inl (0, [(y, 1)]) :: _ => (match S.1.1[y]? with
    | some p => ([0, 200] : List Int).findSome? (fun b => if p.1 ≤ b ∧ b < p.2 then some [(sy_rng S.1 y (p.1, b), S.2), (sy_rng S.1 y (b + 1, p.2), S.2)] else none)
    | none => none)
  | _ => none
theorem sy_zp4_ok (h : sy_zp4 S = some l) : sy_S1 x q S l := by
  intro hG
  unfold sy_zp4 at h
  split at h
  · rename_i y rest hst
    split at h
    · rename_i p hp
      obtain ⟨b, -, h1⟩ := List.exists_of_findSome?_eq_some h
      split at h1
      · cases h1
        intro ρ τ w c cf k hR hd
        obtain ⟨h2, h3⟩ := hR.1.2.1 y p hp
        by_cases h4 : ρ y ≤ b
        · exact hG _ List.mem_cons_self ρ τ w c cf k ⟨sy_rng_ok hR.1 h2 h4, hR.2⟩ hd
        · exact hG _ (List.mem_cons_of_mem _ List.mem_cons_self) ρ τ w c cf k ⟨sy_rng_ok hR.1 (by show b + 1 ≤ _; omega) h3, hR.2⟩ hd
      · cases h1
    · cases h
  · cases h
def sy_zp (zs : List (Nat × Nat × Nat)) (i : Instr) (len : Nat) (S : sy_S) : Option (List sy_S) := match zs.find? (fun p => p.1 == S.2.1.1 && p.2.1 == S.2.1.2.1) with
  | some p => if p.2.2 = 1 then sy_zp1 S else if p.2.2 = 2 then sy_zp2 i S else if p.2.2 = 4 then sy_zp4 S else if p.2.2 = 3 then sy_zp3 i len S else none
  | none => none
theorem sy_zp_ok {zs : List (Nat × Nat × Nat)} (hM : q.1[S.2.1.1]? = some M) (hq : px_look M.2.1 S.2.1.2.1 = some (i, len)) (h : sy_zp zs i len S = some l) : sy_S1 x q S l := by
  unfold sy_zp at h
  split at h
  · split at h
    · exact sy_zp1_ok h
    · split at h
      · exact sy_zp2_ok h
      · split at h
        · exact sy_zp4_ok h
        · split at h
          · exact sy_zp3_ok hM hq h
          · cases h
  · cases h
/-- a state that can't be -/
def sy_dead (g : sy_G) : Bool := g.1.any (fun r => decide (r.2 < r.1)) || g.2.2.1.any (fun c => sy_pos g.1 g.2.2.1 (sy_sub (sy_c (-1)) c))
theorem sy_dead_ok (h : sy_dead S.1 = true) : sy_Good x q S := by
  intro ρ τ w c cf d hR _
  exfalso
  obtain ⟨-, m2, m3, -⟩ := hR.1
  unfold sy_dead at h
  rw [Bool.or_eq_true] at h
  rcases h with h | h
  · obtain ⟨r, hr, h1⟩ := List.any_eq_true.mp h
    obtain ⟨k, hk⟩ := List.mem_iff_getElem?.mp hr
    have := m2 k r hk
    have := of_decide_eq_true h1
    omega
  · obtain ⟨e, he, h1⟩ := List.any_eq_true.mp h
    have h2 := sy_pos_e m2 m3 h1
    have h3 := m3 e he
    rw [sy_sub_e, sy_c_e] at h2
    omega
theorem sy_wl_mono {N N' : Nat} (h : N ≤ N') {e : sy_L} (hw : sy_wl N e = true) : sy_wl N' e = true := by
  unfold sy_wl at hw ⊢
  refine List.all_eq_true.mpr (fun t ht => ?_)
  have := of_decide_eq_true (List.all_eq_true.mp hw t ht)
  exact decide_eq_true (by omega)
/-- sums that are kept in mind -/
def sy_bo : Nat → Instr
  | 0 => .iand
  | 1 => .ior
  | 2 => .ixor
  | 3 => .imul
  | 4 => .idiv
  | 5 => .irem
  | 6 => .ishl
  | 7 => .ishr
  | _ => .iushr
def sy_ob (i : Instr) : Option Nat := match i with
  | .iand => some 0
  | .ior => some 1
  | .ixor => some 2
  | .imul => some 3
  | .idiv => some 4
  | .irem => some 5
  | .ishl => some 6
  | .ishr => some 7
  | .iushr => some 8
  | _ => none
theorem sy_ob_ok {i : Instr} {k : Nat} (h : sy_ob i = some k) : i = sy_bo k ∧ px_so1 i = 1 := by
  unfold sy_ob at h
  split at h <;> first | (cases h; exact ⟨rfl, rfl⟩) | (cases h)
/-- what was read or done: 0 and a place of the script, or what was done and with which two; the symbol for it -/
abbrev sy_Me : Type := Nat × sy_L × sy_L × Nat
def sy_tk (xs : List Int32) (ρs : Nat → Int) (t : sy_Me) : Prop := match t.1 with
  | 0 => xs.getD (sy_e ρs t.2.1).toNat 0 = Int32.ofInt (ρs t.2.2.2)
  | k + 1 => px_bin (sy_bo k) (Int32.ofInt (sy_e ρs t.2.1)) (Int32.ofInt (sy_e ρs t.2.2.1)) = some (Int32.ofInt (ρs t.2.2.2))
theorem sy_tk_ext {xs : List Int32} {ρ ρ' : Nat → Int} {N : Nat} (h : ∀ i, i < N → ρ' i = ρ i) {t : sy_Me} (h1 : sy_wl N t.2.1 = true) (h2 : sy_wl N t.2.2.1 = true) (h3 : t.2.2.2 < N) (ht : sy_tk xs ρ t) : sy_tk xs ρ' t := by
  obtain ⟨k, a, b, s⟩ := t
  dsimp only at h1 h2 h3
  cases k with
  | zero =>
    show xs.getD (sy_e ρ' a).toNat 0 = Int32.ofInt (ρ' s)
    rw [sy_ext_l h h1, h s h3]
    exact ht
  | succ k =>
    show px_bin (sy_bo k) (Int32.ofInt (sy_e ρ' a)) (Int32.ofInt (sy_e ρ' b)) = some (Int32.ofInt (ρ' s))
    rw [sy_ext_l h h1, sy_ext_l h h2, h s h3]
    exact ht
/-- what is kept in mind; how many symbols are fixed; the state -/
abbrev sy_St : Type := List sy_Me × Nat × sy_S
def sy_tv (xs : List Int32) (ρc : Nat → Int) (Nc : Nat) (T : List sy_Me) (N : Nat) (ρs : Nat → Int) : Prop := (Nc ≤ N ∧ ∀ i, i < Nc → ρs i = ρc i) ∧ ∀ t ∈ T, sy_wl N t.2.1 = true ∧ sy_wl N t.2.2.1 = true ∧ t.2.2.2 < N ∧ sy_tk xs ρs t
abbrev sy_Q4 : Type := List px_M × List sy_Ce × sy_Wr × px_W
def sy_q6 (q : sy_Q4) (ρs : Nat → Int) (N : Nat) : sy_Q := (q.1, q.2.1, q.2.2.1, q.2.2.2, ρs, N)
def sy_GT (x : sy_X) (q : sy_Q4) (xs : List Int32) (ρc : Nat → Int) (Nc : Nat) (z : sy_St) : Prop := ∀ ρs : Nat → Int, sy_tv xs ρc Nc z.1 z.2.1 ρs → sy_Good x (sy_q6 q ρs z.2.1) z.2.2
def sy_lift (z : sy_St) (o : Option (List sy_S)) : Option (List sy_St) := o.map (fun l => l.map (fun s => (z.1, z.2.1, s)))
theorem sy_lift_ok {q : sy_Q4} {xs : List Int32} {ρc : Nat → Int} {Nc : Nat} {z : sy_St} {o : Option (List sy_S)} {l' : List sy_St} (h : sy_lift z o = some l') (hS : ∀ l, o = some l → ∀ ρs, sy_S1 x (sy_q6 q ρs z.2.1) z.2.2 l) (hG : ∀ z' ∈ l', sy_GT x q xs ρc Nc z') : sy_GT x q xs ρc Nc z := by
  obtain ⟨l, hl, rfl⟩ := Option.map_eq_some_iff.mp h
  intro ρs hv
  exact hS l hl ρs (fun S' hS' => hG (z.1, z.2.1, S') (List.mem_map.mpr ⟨S', hS', rfl⟩) ρs hv)
/-- reads of the script -/
def sy_uT (i : Instr) (len : Nat) (z : sy_St) : Option (List sy_St) := match i, z.2.2.2.1.2.2.2 with
  | .arraylength, .inr (.inl 0) :: _ => sy_lift z (sy_uQ i len z.2.2)
  | .iaload, .inl ix :: .inr (.inl 0) :: r => if len = 1 ∧ z.2.2.2.2 = [] ∧ sy_wS z.2.2 = true ∧ sy_pos z.2.2.1.1 z.2.2.1.2.2.1 ix = true ∧ sy_pos z.2.2.1.1 z.2.2.1.2.2.1 (sy_add (sy_sub (sy_x 0) ix) (sy_c (-1))) = true then (match z.1.find? (fun t => decide (t.1 = 0) && decide (t.2.1 = ix)) with
    | some t => some [(z.1, z.2.1, sy_at z.2.2 z.2.2.1 (z.2.2.2.1.2.1 + 1) z.2.2.2.1.2.2.1 (.inl (sy_x t.2.2.2) :: r))]
    | none => some [((0, ix, ix, z.2.2.1.1.length) :: z.1, z.2.2.1.1.length + 1, sy_at z.2.2 (sy_new z.2.2.1 sy_full) (z.2.2.2.1.2.1 + 1) z.2.2.2.1.2.2.1 (.inl (sy_x z.2.2.1.1.length) :: r))]) else none
  | _, _ => none
theorem sy_uT_ok {q : sy_Q4} {xs : List Int32} {ρc : Nat → Int} {Nc : Nat} {z : sy_St} {l' : List sy_St} (hx : x.2.2.2.1 = some xs) (hlen : xs.length ≤ 3072) (hN : 1 ≤ Nc ∧ ρc 0 = xs.length) (hM : q.1[z.2.2.2.1.1]? = some M) (hq : px_look M.2.1 z.2.2.2.1.2.1 = some (i, len)) (h : sy_uT i len z = some l') (hG : ∀ z' ∈ l', sy_GT x q xs ρc Nc z') : sy_GT x q xs ρc Nc z := by
  unfold sy_uT at h
  split at h
  · rename_i r hst
    intro ρs hv
    obtain ⟨l, hl, rfl⟩ := Option.map_eq_some_iff.mp h
    exact sy_uQ_ok (q := sy_q6 q ρs z.2.1) hx hlen ⟨Nat.le_trans hN.1 hv.1.1, by show ρs 0 = _; rw [hv.1.2 0 (by omega)]; exact hN.2⟩ hM hq hl (fun S' hS' => hG (z.1, z.2.1, S') (List.mem_map.mpr ⟨S', hS', rfl⟩) ρs hv)
  · rename_i ix r hst
    split at h
    · rename_i hc
      obtain ⟨h1, hfs, hw, p1, p2⟩ := hc
      subst h1
      have hwx : sy_wl z.2.2.1.1.length ix = true := sy_wst hw (by rw [hst]; exact List.mem_cons_self)
      split at h
      · rename_i t ht
        cases h
        have htm := List.mem_of_find?_eq_some ht
        have hte0 := List.find?_some (p := fun t : sy_Me => decide (t.1 = 0) && decide (t.2.1 = ix)) ht
        rw [Bool.and_eq_true] at hte0
        have hte1 : t.1 = 0 := of_decide_eq_true hte0.1
        have hte : t.2.1 = ix := of_decide_eq_true hte0.2
        intro ρs hv
        obtain ⟨t1, -, t2, t4⟩ := hv.2 t htm
        have t3 : xs.getD (sy_e ρs t.2.1).toNat 0 = Int32.ofInt (ρs t.2.2.2) := by
          unfold sy_tk at t4
          rw [hte1] at t4
          exact t4
        refine sy_open (S := z.2.2) (q := sy_q6 q ρs z.2.1) (fun ρ τ w lc cf d hm hl hf hd => ?_) hM
        have hcf : cf = [] := by rw [hfs] at hf; exact sy_frs_nil hf
        have hag : ∀ i, i < z.2.1 → ρ i = ρs i := hm.1.2
        have h0 : ρ 0 = xs.length := by rw [hag 0 (by have := hv.1.1; omega), hv.1.2 0 (by omega)]; exact hN.2
        have a1 := sy_pos_e hm.2.1 hm.2.2.1 p1
        have a2 := sy_pos_e hm.2.1 hm.2.2.1 p2
        rw [sy_add_e, sy_sub_e, sy_x_e, sy_c_e, h0] at a2
        obtain ⟨x1, x2⟩ := px_ix_of (z := sy_e ρ ix) (n := xs.length) a1 (by omega) (by omega)
        have e5 : xs.getD (sy_e ρ ix).toNat 0 = Int32.ofInt (ρ t.2.2.2) := by
          rw [← hte, sy_ext_l hag t1, t3, hag t.2.2.2 t2]
        have hu := sy_use (S := z.2.2) (q := sy_q6 q ρs z.2.1) (hG _ List.mem_cons_self ρs hv) hM hm hl hf hd
        have e3 : (.inl (sy_x t.2.2.2) :: r : List sy_A).map (sy_v ρ τ) = .int (xs.getD (sy_e ρ ix).toNat 0) :: r.map (sy_v ρ τ) := by
          show Value.int (Int32.ofInt (sy_e ρ (sy_x t.2.2.2))) :: r.map (sy_v ρ τ) = _
          rw [sy_x_e, e5]
        rw [e3] at hu
        refine (fun hs : px_s2 x.1 x.2.1 .iaload 1 (pf_scr x.2.2.2.1 cf) M.1.1.name M.1.1.cls M.2.2 (z.2.2.2.1.2.2.2.map (sy_v ρ τ)) w = some (.int (xs.getD (sy_e ρ ix).toNat 0) :: r.map (sy_v ρ τ), w, 0, 0) => pf_next (px_step_2 hq rfl hs) hu) ?_
        rw [hst, hcf, hx]
        show (if px_ix (Int32.ofInt (sy_e ρ ix)) xs.length = true then some (Value.int (xs.getD (Int32.ofInt (sy_e ρ ix)).toNatClampNeg 0) :: r.map (sy_v ρ τ), w, 0, 0) else none) = _
        rw [if_pos x1, x2]
      · cases h
        intro ρs hv
        refine sy_open (S := z.2.2) (q := sy_q6 q ρs z.2.1) (fun ρ τ w lc cf d hm hl hf hd => ?_) hM
        have hcf : cf = [] := by rw [hfs] at hf; exact sy_frs_nil hf
        have hag : ∀ i, i < z.2.1 → ρ i = ρs i := hm.1.2
        have hNl : z.2.1 ≤ z.2.2.1.1.length := hm.1.1
        have h0 : ρ 0 = xs.length := by rw [hag 0 (by have := hv.1.1; omega), hv.1.2 0 (by omega)]; exact hN.2
        have a1 := sy_pos_e hm.2.1 hm.2.2.1 p1
        have a2 := sy_pos_e hm.2.1 hm.2.2.1 p2
        rw [sy_add_e, sy_sub_e, sy_x_e, sy_c_e, h0] at a2
        obtain ⟨x1, x2⟩ := px_ix_of (z := sy_e ρ ix) (n := xs.length) a1 (by omega) (by omega)
        have hb := sy_full_in (xs.getD (sy_e ρ ix).toNat 0)
        obtain ⟨ρ', e1, e2, hm', ⟨f1, f2, f3, f4⟩, hf'⟩ := sy_fresh (S := z.2.2) (q := sy_q6 q ρs z.2.1) (c := (M, z.2.2.2.1.2.1, lc, z.2.2.2.1.2.2.2.map (sy_v ρ τ))) hw ⟨hm, ⟨hM, rfl, hl, rfl⟩, hf⟩ hb.1 hb.2
        have f4' : z.2.2.2.1.2.2.2.map (sy_v ρ τ) = z.2.2.2.1.2.2.2.map (sy_v ρ' τ) := f4
        rw [hst] at f4'
        have hr : r.map (sy_v ρ τ) = r.map (sy_v ρ' τ) := (List.cons.inj (List.cons.inj f4').2).2
        have hag2 : ∀ i, i < z.2.1 → ρ' i = ρs i := fun i hi => by rw [e1 i (by omega)]; exact hag i hi
        have hv' : sy_tv xs ρc Nc ((0, ix, ix, z.2.2.1.1.length) :: z.1) (z.2.2.1.1.length + 1) ρ' := by
          refine ⟨⟨by have := hv.1.1; omega, fun i hi => by rw [hag2 i (by have := hv.1.1; omega)]; exact hv.1.2 i hi⟩, fun t ht => ?_⟩
          rcases List.mem_cons.mp ht with rfl | ht
          · refine ⟨sy_wl_mono (Nat.le_succ _) hwx, sy_wl_mono (Nat.le_succ _) hwx, Nat.lt_succ_self _, ?_⟩
            show xs.getD (sy_e ρ' ix).toNat 0 = Int32.ofInt (ρ' z.2.2.1.1.length)
            rw [sy_ext_l e1 hwx, e2, Int32.ofInt_toInt]
          · obtain ⟨t1, t2, t3, t4⟩ := hv.2 t ht
            exact ⟨sy_wl_mono (by omega) t1, sy_wl_mono (by omega) t2, by omega, sy_tk_ext hag2 t1 t2 t3 t4⟩
        have hm2 : sy_mem (sy_q6 q ρ' (z.2.2.1.1.length + 1)) (sy_new z.2.2.1 sy_full) ρ' τ w := ⟨⟨by show _ ≤ (z.2.2.1.1 ++ [sy_full]).length; rw [List.length_append]; exact Nat.le_refl _, fun _ _ => rfl⟩, hm'.2⟩
        have hu := sy_use (S := z.2.2) (q := sy_q6 q ρ' (z.2.2.1.1.length + 1)) (hG _ List.mem_cons_self ρ' hv') hM hm2 f3 hf' hd
        have e3 : (.inl (sy_x z.2.2.1.1.length) :: r : List sy_A).map (sy_v ρ' τ) = .int (xs.getD (sy_e ρ ix).toNat 0) :: r.map (sy_v ρ τ) := by
          show Value.int (Int32.ofInt (sy_e ρ' (sy_x z.2.2.1.1.length))) :: r.map (sy_v ρ' τ) = _
          rw [sy_x_e, e2, Int32.ofInt_toInt, hr]
        rw [e3] at hu
        refine (fun hs : px_s2 x.1 x.2.1 .iaload 1 (pf_scr x.2.2.2.1 cf) M.1.1.name M.1.1.cls M.2.2 (z.2.2.2.1.2.2.2.map (sy_v ρ τ)) w = some (.int (xs.getD (sy_e ρ ix).toNat 0) :: r.map (sy_v ρ τ), w, 0, 0) => pf_next (px_step_2 hq rfl hs) hu) ?_
        rw [hst, hcf, hx]
        show (if px_ix (Int32.ofInt (sy_e ρ ix)) xs.length = true then some (Value.int (xs.getD (Int32.ofInt (sy_e ρ ix)).toNatClampNeg 0) :: r.map (sy_v ρ τ), w, 0, 0) else none) = _
        rw [if_pos x1, x2]
    · cases h
  · cases h
/-- a sum that is kept in mind, at chosen places -/
def sy_uO (zs : List (Nat × Nat × Nat)) (i : Instr) (len : Nat) (z : sy_St) : Option (List sy_St) := if zs.any (fun p => p.1 == z.2.2.2.1.1 && (p.2.1 == z.2.2.2.1.2.1 && p.2.2 == 5)) = true then (match sy_ob i, z.2.2.2.1.2.2.2 with
  | some k, .inl b :: .inl a :: r => if len = 1 ∧ sy_wS z.2.2 = true then (match z.1.find? (fun t => decide (t.1 = k + 1) && (decide (t.2.1 = a) && decide (t.2.2.1 = b))) with
    | some t => some [(z.1, z.2.1, sy_at z.2.2 z.2.2.1 (z.2.2.2.1.2.1 + 1) z.2.2.2.1.2.2.1 (.inl (sy_x t.2.2.2) :: r))]
    | none => (match sy_bn z.2.2.1.1 i a b with
      | some rg => some [((k + 1, a, b, z.2.2.1.1.length) :: z.1, z.2.2.1.1.length + 1, sy_at z.2.2 (sy_new z.2.2.1 rg) (z.2.2.2.1.2.1 + 1) z.2.2.2.1.2.2.1 (.inl (sy_x z.2.2.1.1.length) :: r))]
      | none => none)) else none
  | _, _ => none) else none
theorem sy_uO_ok {q : sy_Q4} {xs : List Int32} {ρc : Nat → Int} {Nc : Nat} {zs : List (Nat × Nat × Nat)} {z : sy_St} {l' : List sy_St} (hM : q.1[z.2.2.2.1.1]? = some M) (hq : px_look M.2.1 z.2.2.2.1.2.1 = some (i, len)) (h : sy_uO zs i len z = some l') (hG : ∀ z' ∈ l', sy_GT x q xs ρc Nc z') : sy_GT x q xs ρc Nc z := by
  unfold sy_uO at h
  split at h
  · split at h
    · rename_i k b a r hk hst
      obtain ⟨hi, h1⟩ := sy_ob_ok hk
      split at h
      · rename_i hc
        obtain ⟨hl1, hw⟩ := hc
        subst hl1
        have hwa : sy_wl z.2.2.1.1.length a = true := sy_wst hw (by rw [hst]; exact List.mem_cons_of_mem _ List.mem_cons_self)
        have hwb : sy_wl z.2.2.1.1.length b = true := sy_wst hw (by rw [hst]; exact List.mem_cons_self)
        split at h
        · rename_i t ht
          cases h
          have htm := List.mem_of_find?_eq_some ht
          have hte0 := List.find?_some (p := fun t : sy_Me => decide (t.1 = k + 1) && (decide (t.2.1 = a) && decide (t.2.2.1 = b))) ht
          rw [Bool.and_eq_true, Bool.and_eq_true] at hte0
          have hte1 : t.1 = k + 1 := of_decide_eq_true hte0.1
          have hte2 : t.2.1 = a := of_decide_eq_true hte0.2.1
          have hte3 : t.2.2.1 = b := of_decide_eq_true hte0.2.2
          intro ρs hv
          obtain ⟨t1, t2, t3, t4⟩ := hv.2 t htm
          have t5 : px_bin i (Int32.ofInt (sy_e ρs a)) (Int32.ofInt (sy_e ρs b)) = some (Int32.ofInt (ρs t.2.2.2)) := by
            unfold sy_tk at t4
            rw [hte1] at t4
            rw [hi, ← hte2, ← hte3]
            exact t4
          rw [hte2] at t1
          rw [hte3] at t2
          refine sy_open (S := z.2.2) (q := sy_q6 q ρs z.2.1) (fun ρ τ w lc cf d hm hl hf hd => ?_) hM
          have hag : ∀ i, i < z.2.1 → ρ i = ρs i := hm.1.2
          have t6 : px_bin i (Int32.ofInt (sy_e ρ a)) (Int32.ofInt (sy_e ρ b)) = some (Int32.ofInt (sy_e ρ (sy_x t.2.2.2))) := by
            rw [sy_ext_l hag t1, sy_ext_l hag t2, sy_x_e, hag t.2.2.2 t3]
            exact t5
          have hu := sy_use (S := z.2.2) (q := sy_q6 q ρs z.2.1) (hG _ List.mem_cons_self ρs hv) hM hm hl hf hd
          exact pf_next (sy_bstep hq h1 hst t6) hu
        · split at h
          · rename_i rg hrg
            cases h
            intro ρs hv
            refine sy_open (S := z.2.2) (q := sy_q6 q ρs z.2.1) (fun ρ τ w lc cf d hm hl hf hd => ?_) hM
            have hag : ∀ i, i < z.2.1 → ρ i = ρs i := hm.1.2
            have hNl : z.2.1 ≤ z.2.2.1.1.length := hm.1.1
            obtain ⟨Z, z1, z2, z3⟩ := sy_bn_ok hm.2.1 hrg
            obtain ⟨ρ', e1, e2, hm', ⟨f1, f2, f3, f4⟩, hf'⟩ := sy_fresh (S := z.2.2) (q := sy_q6 q ρs z.2.1) (c := (M, z.2.2.2.1.2.1, lc, z.2.2.2.1.2.2.2.map (sy_v ρ τ))) hw ⟨hm, ⟨hM, rfl, hl, rfl⟩, hf⟩ z2 z3
            have f4' : z.2.2.2.1.2.2.2.map (sy_v ρ τ) = z.2.2.2.1.2.2.2.map (sy_v ρ' τ) := f4
            rw [hst] at f4'
            have hr : r.map (sy_v ρ τ) = r.map (sy_v ρ' τ) := (List.cons.inj (List.cons.inj f4').2).2
            have hag2 : ∀ i, i < z.2.1 → ρ' i = ρs i := fun i hi => by rw [e1 i (by omega)]; exact hag i hi
            have hv' : sy_tv xs ρc Nc ((k + 1, a, b, z.2.2.1.1.length) :: z.1) (z.2.2.1.1.length + 1) ρ' := by
              refine ⟨⟨by have := hv.1.1; omega, fun i hi => by rw [hag2 i (by have := hv.1.1; omega)]; exact hv.1.2 i hi⟩, fun t ht => ?_⟩
              rcases List.mem_cons.mp ht with rfl | ht
              · refine ⟨sy_wl_mono (Nat.le_succ _) hwa, sy_wl_mono (Nat.le_succ _) hwb, Nat.lt_succ_self _, ?_⟩
                show px_bin (sy_bo k) (Int32.ofInt (sy_e ρ' a)) (Int32.ofInt (sy_e ρ' b)) = some (Int32.ofInt (ρ' z.2.2.1.1.length))
                rw [sy_ext_l e1 hwa, sy_ext_l e1 hwb, e2, Int32.ofInt_toInt, ← hi]
                exact z1
              · obtain ⟨t1, t2, t3, t4⟩ := hv.2 t ht
                exact ⟨sy_wl_mono (by omega) t1, sy_wl_mono (by omega) t2, by omega, sy_tk_ext hag2 t1 t2 t3 t4⟩
            have hm2 : sy_mem (sy_q6 q ρ' (z.2.2.1.1.length + 1)) (sy_new z.2.2.1 rg) ρ' τ w := ⟨⟨by show _ ≤ (z.2.2.1.1 ++ [rg]).length; rw [List.length_append]; exact Nat.le_refl _, fun _ _ => rfl⟩, hm'.2⟩
            have hu := sy_use (S := z.2.2) (q := sy_q6 q ρ' (z.2.2.1.1.length + 1)) (hG _ List.mem_cons_self ρ' hv') hM hm2 f3 hf' hd
            have e3 : (.inl (sy_x z.2.2.1.1.length) :: r : List sy_A).map (sy_v ρ' τ) = .int Z :: r.map (sy_v ρ τ) := by
              show Value.int (Int32.ofInt (sy_e ρ' (sy_x z.2.2.1.1.length))) :: r.map (sy_v ρ' τ) = _
              rw [sy_x_e, e2, Int32.ofInt_toInt, hr]
            rw [e3] at hu
            exact pf_next (sy_bstep hq h1 hst z1) hu
          · cases h
      · cases h
    · cases h
  · cases h
theorem sy_uC_ok2 {D : Nat} (hD : D ≤ x.2.2.2.2.2.2) (hP : ∀ (j : Nat) (M : px_M), x.2.2.1[j]? = some M → q.1[j]? = some M) (hM : q.1[S.2.1.1]? = some M) (hq : px_look M.2.1 S.2.1.2.1 = some (i, len)) (h : sy_uC x.1 x.2.2.1 q.2.1 D M i len S = some l) : sy_S1 x q S l := by
  intro hG
  obtain ⟨z, hz, h1⟩ := Option.bind_eq_some_iff.mp h
  obtain ⟨M', hM', h2⟩ := Option.bind_eq_some_iff.mp h1
  split at h2
  · rename_i hc
    cases h2
    exact sy_goCall hM hq hz hM' (hP _ _ hM') hc.1 (by omega) (hG _ List.mem_cons_self)
  · cases h2
/-- a step of the law's frame, or of one that it calls in place -/
def sy_sucT (cl : List vw_C) (lt : List (List Int32)) (P PM : List px_M) (G : Nat → Nat → Option (px_M × Instr × Nat)) (H : Nat → Option (px_M × Nat)) (An : Nat → Option sy_Ce) (A : List sy_Ce) (Wr : sy_Wr) (Cs : List sy_Co) (D : Nat) (zs : List (Nat × Nat × Nat)) (z : sy_St) : Option (List sy_St) := match G z.2.2.2.1.1 z.2.2.2.1.2.1 with
  | none => none
  | some (M, i, len) => px_or (sy_lift z (px_or (sy_zp zs i len z.2.2) (cond (sy_top z.2.2.2.1.2.2.2) none (px_or (sy_p0 A z.2.2) (sy_p1 z.2.2))))) (px_or (sy_uT i len z) (px_or (sy_uO zs i len z) (sy_lift z (px_or (cond (Nat.beq (sy_pq z.2.2.2.1.1 z.2.2.2.1.2.1) 0) (ty_tg cl An H A Wr Cs D M i len z.2.2 (sy_tag i)) none) (px_or (sy_pre A Wr M i z.2.2) (px_or (sy_uN A i len z.2.2) (px_or (sy_u1 M i len z.2.2) (px_or (sy_uB i len z.2.2) (px_or (sy_uR A M i len z.2.2) (px_or (sy_uW cl A Wr M i len z.2.2) (px_or (sy_uK lt A M i len z.2.2) (px_or (sy_uA i len z.2.2) (px_or (sy_uV M i len z.2.2) (px_or (sy_uX D M i len z.2.2) (px_or (sy_uL lt A Wr M i len z.2.2) (px_or (sy_uY A Wr D M i len z.2.2) (match sy_cl cl A P i len M.2.2 z.2.2.2.1.2.2.2 with
      | some y => if Cs.any (fun C => C.1 == y.1) = true then sy_uM P Wr D z.2.2 y Cs else sy_uC cl P A D M i len z.2.2
      | none => none)))))))))))))))))
theorem sy_sucT_ok {q : sy_Q4} {G : Nat → Nat → Option (px_M × Instr × Nat)} {H : Nat → Option (px_M × Nat)} {An : Nat → Option sy_Ce} {D : Nat} {Cs : List sy_Co} {xs : List Int32} {ρc : Nat → Int} {Nc : Nat} {zs : List (Nat × Nat × Nat)} {z : sy_St} {l' : List sy_St} (hGo : px_Gok q.1 G) (hH : px_Hok x.1 x.2.2.1 H) (hA : An = fun k => q.2.1[k]?) (hcl : ∀ (k : Nat) (o : Nat × List ((Int × Int) ⊕ Nat)), q.2.1[k]? = some (.inr (.inr o)) → o.1 < x.1.length) (hP : ∀ (j : Nat) (M : px_M), x.2.2.1[j]? = some M → q.1[j]? = some M) (hx : x.2.2.2.1 = some xs) (hlen : xs.length ≤ 3072) (hN : 1 ≤ Nc ∧ ρc 0 = xs.length) (hCs : ∀ C ∈ Cs, sy_Met x.1 x.2.1 x.2.2.1 q.2.1 x.2.2.2.2.1 C) (hD : D ≤ x.2.2.2.2.2.2) (h : sy_sucT x.1 x.2.1 x.2.2.1 q.1 G H An q.2.1 q.2.2.1 Cs D zs z = some l') (hG : ∀ z' ∈ l', sy_GT x q xs ρc Nc z') : sy_GT x q xs ρc Nc z := by
  unfold sy_sucT at h
  split at h
  · cases h
  · rename_i M i len hg
    obtain ⟨hM, hq⟩ := hGo _ _ _ _ _ hg
    rcases px_or_some h with h | h
    · refine sy_lift_ok h (fun l hl ρs => ?_) hG
      rcases px_or_some hl with hl | hl
      · exact sy_zp_ok (q := sy_q6 q ρs z.2.1) hM hq hl
      · rcases px_cond hl with hl | hl
        · cases hl
        rcases px_or_some hl with hl | hl
        · exact sy_p0_ok (q := sy_q6 q ρs z.2.1) hl
        · exact sy_p1_ok hl
    rcases px_or_some h with h | h
    · exact sy_uT_ok hx hlen hN hM hq h hG
    rcases px_or_some h with h | h
    · exact sy_uO_ok hM hq h hG
    refine sy_lift_ok h (fun l h ρs => ?_) hG
    rcases px_or_some h with h | h
    · rcases px_cond h with h | h
      · rw [hA] at h
        exact ty_tg_ok (q := sy_q6 q ρs z.2.1) hH hcl hCs hD hP hM hq h
      · cases h
    rcases px_or_some h with h | h
    · exact sy_pre_ok (q := sy_q6 q ρs z.2.1) h
    rcases px_or_some h with h | h
    · exact sy_uN_ok (q := sy_q6 q ρs z.2.1) hM hq h
    rcases px_or_some h with h | h
    · exact sy_u1_ok (q := sy_q6 q ρs z.2.1) hM hq h
    rcases px_or_some h with h | h
    · exact sy_uB_ok (q := sy_q6 q ρs z.2.1) hM hq h
    rcases px_or_some h with h | h
    · exact sy_uR_ok (q := sy_q6 q ρs z.2.1) hM hq h
    rcases px_or_some h with h | h
    · exact sy_uW_ok (q := sy_q6 q ρs z.2.1) hM hq h
    rcases px_or_some h with h | h
    · exact sy_uK_ok (q := sy_q6 q ρs z.2.1) hM hq h
    rcases px_or_some h with h | h
    · exact sy_uA_ok (q := sy_q6 q ρs z.2.1) hM hq h
    rcases px_or_some h with h | h
    · exact sy_uV_ok (q := sy_q6 q ρs z.2.1) hM hq h
    rcases px_or_some h with h | h
    · exact sy_uX_ok (q := sy_q6 q ρs z.2.1) hD hM hq h
    rcases px_or_some h with h | h
    · exact sy_uL_ok (q := sy_q6 q ρs z.2.1) hM hq h
    rcases px_or_some h with h | h
    · exact sy_uY_ok (q := sy_q6 q ρs z.2.1) hD hM hq h
    split at h
    · rename_i y hy
      split at h
      · exact sy_uM_ok (q := sy_q6 q ρs z.2.1) hD hM hq hy Cs hCs h
      · exact sy_uC_ok2 (q := sy_q6 q ρs z.2.1) hD hP hM hq h
    · cases h
def ty_haltL (G : Nat → Nat → Option (px_M × Instr × Nat)) (j N0 : Nat) (cuts : List sy_Cut) (m : sy_L) (S : sy_S) : Option Bool := match S.2.2 with
  | _ :: _ => none
  | [] => cond (S.2.1.2.2.2.isEmpty && (Nat.beq S.2.1.1 j && cuts.any (fun c => Nat.beq c.1 S.2.1.2.1))) (some (cuts.any (sy_atC N0 m S))) (match G S.2.1.1 S.2.1.2.1 with
    | some (M, i, len) => cond (Nat.beq (sy_tag i) 1) none (match sy_rt S.1.1 i len M.1.2.2.2.1 S.2.1.2.2.2 with
        | some v => some (decide (v = some (.inl (sy_c 1))))
        | none => none)
    | none => none)
theorem ty_haltL_ok {G : Nat → Nat → Option (px_M × Instr × Nat)} {cuts : List sy_Cut} {j N0 : Nat} {ρ0 : Nat → Int} {m : sy_L} (hGo : px_Gok q.1 G) (hMC : q.1[j]? = some M) (hI : sy_I x q.2.1 q.2.2.1 q.2.2.2.1 ρ0 N0 M cuts (sy_e q.2.2.2.2.1 m)) (hN : N0 ≤ q.2.2.2.2.2 ∧ ∀ i, i < N0 → q.2.2.2.2.1 i = ρ0 i) (hmw : sy_wl q.2.2.2.2.2 m = true) (hK : x.2.2.2.2.2.1 = fun v _ => v = some (.int 1)) (h : ty_haltL G j N0 cuts m S = some true) : sy_Good x q S := by
  unfold ty_haltL at h
  split at h
  · cases h
  · rename_i hfs
    cases hc : (S.2.1.2.2.2.isEmpty && (Nat.beq S.2.1.1 j && cuts.any (fun c => Nat.beq c.1 S.2.1.2.1))) with
    | true =>
      rw [hc, px_c1] at h
      have h0 : some (cuts.any (sy_atC N0 m S)) = some true := h
      rw [Bool.and_eq_true, Bool.and_eq_true] at hc
      obtain ⟨c, hcc, h1⟩ := List.any_eq_true.mp (Option.some.inj h0)
      exact sy_atC_ok hI hN hmw (by rw [Nat.eq_of_beq_eq_true hc.2.1]; exact hMC) hcc h1
    | false =>
      rw [hc, px_c0] at h
      split at h
      · rename_i M2 i len hg
        obtain ⟨hM2, hq⟩ := hGo _ _ _ _ _ hg
        rcases px_cond h with h | h
        · cases h
        split at h
        · rename_i v hv
          have h1 : v = some (.inl (sy_c 1)) := of_decide_eq_true (Option.some.inj h)
          refine sy_goEnd hM2 hq hv hfs (fun ρ τ w hm => ?_)
          rw [hK, h1]
          show some (Value.int (Int32.ofInt (sy_e ρ (sy_c 1)))) = _
          rw [sy_c_e]
          rfl
        · cases h
      · cases h
def sy_allT (cl : List vw_C) (lt : List (List Int32)) (P PM : List px_M) (G : Nat → Nat → Option (px_M × Instr × Nat)) (H : Nat → Option (px_M × Nat)) (An : Nat → Option sy_Ce) (A : List sy_Ce) (Wr : sy_Wr) (Cs : List sy_Co) (D : Nat) (zs : List (Nat × Nat × Nat)) (j N0 : Nat) (cuts : List sy_Cut) (m : sy_L) : Nat → List sy_St → Bool
  | 0, _ => false
  | _ + 1, [] => true
  | n + 1, z :: r => match ty_haltL G j N0 cuts m z.2.2 with
    | some b => (b || sy_dead z.2.2.1) && sy_allT cl lt P PM G H An A Wr Cs D zs j N0 cuts m n r
    | none => (match sy_sucT cl lt P PM G H An A Wr Cs D zs z with
      | some l => sy_allT cl lt P PM G H An A Wr Cs D zs j N0 cuts m n (l ++ r)
      | none => false)
theorem sy_allT_ok {q : sy_Q4} {G : Nat → Nat → Option (px_M × Instr × Nat)} {H : Nat → Option (px_M × Nat)} {An : Nat → Option sy_Ce} {cuts : List sy_Cut} {Cs : List sy_Co} {D j N0 : Nat} {zs : List (Nat × Nat × Nat)} {ρ0 ρc : Nat → Int} {Nc : Nat} {m : sy_L} {xs : List Int32} (hGo : px_Gok q.1 G) (hH : px_Hok x.1 x.2.2.1 H) (hA : An = fun k => q.2.1[k]?) (hcl : ∀ (k : Nat) (o : Nat × List ((Int × Int) ⊕ Nat)), q.2.1[k]? = some (.inr (.inr o)) → o.1 < x.1.length) (hP : ∀ (j : Nat) (M : px_M), x.2.2.1[j]? = some M → q.1[j]? = some M) (hx : x.2.2.2.1 = some xs) (hlen : xs.length ≤ 3072) (hN1 : 1 ≤ Nc ∧ ρc 0 = xs.length) (hCs : ∀ C ∈ Cs, sy_Met x.1 x.2.1 x.2.2.1 q.2.1 x.2.2.2.2.1 C) (hD : D ≤ x.2.2.2.2.2.2) (hMC : q.1[j]? = some M) (hI : sy_I x q.2.1 q.2.2.1 q.2.2.2 ρ0 N0 M cuts (sy_e ρc m)) (hN : N0 ≤ Nc ∧ ∀ i, i < N0 → ρc i = ρ0 i) (hmw : sy_wl Nc m = true) (hK : x.2.2.2.2.2.1 = (fun v _ => v = some (.int 1))) : ∀ (n : Nat) (l : List sy_St), sy_allT x.1 x.2.1 x.2.2.1 q.1 G H An q.2.1 q.2.2.1 Cs D zs j N0 cuts m n l = true → ∀ z ∈ l, sy_GT x q xs ρc Nc z
  | 0, l, h => by cases h
  | n + 1, [], _ => fun z hz => absurd hz List.not_mem_nil
  | n + 1, z0 :: r, h => by
    unfold sy_allT at h
    intro z hz
    split at h
    · rename_i b hb
      rw [Bool.and_eq_true] at h
      rcases List.mem_cons.mp hz with rfl | hz
      · intro ρs hv
        have h1 := h.1
        rw [Bool.or_eq_true] at h1
        rcases h1 with h1 | h1
        · rw [h1] at hb
          refine ty_haltL_ok (q := sy_q6 q ρs z.2.1) (ρ0 := ρ0) hGo hMC ?_ ⟨Nat.le_trans hN.1 hv.1.1, fun i hi => ?_⟩ (sy_wl_mono hv.1.1 hmw) hK hb
          · show sy_I x q.2.1 q.2.2.1 q.2.2.2 ρ0 N0 M cuts (sy_e ρs m)
            rw [sy_ext_l hv.1.2 hmw]
            exact hI
          · show ρs i = ρ0 i
            rw [hv.1.2 i (by have := hN.1; omega)]
            exact hN.2 i hi
        · exact sy_dead_ok h1
      · exact sy_allT_ok hGo hH hA hcl hP hx hlen hN1 hCs hD hMC hI hN hmw hK n r h.2 z hz
    · split at h
      · rename_i l0 hl
        have ih := sy_allT_ok hGo hH hA hcl hP hx hlen hN1 hCs hD hMC hI hN hmw hK n (l0 ++ r) h
        rcases List.mem_cons.mp hz with rfl | hz
        · exact sy_sucT_ok hGo hH hA hcl hP hx hlen hN1 hCs hD hl (fun z' h' => ih z' (List.mem_append_left _ h'))
        · exact ih z (List.mem_append_right _ hz)
      · cases h
def sy_rndT (cl : List vw_C) (lt : List (List Int32)) (P PM : List px_M) (G : Nat → Nat → Option (px_M × Instr × Nat)) (H : Nat → Option (px_M × Nat)) (An : Nat → Option sy_Ce) (A : List sy_Ce) (Wr : sy_Wr) (Cs : List sy_Co) (D : Nat) (zs : List (Nat × Nat × Nat)) (j N0 : Nat) (cuts : List sy_Cut) (m : sy_L) : List sy_St → Option (List sy_St)
  | [] => some []
  | z :: r => match sy_rndT cl lt P PM G H An A Wr Cs D zs j N0 cuts m r with
    | none => none
    | some t => (match ty_haltL G j N0 cuts m z.2.2 with
      | some _ => some (z :: t)
      | none => (match sy_sucT cl lt P PM G H An A Wr Cs D zs z with
        | some l => some (l ++ t)
        | none => none))
theorem sy_rndT_ok {q : sy_Q4} {G : Nat → Nat → Option (px_M × Instr × Nat)} {H : Nat → Option (px_M × Nat)} {An : Nat → Option sy_Ce} {cuts : List sy_Cut} {Cs : List sy_Co} {D j N0 : Nat} {zs : List (Nat × Nat × Nat)} {ρc : Nat → Int} {Nc : Nat} {m : sy_L} {xs : List Int32} (hGo : px_Gok q.1 G) (hH : px_Hok x.1 x.2.2.1 H) (hA : An = fun k => q.2.1[k]?) (hcl : ∀ (k : Nat) (o : Nat × List ((Int × Int) ⊕ Nat)), q.2.1[k]? = some (.inr (.inr o)) → o.1 < x.1.length) (hP : ∀ (j : Nat) (M : px_M), x.2.2.1[j]? = some M → q.1[j]? = some M) (hx : x.2.2.2.1 = some xs) (hlen : xs.length ≤ 3072) (hN1 : 1 ≤ Nc ∧ ρc 0 = xs.length) (hCs : ∀ C ∈ Cs, sy_Met x.1 x.2.1 x.2.2.1 q.2.1 x.2.2.2.2.1 C) (hD : D ≤ x.2.2.2.2.2.2) : ∀ (l l' : List sy_St), sy_rndT x.1 x.2.1 x.2.2.1 q.1 G H An q.2.1 q.2.2.1 Cs D zs j N0 cuts m l = some l' → (∀ z ∈ l', sy_GT x q xs ρc Nc z) → ∀ z ∈ l, sy_GT x q xs ρc Nc z
  | [], _, _, _ => fun z hz => absurd hz List.not_mem_nil
  | z0 :: r, l', h, hG => by
    unfold sy_rndT at h
    split at h
    · cases h
    · rename_i t ht
      split at h
      · cases h
        have ih := sy_rndT_ok hGo hH hA hcl hP hx hlen hN1 hCs hD r t ht (fun z hz => hG z (List.mem_cons_of_mem _ hz))
        intro z hz
        rcases List.mem_cons.mp hz with rfl | hz
        · exact hG z List.mem_cons_self
        · exact ih z hz
      · split at h
        · rename_i l0 hl
          cases h
          have ih := sy_rndT_ok hGo hH hA hcl hP hx hlen hN1 hCs hD r t ht (fun z hz => hG z (List.mem_append_right _ hz))
          intro z hz
          rcases List.mem_cons.mp hz with rfl | hz
          · exact sy_sucT_ok hGo hH hA hcl hP hx hlen hN1 hCs hD hl (fun z' h' => hG z' (List.mem_append_left _ h'))
          · exact ih z hz
        · cases h
def sy_rndsT (cl : List vw_C) (lt : List (List Int32)) (P PM : List px_M) (G : Nat → Nat → Option (px_M × Instr × Nat)) (H : Nat → Option (px_M × Nat)) (An : Nat → Option sy_Ce) (A : List sy_Ce) (Wr : sy_Wr) (Cs : List sy_Co) (D : Nat) (zs : List (Nat × Nat × Nat)) (j N0 : Nat) (cuts : List sy_Cut) (m : sy_L) : Nat → List sy_St → Option (List sy_St)
  | 0, l => some l
  | n + 1, l => match sy_rndT cl lt P PM G H An A Wr Cs D zs j N0 cuts m l with
    | some l' => sy_rndsT cl lt P PM G H An A Wr Cs D zs j N0 cuts m n l'
    | none => none
theorem sy_rndsT_ok {q : sy_Q4} {G : Nat → Nat → Option (px_M × Instr × Nat)} {H : Nat → Option (px_M × Nat)} {An : Nat → Option sy_Ce} {cuts : List sy_Cut} {Cs : List sy_Co} {D j N0 : Nat} {zs : List (Nat × Nat × Nat)} {ρc : Nat → Int} {Nc : Nat} {m : sy_L} {xs : List Int32} (hGo : px_Gok q.1 G) (hH : px_Hok x.1 x.2.2.1 H) (hA : An = fun k => q.2.1[k]?) (hcl : ∀ (k : Nat) (o : Nat × List ((Int × Int) ⊕ Nat)), q.2.1[k]? = some (.inr (.inr o)) → o.1 < x.1.length) (hP : ∀ (j : Nat) (M : px_M), x.2.2.1[j]? = some M → q.1[j]? = some M) (hx : x.2.2.2.1 = some xs) (hlen : xs.length ≤ 3072) (hN1 : 1 ≤ Nc ∧ ρc 0 = xs.length) (hCs : ∀ C ∈ Cs, sy_Met x.1 x.2.1 x.2.2.1 q.2.1 x.2.2.2.2.1 C) (hD : D ≤ x.2.2.2.2.2.2) : ∀ (n : Nat) (l l' : List sy_St), sy_rndsT x.1 x.2.1 x.2.2.1 q.1 G H An q.2.1 q.2.2.1 Cs D zs j N0 cuts m n l = some l' → (∀ z ∈ l', sy_GT x q xs ρc Nc z) → ∀ z ∈ l, sy_GT x q xs ρc Nc z
  | 0, l, l', h, hG => by
    unfold sy_rndsT at h
    cases h
    exact hG
  | n + 1, l, l', h, hG => by
    unfold sy_rndsT at h
    split at h
    · rename_i l1 h1
      exact sy_rndT_ok hGo hH hA hcl hP hx hlen hN1 hCs hD l l1 h1 (sy_rndsT_ok hGo hH hA hcl hP hx hlen hN1 hCs hD n l1 l' h hG)
    · cases h
def sy_pcT : List Nat → Nat → List sy_St → List sy_St
  | [], _, l => l
  | s :: _, 0, l => l.take s
  | s :: r, j + 1, l => sy_pcT r j (l.drop s)
theorem sy_pcT_ok {p : sy_St → Prop} : ∀ (ss : List Nat) (l : List sy_St), (∀ j, j ≤ ss.length → ∀ z ∈ sy_pcT ss j l, p z) → ∀ z ∈ l, p z
  | [], l, h => h 0 (Nat.le_refl _)
  | s :: r, l, h => fun z hz => by
    have h1 : z ∈ l.take s ++ l.drop s := by rw [List.take_append_drop]; exact hz
    rcases List.mem_append.mp h1 with h2 | h2
    · exact h 0 (Nat.zero_le _) z h2
    · exact sy_pcT_ok r (l.drop s) (fun j hj => h (j + 1) (by rw [List.length_cons]; omega)) z h2
/-- a cut in pieces: k rounds of steps, then piece i of what stands there -/
def sy_ckT (cl : List vw_C) (lt : List (List Int32)) (P PM : List px_M) (G : Nat → Nat → Option (px_M × Instr × Nat)) (H : Nat → Option (px_M × Nat)) (An : Nat → Option sy_Ce) (A : List sy_Ce) (Wr : sy_Wr) (Cs : List sy_Co) (D : Nat) (zs : List (Nat × Nat × Nat)) (j : Nat) (cuts : List sy_Cut) (n : Nat) (c : sy_Cut) (k : Nat) (ss : List Nat) (i : Nat) : Bool := decide (1 ≤ c.2.1.1.length) && (sy_wl c.2.1.1.length c.2.2.2 && (match sy_sucT cl lt P PM G H An A Wr Cs D zs ([], c.2.1.1.length, sy_cS j c) with
  | some l => (match sy_rndsT cl lt P PM G H An A Wr Cs D zs j 1 cuts c.2.2.2 k l with
    | some l' => sy_allT cl lt P PM G H An A Wr Cs D zs j 1 cuts c.2.2.2 n (sy_pcT ss i l')
    | none => false)
  | none => false))
end LT
theorem sy_law2 {cl : List vw_C} {lt : List (List Int32)} {P PM : List px_M} {G : Nat → Nat → Option (px_M × Instr × Nat)} {H : Nat → Option (px_M × Nat)} {An : Nat → Option sy_Ce} {A : List sy_Ce} {Wr : sy_Wr} {Cs : List sy_Co} {D d j : Nat} {zs : List (Nat × Nat × Nat)} {M : px_M} {cuts : List sy_Cut} {xs : List Int32} (n : Nat) (hGo : px_Gok PM G) (hH : px_Hok cl P H) (hA : An = fun k => A[k]?) (hcl : ∀ (k : Nat) (o : Nat × List ((Int × Int) ⊕ Nat)), A[k]? = some (.inr (.inr o)) → o.1 < cl.length) (hlen : xs.length ≤ 3072) (hPM : PM[j]? = some M) (hP : ∀ (j : Nat) (M : px_M), P[j]? = some M → PM[j]? = some M) (hCs : ∀ C ∈ Cs, sy_Met cl lt P A (0, 0) C) (hD : D ≤ d) (hc : ∀ c ∈ cuts, ∃ (k : Nat) (ss : List Nat), ∀ i, i ≤ ss.length → sy_ckT cl lt P PM G H An A Wr Cs D zs j cuts n c k ss i = true) {w : px_W} {ρ0 : Nat → Int} (h0 : ρ0 0 = xs.length) : ∀ m : Nat, sy_I (cl, lt, P, some xs, (0, 0), (fun v _ => v = some (.int 1)), d) A Wr w ρ0 1 M cuts (m : Int) := by
  refine sy_floyd hPM (fun c hcc ρs hr hI => ?_)
  obtain ⟨k, ss, hks⟩ := hc c hcc
  have h1 := hks 0 (Nat.zero_le _)
  unfold sy_ckT at h1
  rw [Bool.and_eq_true, Bool.and_eq_true] at h1
  obtain ⟨h2, h3, h4⟩ := h1
  have hN1 : ρs 0 = xs.length := by rw [hr.2 0 (by omega)]; exact h0
  have hG : sy_GT (cl, lt, P, some xs, (0, 0), (fun v _ => v = some (.int 1)), d) (PM, A, Wr, w) xs ρs c.2.1.1.length ([], c.2.1.1.length, sy_cS j c) := by
    split at h4
    · rename_i l hl
      split at h4
      · rename_i l' hl'
        have ih : ∀ z ∈ l', sy_GT (cl, lt, P, some xs, (0, 0), (fun v _ => v = some (.int 1)), d) (PM, A, Wr, w) xs ρs c.2.1.1.length z := by
          refine sy_pcT_ok ss l' (fun i hi => ?_)
          have h5 := hks i hi
          unfold sy_ckT at h5
          rw [Bool.and_eq_true, Bool.and_eq_true, hl] at h5
          have h6 := h5.2.2
          simp only [hl'] at h6
          exact sy_allT_ok (x := (cl, lt, P, some xs, (0, 0), (fun v _ => v = some (.int 1)), d)) (q := (PM, A, Wr, w)) (ρ0 := ρ0) (ρc := ρs) (Nc := c.2.1.1.length) hGo hH hA hcl hP rfl hlen ⟨of_decide_eq_true h2, hN1⟩ hCs hD hPM hI hr h3 rfl n _ h6
        have ih2 := sy_rndsT_ok (x := (cl, lt, P, some xs, (0, 0), (fun v _ => v = some (.int 1)), d)) (q := (PM, A, Wr, w)) hGo hH hA hcl hP rfl hlen ⟨of_decide_eq_true h2, hN1⟩ hCs hD k l l' hl' ih
        exact sy_sucT_ok (x := (cl, lt, P, some xs, (0, 0), (fun v _ => v = some (.int 1)), d)) (q := (PM, A, Wr, w)) hGo hH hA hcl hP rfl hlen ⟨of_decide_eq_true h2, hN1⟩ hCs hD hl ih2
      · cases h4
    · cases h4
  exact hG ρs ⟨⟨Nat.le_refl _, fun _ _ => rfl⟩, fun t ht => absurd ht List.not_mem_nil⟩

end
end
