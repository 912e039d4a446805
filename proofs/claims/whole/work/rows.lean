section
-- ===== PART A: goes FIRST, ahead of the names: the tables' words, and 'selects' of the private methods out of them =====
/-- a private method of a class that the tables say can be made, by its rows of tables_1 -/
def lw_okq (q : MethodName × Nat) : Prop := (q.1.cls ≠ "java/lang/invoke/MethodHandle" ∧ q.1.cls ≠ "java/lang/invoke/VarHandle") ∧ Cond.instantiable q.1.cls q.2 ∈ tables_1 ∧ Cond.privateMethod q.1 ∈ tables_1 ∧ Cond.instanceMethod q.1 ∈ tables_1
theorem lw_p0 : lw_okq (⟨"OnByThursday", "startAnew", "()V"⟩, 15) := ⟨⟨by decide +kernel, by decide +kernel⟩, List.mem_of_getElem? (i := 19) (by decide +kernel), List.mem_of_getElem? (i := 417) (by decide +kernel), List.mem_of_getElem? (i := 418) (by decide +kernel)⟩
theorem lw_p1 : lw_okq (⟨"OnByThursday$Reader", "endOfItem", "([BII)I"⟩, 2) := ⟨⟨by decide +kernel, by decide +kernel⟩, List.mem_of_getElem? (i := 27) (by decide +kernel), List.mem_of_getElem? (i := 503) (by decide +kernel), List.mem_of_getElem? (i := 504) (by decide +kernel)⟩
theorem lw_p2 : lw_okq (⟨"OnByThursday$Company", "tellScene", "(II)Z"⟩, 19) := ⟨⟨by decide +kernel, by decide +kernel⟩, List.mem_of_getElem? (i := 42) (by decide +kernel), List.mem_of_getElem? (i := 519) (by decide +kernel), List.mem_of_getElem? (i := 520) (by decide +kernel)⟩
theorem lw_p3 : lw_okq (⟨"OnByThursday$Company", "addCover", "(II)Z"⟩, 19) := ⟨⟨by decide +kernel, by decide +kernel⟩, List.mem_of_getElem? (i := 42) (by decide +kernel), List.mem_of_getElem? (i := 532) (by decide +kernel), List.mem_of_getElem? (i := 533) (by decide +kernel)⟩
theorem lw_p4 : lw_okq (⟨"OnByThursday$Company", "setContagion", "(III)Z"⟩, 19) := ⟨⟨by decide +kernel, by decide +kernel⟩, List.mem_of_getElem? (i := 42) (by decide +kernel), List.mem_of_getElem? (i := 536) (by decide +kernel), List.mem_of_getElem? (i := 537) (by decide +kernel)⟩
theorem lw_p5 : lw_okq (⟨"OnByThursday$Company", "setChange", "(I)Z"⟩, 19) := ⟨⟨by decide +kernel, by decide +kernel⟩, List.mem_of_getElem? (i := 42) (by decide +kernel), List.mem_of_getElem? (i := 540) (by decide +kernel), List.mem_of_getElem? (i := 541) (by decide +kernel)⟩
theorem lw_p6 : lw_okq (⟨"OnByThursday$Company", "setTailor", "(I)Z"⟩, 19) := ⟨⟨by decide +kernel, by decide +kernel⟩, List.mem_of_getElem? (i := 42) (by decide +kernel), List.mem_of_getElem? (i := 544) (by decide +kernel), List.mem_of_getElem? (i := 545) (by decide +kernel)⟩
theorem lw_p7 : lw_okq (⟨"OnByThursday$Company", "setForgetting", "(I)Z"⟩, 19) := ⟨⟨by decide +kernel, by decide +kernel⟩, List.mem_of_getElem? (i := 42) (by decide +kernel), List.mem_of_getElem? (i := 548) (by decide +kernel), List.mem_of_getElem? (i := 549) (by decide +kernel)⟩
theorem lw_p8 : lw_okq (⟨"OnByThursday$Company", "setPay", "(II)Z"⟩, 19) := ⟨⟨by decide +kernel, by decide +kernel⟩, List.mem_of_getElem? (i := 42) (by decide +kernel), List.mem_of_getElem? (i := 552) (by decide +kernel), List.mem_of_getElem? (i := 553) (by decide +kernel)⟩
theorem lw_p9 : lw_okq (⟨"OnByThursday$Caster", "begin", "(LOnByThursday$Company;II)V"⟩, 9) := ⟨⟨by decide +kernel, by decide +kernel⟩, List.mem_of_getElem? (i := 186) (by decide +kernel), List.mem_of_getElem? (i := 604) (by decide +kernel), List.mem_of_getElem? (i := 605) (by decide +kernel)⟩
theorem lw_p10 : lw_okq (⟨"OnByThursday$Caster", "isFree", "(II)Z"⟩, 9) := ⟨⟨by decide +kernel, by decide +kernel⟩, List.mem_of_getElem? (i := 186) (by decide +kernel), List.mem_of_getElem? (i := 613) (by decide +kernel), List.mem_of_getElem? (i := 614) (by decide +kernel)⟩
theorem lw_p11 : lw_okq (⟨"OnByThursday$Caster", "weigh", "(LOnByThursday$Diary;I)I"⟩, 9) := ⟨⟨by decide +kernel, by decide +kernel⟩, List.mem_of_getElem? (i := 186) (by decide +kernel), List.mem_of_getElem? (i := 626) (by decide +kernel), List.mem_of_getElem? (i := 627) (by decide +kernel)⟩
theorem lw_p12 : lw_okq (⟨"OnByThursday$Attempt", "scarcest", "(II)I"⟩, 3) := ⟨⟨by decide +kernel, by decide +kernel⟩, List.mem_of_getElem? (i := 228) (by decide +kernel), List.mem_of_getElem? (i := 684) (by decide +kernel), List.mem_of_getElem? (i := 685) (by decide +kernel)⟩
theorem lw_p13 : lw_okq (⟨"OnByThursday$Attempt", "strike", "(IIII)Z"⟩, 3) := ⟨⟨by decide +kernel, by decide +kernel⟩, List.mem_of_getElem? (i := 228) (by decide +kernel), List.mem_of_getElem? (i := 695) (by decide +kernel), List.mem_of_getElem? (i := 696) (by decide +kernel)⟩
theorem lw_p14 : lw_okq (⟨"OnByThursday$Timetable", "listPairs", "(LOnByThursday$Company;LOnByThursday$Diary;)V"⟩, 9) := ⟨⟨by decide +kernel, by decide +kernel⟩, List.mem_of_getElem? (i := 332) (by decide +kernel), List.mem_of_getElem? (i := 726) (by decide +kernel), List.mem_of_getElem? (i := 727) (by decide +kernel)⟩
theorem lw_p15 : lw_okq (⟨"OnByThursday$Timetable", "weighPairs", "(I)V"⟩, 9) := ⟨⟨by decide +kernel, by decide +kernel⟩, List.mem_of_getElem? (i := 332) (by decide +kernel), List.mem_of_getElem? (i := 733) (by decide +kernel), List.mem_of_getElem? (i := 734) (by decide +kernel)⟩
def lw_privs_1 : List (MethodName × Nat) := [(⟨"OnByThursday", "startAnew", "()V"⟩, 15), (⟨"OnByThursday$Reader", "endOfItem", "([BII)I"⟩, 2), (⟨"OnByThursday$Company", "tellScene", "(II)Z"⟩, 19), (⟨"OnByThursday$Company", "addCover", "(II)Z"⟩, 19), (⟨"OnByThursday$Company", "setContagion", "(III)Z"⟩, 19), (⟨"OnByThursday$Company", "setChange", "(I)Z"⟩, 19), (⟨"OnByThursday$Company", "setTailor", "(I)Z"⟩, 19), (⟨"OnByThursday$Company", "setForgetting", "(I)Z"⟩, 19), (⟨"OnByThursday$Company", "setPay", "(II)Z"⟩, 19), (⟨"OnByThursday$Caster", "begin", "(LOnByThursday$Company;II)V"⟩, 9), (⟨"OnByThursday$Caster", "isFree", "(II)Z"⟩, 9), (⟨"OnByThursday$Caster", "weigh", "(LOnByThursday$Diary;I)I"⟩, 9), (⟨"OnByThursday$Attempt", "scarcest", "(II)I"⟩, 3), (⟨"OnByThursday$Attempt", "strike", "(IIII)Z"⟩, 3), (⟨"OnByThursday$Timetable", "listPairs", "(LOnByThursday$Company;LOnByThursday$Diary;)V"⟩, 9), (⟨"OnByThursday$Timetable", "weighPairs", "(I)V"⟩, 9)]
theorem lw_r1 : ∀ q ∈ lw_privs_1, lw_okq q := List.forall_mem_cons.mpr ⟨lw_p0, List.forall_mem_cons.mpr ⟨lw_p1, List.forall_mem_cons.mpr ⟨lw_p2, List.forall_mem_cons.mpr ⟨lw_p3, List.forall_mem_cons.mpr ⟨lw_p4, List.forall_mem_cons.mpr ⟨lw_p5, List.forall_mem_cons.mpr ⟨lw_p6, List.forall_mem_cons.mpr ⟨lw_p7, List.forall_mem_cons.mpr ⟨lw_p8, List.forall_mem_cons.mpr ⟨lw_p9, List.forall_mem_cons.mpr ⟨lw_p10, List.forall_mem_cons.mpr ⟨lw_p11, List.forall_mem_cons.mpr ⟨lw_p12, List.forall_mem_cons.mpr ⟨lw_p13, List.forall_mem_cons.mpr ⟨lw_p14, List.forall_mem_cons.mpr ⟨lw_p15, fun _ h => absurd h List.not_mem_nil⟩⟩⟩⟩⟩⟩⟩⟩⟩⟩⟩⟩⟩⟩⟩⟩
theorem lw_p16 : lw_okq (⟨"OnByThursday$Timetable", "worthWith", "(II)I"⟩, 9) := ⟨⟨by decide +kernel, by decide +kernel⟩, List.mem_of_getElem? (i := 332) (by decide +kernel), List.mem_of_getElem? (i := 743) (by decide +kernel), List.mem_of_getElem? (i := 744) (by decide +kernel)⟩
theorem lw_p17 : lw_okq (⟨"OnByThursday$Timetable", "choosePairs", "(I)V"⟩, 9) := ⟨⟨by decide +kernel, by decide +kernel⟩, List.mem_of_getElem? (i := 332) (by decide +kernel), List.mem_of_getElem? (i := 748) (by decide +kernel), List.mem_of_getElem? (i := 749) (by decide +kernel)⟩
theorem lw_p18 : lw_okq (⟨"OnByThursday$Sickness", "passDay", "(LOnByThursday$Company;)V"⟩, 7) := ⟨⟨by decide +kernel, by decide +kernel⟩, List.mem_of_getElem? (i := 303) (by decide +kernel), List.mem_of_getElem? (i := 766) (by decide +kernel), List.mem_of_getElem? (i := 767) (by decide +kernel)⟩
theorem lw_p19 : lw_okq (⟨"OnByThursday$Sickness", "spread", "(LOnByThursday$Company;I)V"⟩, 7) := ⟨⟨by decide +kernel, by decide +kernel⟩, List.mem_of_getElem? (i := 303) (by decide +kernel), List.mem_of_getElem? (i := 771) (by decide +kernel), List.mem_of_getElem? (i := 772) (by decide +kernel)⟩
theorem lw_p20 : lw_okq (⟨"OnByThursday$Sickness", "staysWell", "(LOnByThursday$Company;II)I"⟩, 7) := ⟨⟨by decide +kernel, by decide +kernel⟩, List.mem_of_getElem? (i := 303) (by decide +kernel), List.mem_of_getElem? (i := 776) (by decide +kernel), List.mem_of_getElem? (i := 777) (by decide +kernel)⟩
theorem lw_p21 : lw_okq (⟨"OnByThursday$Sickness", "divide", "(II)V"⟩, 7) := ⟨⟨by decide +kernel, by decide +kernel⟩, List.mem_of_getElem? (i := 303) (by decide +kernel), List.mem_of_getElem? (i := 780) (by decide +kernel), List.mem_of_getElem? (i := 781) (by decide +kernel)⟩
theorem lw_p22 : lw_okq (⟨"OnByThursday$Understudies", "listCovers", "(LOnByThursday$Company;)V"⟩, 10) := ⟨⟨by decide +kernel, by decide +kernel⟩, List.mem_of_getElem? (i := 261) (by decide +kernel), List.mem_of_getElem? (i := 821) (by decide +kernel), List.mem_of_getElem? (i := 822) (by decide +kernel)⟩
theorem lw_p23 : lw_okq (⟨"OnByThursday$Understudies", "helps", "(LOnByThursday$Company;II)Z"⟩, 10) := ⟨⟨by decide +kernel, by decide +kernel⟩, List.mem_of_getElem? (i := 261) (by decide +kernel), List.mem_of_getElem? (i := 828) (by decide +kernel), List.mem_of_getElem? (i := 829) (by decide +kernel)⟩
theorem lw_p24 : lw_okq (⟨"OnByThursday$Understudies", "areEnough", "(LOnByThursday$Company;LOnByThursday$Absences;II)Z"⟩, 10) := ⟨⟨by decide +kernel, by decide +kernel⟩, List.mem_of_getElem? (i := 261) (by decide +kernel), List.mem_of_getElem? (i := 856) (by decide +kernel), List.mem_of_getElem? (i := 857) (by decide +kernel)⟩
theorem lw_p25 : lw_okq (⟨"OnByThursday$Understudies", "helpTogether", "(LOnByThursday$Company;III)Z"⟩, 10) := ⟨⟨by decide +kernel, by decide +kernel⟩, List.mem_of_getElem? (i := 261) (by decide +kernel), List.mem_of_getElem? (i := 860) (by decide +kernel), List.mem_of_getElem? (i := 861) (by decide +kernel)⟩
theorem lw_p26 : lw_okq (⟨"OnByThursdayModel", "noCompany", "(I)V"⟩, 42) := ⟨⟨by decide +kernel, by decide +kernel⟩, List.mem_of_getElem? (i := 915) (by decide +kernel), List.mem_of_getElem? (i := 921) (by decide +kernel), List.mem_of_getElem? (i := 922) (by decide +kernel)⟩
theorem lw_p27 : lw_okq (⟨"OnByThursdayModel", "layRules", "()V"⟩, 42) := ⟨⟨by decide +kernel, by decide +kernel⟩, List.mem_of_getElem? (i := 915) (by decide +kernel), List.mem_of_getElem? (i := 925) (by decide +kernel), List.mem_of_getElem? (i := 926) (by decide +kernel)⟩
theorem lw_p28 : lw_okq (⟨"OnByThursdayModel", "layMays", "(I)V"⟩, 42) := ⟨⟨by decide +kernel, by decide +kernel⟩, List.mem_of_getElem? (i := 915) (by decide +kernel), List.mem_of_getElem? (i := 929) (by decide +kernel), List.mem_of_getElem? (i := 930) (by decide +kernel)⟩
theorem lw_p29 : lw_okq (⟨"OnByThursdayModel", "mayPlay", "(II)Z"⟩, 42) := ⟨⟨by decide +kernel, by decide +kernel⟩, List.mem_of_getElem? (i := 915) (by decide +kernel), List.mem_of_getElem? (i := 933) (by decide +kernel), List.mem_of_getElem? (i := 934) (by decide +kernel)⟩
theorem lw_p30 : lw_okq (⟨"OnByThursdayModel", "areBoth", "(II)Z"⟩, 42) := ⟨⟨by decide +kernel, by decide +kernel⟩, List.mem_of_getElem? (i := 915) (by decide +kernel), List.mem_of_getElem? (i := 940) (by decide +kernel), List.mem_of_getElem? (i := 941) (by decide +kernel)⟩
theorem lw_p31 : lw_okq (⟨"OnByThursdayModel", "readAll", "()I"⟩, 42) := ⟨⟨by decide +kernel, by decide +kernel⟩, List.mem_of_getElem? (i := 915) (by decide +kernel), List.mem_of_getElem? (i := 1088) (by decide +kernel), List.mem_of_getElem? (i := 1089) (by decide +kernel)⟩
def lw_privs_2 : List (MethodName × Nat) := [(⟨"OnByThursday$Timetable", "worthWith", "(II)I"⟩, 9), (⟨"OnByThursday$Timetable", "choosePairs", "(I)V"⟩, 9), (⟨"OnByThursday$Sickness", "passDay", "(LOnByThursday$Company;)V"⟩, 7), (⟨"OnByThursday$Sickness", "spread", "(LOnByThursday$Company;I)V"⟩, 7), (⟨"OnByThursday$Sickness", "staysWell", "(LOnByThursday$Company;II)I"⟩, 7), (⟨"OnByThursday$Sickness", "divide", "(II)V"⟩, 7), (⟨"OnByThursday$Understudies", "listCovers", "(LOnByThursday$Company;)V"⟩, 10), (⟨"OnByThursday$Understudies", "helps", "(LOnByThursday$Company;II)Z"⟩, 10), (⟨"OnByThursday$Understudies", "areEnough", "(LOnByThursday$Company;LOnByThursday$Absences;II)Z"⟩, 10), (⟨"OnByThursday$Understudies", "helpTogether", "(LOnByThursday$Company;III)Z"⟩, 10), (⟨"OnByThursdayModel", "noCompany", "(I)V"⟩, 42), (⟨"OnByThursdayModel", "layRules", "()V"⟩, 42), (⟨"OnByThursdayModel", "layMays", "(I)V"⟩, 42), (⟨"OnByThursdayModel", "mayPlay", "(II)Z"⟩, 42), (⟨"OnByThursdayModel", "areBoth", "(II)Z"⟩, 42), (⟨"OnByThursdayModel", "readAll", "()I"⟩, 42)]
theorem lw_r2 : ∀ q ∈ lw_privs_2, lw_okq q := List.forall_mem_cons.mpr ⟨lw_p16, List.forall_mem_cons.mpr ⟨lw_p17, List.forall_mem_cons.mpr ⟨lw_p18, List.forall_mem_cons.mpr ⟨lw_p19, List.forall_mem_cons.mpr ⟨lw_p20, List.forall_mem_cons.mpr ⟨lw_p21, List.forall_mem_cons.mpr ⟨lw_p22, List.forall_mem_cons.mpr ⟨lw_p23, List.forall_mem_cons.mpr ⟨lw_p24, List.forall_mem_cons.mpr ⟨lw_p25, List.forall_mem_cons.mpr ⟨lw_p26, List.forall_mem_cons.mpr ⟨lw_p27, List.forall_mem_cons.mpr ⟨lw_p28, List.forall_mem_cons.mpr ⟨lw_p29, List.forall_mem_cons.mpr ⟨lw_p30, List.forall_mem_cons.mpr ⟨lw_p31, fun _ h => absurd h List.not_mem_nil⟩⟩⟩⟩⟩⟩⟩⟩⟩⟩⟩⟩⟩⟩⟩⟩
theorem lw_p32 : lw_okq (⟨"OnByThursdayModel", "item", "()Z"⟩, 42) := ⟨⟨by decide +kernel, by decide +kernel⟩, List.mem_of_getElem? (i := 915) (by decide +kernel), List.mem_of_getElem? (i := 1092) (by decide +kernel), List.mem_of_getElem? (i := 1093) (by decide +kernel)⟩
theorem lw_p33 : lw_okq (⟨"OnByThursdayModel", "byteAt", "(I)I"⟩, 42) := ⟨⟨by decide +kernel, by decide +kernel⟩, List.mem_of_getElem? (i := 915) (by decide +kernel), List.mem_of_getElem? (i := 1096) (by decide +kernel), List.mem_of_getElem? (i := 1097) (by decide +kernel)⟩
theorem lw_p34 : lw_okq (⟨"OnByThursdayModel", "playerItem", "()Z"⟩, 42) := ⟨⟨by decide +kernel, by decide +kernel⟩, List.mem_of_getElem? (i := 915) (by decide +kernel), List.mem_of_getElem? (i := 1100) (by decide +kernel), List.mem_of_getElem? (i := 1101) (by decide +kernel)⟩
theorem lw_p35 : lw_okq (⟨"OnByThursdayModel", "figures", "(I)Z"⟩, 42) := ⟨⟨by decide +kernel, by decide +kernel⟩, List.mem_of_getElem? (i := 915) (by decide +kernel), List.mem_of_getElem? (i := 1104) (by decide +kernel), List.mem_of_getElem? (i := 1105) (by decide +kernel)⟩
theorem lw_p36 : lw_okq (⟨"OnByThursdayModel", "partItem", "()Z"⟩, 42) := ⟨⟨by decide +kernel, by decide +kernel⟩, List.mem_of_getElem? (i := 915) (by decide +kernel), List.mem_of_getElem? (i := 1111) (by decide +kernel), List.mem_of_getElem? (i := 1112) (by decide +kernel)⟩
theorem lw_p37 : lw_okq (⟨"OnByThursdayModel", "sceneItem", "()Z"⟩, 42) := ⟨⟨by decide +kernel, by decide +kernel⟩, List.mem_of_getElem? (i := 915) (by decide +kernel), List.mem_of_getElem? (i := 1115) (by decide +kernel), List.mem_of_getElem? (i := 1116) (by decide +kernel)⟩
theorem lw_p38 : lw_okq (⟨"OnByThursdayModel", "isPair", "()Z"⟩, 42) := ⟨⟨by decide +kernel, by decide +kernel⟩, List.mem_of_getElem? (i := 915) (by decide +kernel), List.mem_of_getElem? (i := 1120) (by decide +kernel), List.mem_of_getElem? (i := 1121) (by decide +kernel)⟩
theorem lw_p39 : lw_okq (⟨"OnByThursdayModel", "coldItem", "()Z"⟩, 42) := ⟨⟨by decide +kernel, by decide +kernel⟩, List.mem_of_getElem? (i := 915) (by decide +kernel), List.mem_of_getElem? (i := 1124) (by decide +kernel), List.mem_of_getElem? (i := 1125) (by decide +kernel)⟩
theorem lw_p40 : lw_okq (⟨"OnByThursdayModel", "numberItem", "(II)Z"⟩, 42) := ⟨⟨by decide +kernel, by decide +kernel⟩, List.mem_of_getElem? (i := 915) (by decide +kernel), List.mem_of_getElem? (i := 1128) (by decide +kernel), List.mem_of_getElem? (i := 1129) (by decide +kernel)⟩
theorem lw_p41 : lw_okq (⟨"OnByThursdayModel", "isPlayer", "(I)Z"⟩, 42) := ⟨⟨by decide +kernel, by decide +kernel⟩, List.mem_of_getElem? (i := 915) (by decide +kernel), List.mem_of_getElem? (i := 1140) (by decide +kernel), List.mem_of_getElem? (i := 1141) (by decide +kernel)⟩
theorem lw_p42 : lw_okq (⟨"OnByThursdayModel", "isPart", "(I)Z"⟩, 42) := ⟨⟨by decide +kernel, by decide +kernel⟩, List.mem_of_getElem? (i := 915) (by decide +kernel), List.mem_of_getElem? (i := 1149) (by decide +kernel), List.mem_of_getElem? (i := 1150) (by decide +kernel)⟩
theorem lw_p43 : lw_okq (⟨"OnByThursdayModel", "isOff", "(I)Z"⟩, 42) := ⟨⟨by decide +kernel, by decide +kernel⟩, List.mem_of_getElem? (i := 915) (by decide +kernel), List.mem_of_getElem? (i := 1162) (by decide +kernel), List.mem_of_getElem? (i := 1163) (by decide +kernel)⟩
theorem lw_p44 : lw_okq (⟨"OnByThursdayModel", "isCut", "(I)Z"⟩, 42) := ⟨⟨by decide +kernel, by decide +kernel⟩, List.mem_of_getElem? (i := 915) (by decide +kernel), List.mem_of_getElem? (i := 1166) (by decide +kernel), List.mem_of_getElem? (i := 1167) (by decide +kernel)⟩
theorem lw_p45 : lw_okq (⟨"OnByThursdayModel", "cast", "(IIZ)Z"⟩, 42) := ⟨⟨by decide +kernel, by decide +kernel⟩, List.mem_of_getElem? (i := 915) (by decide +kernel), List.mem_of_getElem? (i := 1170) (by decide +kernel), List.mem_of_getElem? (i := 1171) (by decide +kernel)⟩
theorem lw_p46 : lw_okq (⟨"OnByThursdayModel", "pileTrouble", "(I)I"⟩, 42) := ⟨⟨by decide +kernel, by decide +kernel⟩, List.mem_of_getElem? (i := 915) (by decide +kernel), List.mem_of_getElem? (i := 1174) (by decide +kernel), List.mem_of_getElem? (i := 1175) (by decide +kernel)⟩
theorem lw_p47 : lw_okq (⟨"OnByThursdayModel", "trouble", "(II)I"⟩, 42) := ⟨⟨by decide +kernel, by decide +kernel⟩, List.mem_of_getElem? (i := 915) (by decide +kernel), List.mem_of_getElem? (i := 1178) (by decide +kernel), List.mem_of_getElem? (i := 1179) (by decide +kernel)⟩
def lw_privs_3 : List (MethodName × Nat) := [(⟨"OnByThursdayModel", "item", "()Z"⟩, 42), (⟨"OnByThursdayModel", "byteAt", "(I)I"⟩, 42), (⟨"OnByThursdayModel", "playerItem", "()Z"⟩, 42), (⟨"OnByThursdayModel", "figures", "(I)Z"⟩, 42), (⟨"OnByThursdayModel", "partItem", "()Z"⟩, 42), (⟨"OnByThursdayModel", "sceneItem", "()Z"⟩, 42), (⟨"OnByThursdayModel", "isPair", "()Z"⟩, 42), (⟨"OnByThursdayModel", "coldItem", "()Z"⟩, 42), (⟨"OnByThursdayModel", "numberItem", "(II)Z"⟩, 42), (⟨"OnByThursdayModel", "isPlayer", "(I)Z"⟩, 42), (⟨"OnByThursdayModel", "isPart", "(I)Z"⟩, 42), (⟨"OnByThursdayModel", "isOff", "(I)Z"⟩, 42), (⟨"OnByThursdayModel", "isCut", "(I)Z"⟩, 42), (⟨"OnByThursdayModel", "cast", "(IIZ)Z"⟩, 42), (⟨"OnByThursdayModel", "pileTrouble", "(I)I"⟩, 42), (⟨"OnByThursdayModel", "trouble", "(II)I"⟩, 42)]
theorem lw_r3 : ∀ q ∈ lw_privs_3, lw_okq q := List.forall_mem_cons.mpr ⟨lw_p32, List.forall_mem_cons.mpr ⟨lw_p33, List.forall_mem_cons.mpr ⟨lw_p34, List.forall_mem_cons.mpr ⟨lw_p35, List.forall_mem_cons.mpr ⟨lw_p36, List.forall_mem_cons.mpr ⟨lw_p37, List.forall_mem_cons.mpr ⟨lw_p38, List.forall_mem_cons.mpr ⟨lw_p39, List.forall_mem_cons.mpr ⟨lw_p40, List.forall_mem_cons.mpr ⟨lw_p41, List.forall_mem_cons.mpr ⟨lw_p42, List.forall_mem_cons.mpr ⟨lw_p43, List.forall_mem_cons.mpr ⟨lw_p44, List.forall_mem_cons.mpr ⟨lw_p45, List.forall_mem_cons.mpr ⟨lw_p46, List.forall_mem_cons.mpr ⟨lw_p47, fun _ h => absurd h List.not_mem_nil⟩⟩⟩⟩⟩⟩⟩⟩⟩⟩⟩⟩⟩⟩⟩⟩
theorem lw_p48 : lw_okq (⟨"OnByThursdayModel", "kept", "(II)I"⟩, 42) := ⟨⟨by decide +kernel, by decide +kernel⟩, List.mem_of_getElem? (i := 915) (by decide +kernel), List.mem_of_getElem? (i := 1182) (by decide +kernel), List.mem_of_getElem? (i := 1183) (by decide +kernel)⟩
theorem lw_p49 : lw_okq (⟨"OnByThursdayModel", "nextFor", "(III)I"⟩, 42) := ⟨⟨by decide +kernel, by decide +kernel⟩, List.mem_of_getElem? (i := 915) (by decide +kernel), List.mem_of_getElem? (i := 1189) (by decide +kernel), List.mem_of_getElem? (i := 1190) (by decide +kernel)⟩
theorem lw_p50 : lw_okq (⟨"OnByThursdayModel", "linesIn", "(I)I"⟩, 42) := ⟨⟨by decide +kernel, by decide +kernel⟩, List.mem_of_getElem? (i := 915) (by decide +kernel), List.mem_of_getElem? (i := 1202) (by decide +kernel), List.mem_of_getElem? (i := 1203) (by decide +kernel)⟩
theorem lw_p51 : lw_okq (⟨"OnByThursdayModel", "hoursOf", "(I)I"⟩, 42) := ⟨⟨by decide +kernel, by decide +kernel⟩, List.mem_of_getElem? (i := 915) (by decide +kernel), List.mem_of_getElem? (i := 1214) (by decide +kernel), List.mem_of_getElem? (i := 1215) (by decide +kernel)⟩
theorem lw_p52 : lw_okq (⟨"OnByThursdayModel", "layRehearsals", "()V"⟩, 42) := ⟨⟨by decide +kernel, by decide +kernel⟩, List.mem_of_getElem? (i := 915) (by decide +kernel), List.mem_of_getElem? (i := 1222) (by decide +kernel), List.mem_of_getElem? (i := 1223) (by decide +kernel)⟩
theorem lw_p53 : lw_okq (⟨"OnByThursdayModel", "layPairs", "()V"⟩, 42) := ⟨⟨by decide +kernel, by decide +kernel⟩, List.mem_of_getElem? (i := 915) (by decide +kernel), List.mem_of_getElem? (i := 1226) (by decide +kernel), List.mem_of_getElem? (i := 1227) (by decide +kernel)⟩
theorem lw_p54 : lw_okq (⟨"OnByThursdayModel", "isTaken", "(II)Z"⟩, 42) := ⟨⟨by decide +kernel, by decide +kernel⟩, List.mem_of_getElem? (i := 915) (by decide +kernel), List.mem_of_getElem? (i := 1230) (by decide +kernel), List.mem_of_getElem? (i := 1231) (by decide +kernel)⟩
theorem lw_p55 : lw_okq (⟨"OnByThursdayModel", "gainOf", "(I)I"⟩, 42) := ⟨⟨by decide +kernel, by decide +kernel⟩, List.mem_of_getElem? (i := 915) (by decide +kernel), List.mem_of_getElem? (i := 1234) (by decide +kernel), List.mem_of_getElem? (i := 1235) (by decide +kernel)⟩
theorem lw_p56 : lw_okq (⟨"OnByThursdayModel", "layCold", "(II)V"⟩, 42) := ⟨⟨by decide +kernel, by decide +kernel⟩, List.mem_of_getElem? (i := 915) (by decide +kernel), List.mem_of_getElem? (i := 1248) (by decide +kernel), List.mem_of_getElem? (i := 1249) (by decide +kernel)⟩
theorem lw_p57 : lw_okq (⟨"OnByThursdayModel", "partState", "(II)V"⟩, 42) := ⟨⟨by decide +kernel, by decide +kernel⟩, List.mem_of_getElem? (i := 915) (by decide +kernel), List.mem_of_getElem? (i := 1253) (by decide +kernel), List.mem_of_getElem? (i := 1254) (by decide +kernel)⟩
theorem lw_p58 : lw_okq (⟨"OnByThursdayModel", "wellOf", "(II)J"⟩, 42) := ⟨⟨by decide +kernel, by decide +kernel⟩, List.mem_of_getElem? (i := 915) (by decide +kernel), List.mem_of_getElem? (i := 1257) (by decide +kernel), List.mem_of_getElem? (i := 1258) (by decide +kernel)⟩
theorem lw_p59 : lw_okq (⟨"OnByThursdayModel", "weakOf", "(I)I"⟩, 42) := ⟨⟨by decide +kernel, by decide +kernel⟩, List.mem_of_getElem? (i := 915) (by decide +kernel), List.mem_of_getElem? (i := 1268) (by decide +kernel), List.mem_of_getElem? (i := 1269) (by decide +kernel)⟩
theorem lw_p60 : lw_okq (⟨"OnByThursdayModel", "isCover", "(II)Z"⟩, 42) := ⟨⟨by decide +kernel, by decide +kernel⟩, List.mem_of_getElem? (i := 915) (by decide +kernel), List.mem_of_getElem? (i := 1279) (by decide +kernel), List.mem_of_getElem? (i := 1280) (by decide +kernel)⟩
theorem lw_p61 : lw_okq (⟨"OnByThursdayModel", "setCover", "(IIZ)V"⟩, 42) := ⟨⟨by decide +kernel, by decide +kernel⟩, List.mem_of_getElem? (i := 915) (by decide +kernel), List.mem_of_getElem? (i := 1283) (by decide +kernel), List.mem_of_getElem? (i := 1284) (by decide +kernel)⟩
theorem lw_p62 : lw_okq (⟨"OnByThursdayModel", "noneWeak", "()Z"⟩, 42) := ⟨⟨by decide +kernel, by decide +kernel⟩, List.mem_of_getElem? (i := 915) (by decide +kernel), List.mem_of_getElem? (i := 1291) (by decide +kernel), List.mem_of_getElem? (i := 1292) (by decide +kernel)⟩
theorem lw_p63 : lw_okq (⟨"OnByThursdayModel", "play", "(I)I"⟩, 42) := ⟨⟨by decide +kernel, by decide +kernel⟩, List.mem_of_getElem? (i := 915) (by decide +kernel), List.mem_of_getElem? (i := 1299) (by decide +kernel), List.mem_of_getElem? (i := 1300) (by decide +kernel)⟩
def lw_privs_4 : List (MethodName × Nat) := [(⟨"OnByThursdayModel", "kept", "(II)I"⟩, 42), (⟨"OnByThursdayModel", "nextFor", "(III)I"⟩, 42), (⟨"OnByThursdayModel", "linesIn", "(I)I"⟩, 42), (⟨"OnByThursdayModel", "hoursOf", "(I)I"⟩, 42), (⟨"OnByThursdayModel", "layRehearsals", "()V"⟩, 42), (⟨"OnByThursdayModel", "layPairs", "()V"⟩, 42), (⟨"OnByThursdayModel", "isTaken", "(II)Z"⟩, 42), (⟨"OnByThursdayModel", "gainOf", "(I)I"⟩, 42), (⟨"OnByThursdayModel", "layCold", "(II)V"⟩, 42), (⟨"OnByThursdayModel", "partState", "(II)V"⟩, 42), (⟨"OnByThursdayModel", "wellOf", "(II)J"⟩, 42), (⟨"OnByThursdayModel", "weakOf", "(I)I"⟩, 42), (⟨"OnByThursdayModel", "isCover", "(II)Z"⟩, 42), (⟨"OnByThursdayModel", "setCover", "(IIZ)V"⟩, 42), (⟨"OnByThursdayModel", "noneWeak", "()Z"⟩, 42), (⟨"OnByThursdayModel", "play", "(I)I"⟩, 42)]
theorem lw_r4 : ∀ q ∈ lw_privs_4, lw_okq q := List.forall_mem_cons.mpr ⟨lw_p48, List.forall_mem_cons.mpr ⟨lw_p49, List.forall_mem_cons.mpr ⟨lw_p50, List.forall_mem_cons.mpr ⟨lw_p51, List.forall_mem_cons.mpr ⟨lw_p52, List.forall_mem_cons.mpr ⟨lw_p53, List.forall_mem_cons.mpr ⟨lw_p54, List.forall_mem_cons.mpr ⟨lw_p55, List.forall_mem_cons.mpr ⟨lw_p56, List.forall_mem_cons.mpr ⟨lw_p57, List.forall_mem_cons.mpr ⟨lw_p58, List.forall_mem_cons.mpr ⟨lw_p59, List.forall_mem_cons.mpr ⟨lw_p60, List.forall_mem_cons.mpr ⟨lw_p61, List.forall_mem_cons.mpr ⟨lw_p62, List.forall_mem_cons.mpr ⟨lw_p63, fun _ h => absurd h List.not_mem_nil⟩⟩⟩⟩⟩⟩⟩⟩⟩⟩⟩⟩⟩⟩⟩⟩
theorem lw_p64 : lw_okq (⟨"OnByThursdayModel", "copy", "(II)V"⟩, 42) := ⟨⟨by decide +kernel, by decide +kernel⟩, List.mem_of_getElem? (i := 915) (by decide +kernel), List.mem_of_getElem? (i := 1326) (by decide +kernel), List.mem_of_getElem? (i := 1327) (by decide +kernel)⟩
def lw_privs_5 : List (MethodName × Nat) := [(⟨"OnByThursdayModel", "copy", "(II)V"⟩, 42)]
theorem lw_r5 : ∀ q ∈ lw_privs_5, lw_okq q := List.forall_mem_cons.mpr ⟨lw_p64, fun _ h => absurd h List.not_mem_nil⟩
def lw_privs : List (MethodName × Nat) := lw_privs_1 ++ (lw_privs_2 ++ (lw_privs_3 ++ (lw_privs_4 ++ (lw_privs_5))))
def lw_tbl : List Cond := k2_sels lw_privs ++ tables_1
theorem lw_privs_ok : ∀ q ∈ lw_privs, lw_okq q := by
  show ∀ q ∈ lw_privs_1 ++ (lw_privs_2 ++ (lw_privs_3 ++ (lw_privs_4 ++ (lw_privs_5)))), lw_okq q
  exact List.forall_mem_append.mpr ⟨lw_r1, List.forall_mem_append.mpr ⟨lw_r2, List.forall_mem_append.mpr ⟨lw_r3, List.forall_mem_append.mpr ⟨lw_r4, lw_r5⟩⟩⟩⟩
end
section
def RX0 : String := "OnByThursday$Absences"
def TX0 : u_T := fun k => match k with
  | 0 => ("OnByThursday$Absences", "answers", "[I", true)
  | 1 => ("OnByThursday$Absences", "attempt", "LOnByThursday$Attempt;", true)
  | 2 => ("OnByThursday$Absences", "weakSets", "[I", true)
  | _ => ("OnByThursday$Absences", "weakCount", "I", false)
def tyX0 : Nat → FieldType := fun k => match k with
  | 0 => .array .int
  | 1 => .object "OnByThursday$Attempt"
  | 2 => .array .int
  | _ => .int
theorem nmX0 : ∀ a, a < 4 → ∀ b, b < 4 → a ≠ b → (TX0 a).2.1 ≠ (TX0 b).2.1 := by decide +kernel
theorem tyX0_ok : ∀ k, k < 4 → parseFieldDescriptor (TX0 k).2.2.1 = some (tyX0 k) := by decide +kernel
abbrev cX0_init : ByteArray := prog_2_method_1_code
def yX0_init : MethodName := ⟨RX0, "<init>", "()V"⟩
abbrev cX0_forget : ByteArray := prog_2_method_2_code
def yX0_forget : MethodName := ⟨RX0, "forget", "()V"⟩
abbrev cX0_isMet : ByteArray := prog_2_method_3_code
def yX0_isMet : MethodName := ⟨RX0, "isMet", "(LOnByThursday$Company;I)Z"⟩
abbrev cX0_cheapestCut : ByteArray := prog_2_method_4_code
def yX0_cheapestCut : MethodName := ⟨RX0, "cheapestCut", "(LOnByThursday$Company;I)I"⟩
abbrev cX0_findWeak : ByteArray := prog_2_method_5_code
def yX0_findWeak : MethodName := ⟨RX0, "findWeak", "(LOnByThursday$Company;I)V"⟩
def RX1 : String := "OnByThursday$Attempt"
def TX1 : u_T := fun k => match k with
  | 0 => ("OnByThursday$Attempt", "company", "LOnByThursday$Company;", false)
  | 1 => ("OnByThursday$Attempt", "open", "I", false)
  | _ => ("OnByThursday$Attempt", "left", "[I", true)
def tyX1 : Nat → FieldType := fun k => match k with
  | 0 => .object "OnByThursday$Company"
  | 1 => .int
  | _ => .array .int
theorem nmX1 : ∀ a, a < 3 → ∀ b, b < 3 → a ≠ b → (TX1 a).2.1 ≠ (TX1 b).2.1 := by decide +kernel
theorem tyX1_ok : ∀ k, k < 3 → parseFieldDescriptor (TX1 k).2.2.1 = some (tyX1 k) := by decide +kernel
abbrev cX1_init : ByteArray := prog_3_method_1_code
def yX1_init : MethodName := ⟨RX1, "<init>", "()V"⟩
abbrev cX1_begin : ByteArray := prog_3_method_2_code
def yX1_begin : MethodName := ⟨RX1, "begin", "(LOnByThursday$Company;II)V"⟩
abbrev cX1_give : ByteArray := prog_3_method_3_code
def yX1_give : MethodName := ⟨RX1, "give", "(II)V"⟩
abbrev cX1_succeeds : ByteArray := prog_3_method_4_code
def yX1_succeeds : MethodName := ⟨RX1, "succeeds", "()Z"⟩
abbrev cX1_canFill : ByteArray := prog_3_method_5_code
def yX1_canFill : MethodName := ⟨RX1, "canFill", "(LOnByThursday$Attempt;II)Z"⟩
abbrev cX1_scarcest : ByteArray := prog_3_method_6_code
def yX1_scarcest : MethodName := ⟨RX1, "scarcest", "(II)I"⟩
abbrev cX1_strike : ByteArray := prog_3_method_7_code
def yX1_strike : MethodName := ⟨RX1, "strike", "(IIII)Z"⟩
def RX2 : String := "OnByThursday$Caster"
def TX2 : u_T := fun k => match k with
  | 0 => ("OnByThursday$Caster", "company", "LOnByThursday$Company;", false)
  | 1 => ("OnByThursday$Caster", "off", "I", false)
  | 2 => ("OnByThursday$Caster", "cut", "I", false)
  | 3 => ("OnByThursday$Caster", "taken", "[I", true)
  | 4 => ("OnByThursday$Caster", "chosen", "[I", true)
  | 5 => ("OnByThursday$Caster", "trouble", "[I", true)
  | 6 => ("OnByThursday$Caster", "floor", "[I", true)
  | 7 => ("OnByThursday$Caster", "best", "[I", true)
  | _ => ("OnByThursday$Caster", "bestTrouble", "I", false)
def tyX2 : Nat → FieldType := fun k => match k with
  | 0 => .object "OnByThursday$Company"
  | 1 => .int
  | 2 => .int
  | 3 => .array .int
  | 4 => .array .int
  | 5 => .array .int
  | 6 => .array .int
  | 7 => .array .int
  | _ => .int
theorem nmX2 : ∀ a, a < 9 → ∀ b, b < 9 → a ≠ b → (TX2 a).2.1 ≠ (TX2 b).2.1 := by decide +kernel
theorem tyX2_ok : ∀ k, k < 9 → parseFieldDescriptor (TX2 k).2.2.1 = some (tyX2 k) := by decide +kernel
abbrev cX2_init : ByteArray := prog_4_method_1_code
def yX2_init : MethodName := ⟨RX2, "<init>", "()V"⟩
abbrev cX2_begin : ByteArray := prog_4_method_2_code
def yX2_begin : MethodName := ⟨RX2, "begin", "(LOnByThursday$Company;II)V"⟩
abbrev cX2_isFree : ByteArray := prog_4_method_3_code
def yX2_isFree : MethodName := ⟨RX2, "isFree", "(II)Z"⟩
abbrev cX2_countCastings : ByteArray := prog_4_method_4_code
def yX2_countCastings : MethodName := ⟨RX2, "countCastings", "(LOnByThursday$Company;II)J"⟩
abbrev cX2_countFrom : ByteArray := prog_4_method_5_code
def yX2_countFrom : MethodName := ⟨RX2, "countFrom", "(LOnByThursday$Caster;I)J"⟩
abbrev cX2_findLeast : ByteArray := prog_4_method_6_code
def yX2_findLeast : MethodName := ⟨RX2, "findLeast", "(LOnByThursday$Company;LOnByThursday$Diary;II)Z"⟩
abbrev cX2_weigh : ByteArray := prog_4_method_7_code
def yX2_weigh : MethodName := ⟨RX2, "weigh", "(LOnByThursday$Diary;I)I"⟩
abbrev cX2_improveFrom : ByteArray := prog_4_method_8_code
def yX2_improveFrom : MethodName := ⟨RX2, "improveFrom", "(LOnByThursday$Caster;II)V"⟩
abbrev cX2_partsPlayedBy : ByteArray := prog_4_method_9_code
def yX2_partsPlayedBy : MethodName := ⟨RX2, "partsPlayedBy", "(I)I"⟩
abbrev cX2_partsNotByOwners : ByteArray := prog_4_method_10_code
def yX2_partsNotByOwners : MethodName := ⟨RX2, "partsNotByOwners", "()I"⟩
abbrev cX2_forgottenLines : ByteArray := prog_4_method_11_code
def yX2_forgottenLines : MethodName := ⟨RX2, "forgottenLines", "(LOnByThursday$Diary;)I"⟩
def RX3 : String := "OnByThursday$Company"
def TX3 : u_T := fun k => match k with
  | 0 => ("OnByThursday$Company", "players", "I", false)
  | 1 => ("OnByThursday$Company", "parts", "I", false)
  | 2 => ("OnByThursday$Company", "covers", "I", false)
  | 3 => ("OnByThursday$Company", "height", "[I", true)
  | 4 => ("OnByThursday$Company", "skills", "[I", true)
  | 5 => ("OnByThursday$Company", "known", "[I", true)
  | 6 => ("OnByThursday$Company", "size", "[I", true)
  | 7 => ("OnByThursday$Company", "wanted", "[I", true)
  | 8 => ("OnByThursday$Company", "length", "[I", true)
  | 9 => ("OnByThursday$Company", "owner", "[I", true)
  | 10 => ("OnByThursday$Company", "cuttable", "I", false)
  | 11 => ("OnByThursday$Company", "plot", "LOnByThursday$Plot;", true)
  | 12 => ("OnByThursday$Company", "contagion", "[I", true)
  | 13 => ("OnByThursday$Company", "tailor", "I", false)
  | 14 => ("OnByThursday$Company", "forgetting", "I", false)
  | 15 => ("OnByThursday$Company", "payNight", "I", false)
  | 16 => ("OnByThursday$Company", "payLines", "I", false)
  | 17 => ("OnByThursday$Company", "able", "[I", true)
  | _ => ("OnByThursday$Company", "clash", "[I", true)
def tyX3 : Nat → FieldType := fun k => match k with
  | 0 => .int
  | 1 => .int
  | 2 => .int
  | 3 => .array .int
  | 4 => .array .int
  | 5 => .array .int
  | 6 => .array .int
  | 7 => .array .int
  | 8 => .array .int
  | 9 => .array .int
  | 10 => .int
  | 11 => .object "OnByThursday$Plot"
  | 12 => .array .int
  | 13 => .int
  | 14 => .int
  | 15 => .int
  | 16 => .int
  | 17 => .array .int
  | _ => .array .int
theorem nmX3 : ∀ a, a < 19 → ∀ b, b < 19 → a ≠ b → (TX3 a).2.1 ≠ (TX3 b).2.1 := by decide +kernel
theorem tyX3_ok : ∀ k, k < 19 → parseFieldDescriptor (TX3 k).2.2.1 = some (tyX3 k) := by decide +kernel
abbrev cX3_init : ByteArray := prog_5_method_1_code
def yX3_init : MethodName := ⟨RX3, "<init>", "()V"⟩
abbrev cX3_clear : ByteArray := prog_5_method_2_code
def yX3_clear : MethodName := ⟨RX3, "clear", "()V"⟩
abbrev cX3_take : ByteArray := prog_5_method_3_code
def yX3_take : MethodName := ⟨RX3, "take", "(I[II)Z"⟩
abbrev cX3_addPlayer : ByteArray := prog_5_method_4_code
def yX3_addPlayer : MethodName := ⟨RX3, "addPlayer", "(II)Z"⟩
abbrev cX3_addPart : ByteArray := prog_5_method_5_code
def yX3_addPart : MethodName := ⟨RX3, "addPart", "(IIII)Z"⟩
abbrev cX3_tellScene : ByteArray := prog_5_method_6_code
def yX3_tellScene : MethodName := ⟨RX3, "tellScene", "(II)Z"⟩
abbrev cX3_giveOwn : ByteArray := prog_5_method_7_code
def yX3_giveOwn : MethodName := ⟨RX3, "giveOwn", "(II)Z"⟩
abbrev cX3_addCover : ByteArray := prog_5_method_8_code
def yX3_addCover : MethodName := ⟨RX3, "addCover", "(II)Z"⟩
abbrev cX3_setContagion : ByteArray := prog_5_method_9_code
def yX3_setContagion : MethodName := ⟨RX3, "setContagion", "(III)Z"⟩
abbrev cX3_setChange : ByteArray := prog_5_method_10_code
def yX3_setChange : MethodName := ⟨RX3, "setChange", "(I)Z"⟩
abbrev cX3_setTailor : ByteArray := prog_5_method_11_code
def yX3_setTailor : MethodName := ⟨RX3, "setTailor", "(I)Z"⟩
abbrev cX3_setForgetting : ByteArray := prog_5_method_12_code
def yX3_setForgetting : MethodName := ⟨RX3, "setForgetting", "(I)Z"⟩
abbrev cX3_setPay : ByteArray := prog_5_method_13_code
def yX3_setPay : MethodName := ⟨RX3, "setPay", "(II)Z"⟩
abbrev cX3_settle : ByteArray := prog_5_method_14_code
def yX3_settle : MethodName := ⟨RX3, "settle", "()V"⟩
abbrev cX3_isSkilled : ByteArray := prog_5_method_15_code
def yX3_isSkilled : MethodName := ⟨RX3, "isSkilled", "(II)Z"⟩
abbrev cX3_hasPlayer : ByteArray := prog_5_method_16_code
def yX3_hasPlayer : MethodName := ⟨RX3, "hasPlayer", "(I)Z"⟩
abbrev cX3_hasPart : ByteArray := prog_5_method_17_code
def yX3_hasPart : MethodName := ⟨RX3, "hasPart", "(I)Z"⟩
abbrev cX3_hasPlayers : ByteArray := prog_5_method_18_code
def yX3_hasPlayers : MethodName := ⟨RX3, "hasPlayers", "(I)Z"⟩
abbrev cX3_hasParts : ByteArray := prog_5_method_19_code
def yX3_hasParts : MethodName := ⟨RX3, "hasParts", "(I)Z"⟩
abbrev cX3_mayPlay : ByteArray := prog_5_method_20_code
def yX3_mayPlay : MethodName := ⟨RX3, "mayPlay", "(II)Z"⟩
abbrev cX3_ownParts : ByteArray := prog_5_method_21_code
def yX3_ownParts : MethodName := ⟨RX3, "ownParts", "(I)I"⟩
abbrev cX3_playable : ByteArray := prog_5_method_22_code
def yX3_playable : MethodName := ⟨RX3, "playable", "(I)I"⟩
abbrev cX3_linesTogether : ByteArray := prog_5_method_23_code
def yX3_linesTogether : MethodName := ⟨RX3, "linesTogether", "(I)I"⟩
abbrev cX3_hours : ByteArray := prog_5_method_24_code
def yX3_hours : MethodName := ⟨RX3, "hours", "(I)I"⟩
def RX4 : String := "OnByThursday$Diary"
def TX4 : u_T := fun k => match k with
  | 0 => ("OnByThursday$Diary", "today", "I", false)
  | 1 => ("OnByThursday$Diary", "owing", "[I", true)
  | _ => ("OnByThursday$Diary", "said", "[I", true)
def tyX4 : Nat → FieldType := fun k => match k with
  | 0 => .int
  | 1 => .array .int
  | _ => .array .int
theorem nmX4 : ∀ a, a < 3 → ∀ b, b < 3 → a ≠ b → (TX4 a).2.1 ≠ (TX4 b).2.1 := by decide +kernel
theorem tyX4_ok : ∀ k, k < 3 → parseFieldDescriptor (TX4 k).2.2.1 = some (tyX4 k) := by decide +kernel
abbrev cX4_init : ByteArray := prog_6_method_1_code
def yX4_init : MethodName := ⟨RX4, "<init>", "()V"⟩
abbrev cX4_clear : ByteArray := prog_6_method_2_code
def yX4_clear : MethodName := ⟨RX4, "clear", "()V"⟩
abbrev cX4_copy : ByteArray := prog_6_method_3_code
def yX4_copy : MethodName := ⟨RX4, "copy", "(LOnByThursday$Diary;)V"⟩
abbrev cX4_sayToday : ByteArray := prog_6_method_4_code
def yX4_sayToday : MethodName := ⟨RX4, "sayToday", "(II)V"⟩
abbrev cX4_keptLines : ByteArray := prog_6_method_5_code
def yX4_keptLines : MethodName := ⟨RX4, "keptLines", "(LOnByThursday$Company;II)I"⟩
abbrev cX4_lostLines : ByteArray := prog_6_method_6_code
def yX4_lostLines : MethodName := ⟨RX4, "lostLines", "(LOnByThursday$Company;II)I"⟩
abbrev cX4_playNight : ByteArray := prog_6_method_7_code
def yX4_playNight : MethodName := ⟨RX4, "playNight", "(LOnByThursday$Company;II)V"⟩
def RX5 : String := "OnByThursday$Plot"
def TX5 : u_T := fun k => match k with
  | 0 => ("OnByThursday$Plot", "scenes", "I", false)
  | 1 => ("OnByThursday$Plot", "change", "I", false)
  | 2 => ("OnByThursday$Plot", "onStage", "[I", true)
  | _ => ("OnByThursday$Plot", "minutes", "[I", true)
def tyX5 : Nat → FieldType := fun k => match k with
  | 0 => .int
  | 1 => .int
  | 2 => .array .int
  | _ => .array .int
theorem nmX5 : ∀ a, a < 4 → ∀ b, b < 4 → a ≠ b → (TX5 a).2.1 ≠ (TX5 b).2.1 := by decide +kernel
theorem tyX5_ok : ∀ k, k < 4 → parseFieldDescriptor (TX5 k).2.2.1 = some (tyX5 k) := by decide +kernel
abbrev cX5_init : ByteArray := prog_7_method_1_code
def yX5_init : MethodName := ⟨RX5, "<init>", "()V"⟩
abbrev cX5_clear : ByteArray := prog_7_method_2_code
def yX5_clear : MethodName := ⟨RX5, "clear", "()V"⟩
abbrev cX5_addScene : ByteArray := prog_7_method_3_code
def yX5_addScene : MethodName := ⟨RX5, "addScene", "(II)V"⟩
abbrev cX5_scenesOf : ByteArray := prog_7_method_4_code
def yX5_scenesOf : MethodName := ⟨RX5, "scenesOf", "(I)I"⟩
abbrev cX5_clashes : ByteArray := prog_7_method_5_code
def yX5_clashes : MethodName := ⟨RX5, "clashes", "(II)Z"⟩
def RX6 : String := "OnByThursday$Reader"
def TX6 : u_T := fun k => match k with
  | 0 => ("OnByThursday$Reader", "numbers", "[I", true)
  | _ => ("OnByThursday$Reader", "numberCount", "I", false)
def tyX6 : Nat → FieldType := fun k => match k with
  | 0 => .array .int
  | _ => .int
theorem nmX6 : ∀ a, a < 2 → ∀ b, b < 2 → a ≠ b → (TX6 a).2.1 ≠ (TX6 b).2.1 := by decide +kernel
theorem tyX6_ok : ∀ k, k < 2 → parseFieldDescriptor (TX6 k).2.2.1 = some (tyX6 k) := by decide +kernel
abbrev cX6_init : ByteArray := prog_8_method_1_code
def yX6_init : MethodName := ⟨RX6, "<init>", "()V"⟩
abbrev cX6_firstFault : ByteArray := prog_8_method_2_code
def yX6_firstFault : MethodName := ⟨RX6, "firstFault", "([BILOnByThursday$Company;)I"⟩
abbrev cX6_endOfItem : ByteArray := prog_8_method_3_code
def yX6_endOfItem : MethodName := ⟨RX6, "endOfItem", "([BII)I"⟩
abbrev cX6_endOfFigures : ByteArray := prog_8_method_4_code
def yX6_endOfFigures : MethodName := ⟨RX6, "endOfFigures", "([BII)I"⟩
abbrev cX6_numberOf : ByteArray := prog_8_method_5_code
def yX6_numberOf : MethodName := ⟨RX6, "numberOf", "([BII)I"⟩
def RX7 : String := "OnByThursday$Sickness"
def TX7 : u_T := fun k => match k with
  | 0 => ("OnByThursday$Sickness", "times", "[I", true)
  | 1 => ("OnByThursday$Sickness", "nextTimes", "[I", true)
  | 2 => ("OnByThursday$Sickness", "branchSet", "[I", true)
  | 3 => ("OnByThursday$Sickness", "branchTimes", "[I", true)
  | 4 => ("OnByThursday$Sickness", "branches", "I", false)
  | 5 => ("OnByThursday$Sickness", "start", "I", false)
  | _ => ("OnByThursday$Sickness", "day", "I", false)
def tyX7 : Nat → FieldType := fun k => match k with
  | 0 => .array .int
  | 1 => .array .int
  | 2 => .array .int
  | 3 => .array .int
  | 4 => .int
  | 5 => .int
  | _ => .int
theorem nmX7 : ∀ a, a < 7 → ∀ b, b < 7 → a ≠ b → (TX7 a).2.1 ≠ (TX7 b).2.1 := by decide +kernel
theorem tyX7_ok : ∀ k, k < 7 → parseFieldDescriptor (TX7 k).2.2.1 = some (tyX7 k) := by decide +kernel
abbrev cX7_init : ByteArray := prog_9_method_1_code
def yX7_init : MethodName := ⟨RX7, "<init>", "()V"⟩
abbrev cX7_forget : ByteArray := prog_9_method_2_code
def yX7_forget : MethodName := ⟨RX7, "forget", "()V"⟩
abbrev cX7_goOn : ByteArray := prog_9_method_3_code
def yX7_goOn : MethodName := ⟨RX7, "goOn", "(LOnByThursday$Company;II)V"⟩
abbrev cX7_passDay : ByteArray := prog_9_method_4_code
def yX7_passDay : MethodName := ⟨RX7, "passDay", "(LOnByThursday$Company;)V"⟩
abbrev cX7_spread : ByteArray := prog_9_method_5_code
def yX7_spread : MethodName := ⟨RX7, "spread", "(LOnByThursday$Company;I)V"⟩
abbrev cX7_staysWell : ByteArray := prog_9_method_6_code
def yX7_staysWell : MethodName := ⟨RX7, "staysWell", "(LOnByThursday$Company;II)I"⟩
abbrev cX7_divide : ByteArray := prog_9_method_7_code
def yX7_divide : MethodName := ⟨RX7, "divide", "(II)V"⟩
abbrev cX7_timesIll : ByteArray := prog_9_method_8_code
def yX7_timesIll : MethodName := ⟨RX7, "timesIll", "(LOnByThursday$Company;I)I"⟩
abbrev cX7_timesMet : ByteArray := prog_9_method_9_code
def yX7_timesMet : MethodName := ⟨RX7, "timesMet", "(LOnByThursday$Company;LOnByThursday$Absences;)I"⟩
abbrev cX7_likeliest : ByteArray := prog_9_method_10_code
def yX7_likeliest : MethodName := ⟨RX7, "likeliest", "(LOnByThursday$Company;)I"⟩
def RX8 : String := "OnByThursday$Timetable"
def TX8 : u_T := fun k => match k with
  | 0 => ("OnByThursday$Timetable", "pair", "[I", true)
  | 1 => ("OnByThursday$Timetable", "pairHours", "[I", true)
  | 2 => ("OnByThursday$Timetable", "pairLines", "[I", true)
  | 3 => ("OnByThursday$Timetable", "pairs", "I", false)
  | 4 => ("OnByThursday$Timetable", "worth", "[I", true)
  | 5 => ("OnByThursday$Timetable", "chosen", "[I", true)
  | 6 => ("OnByThursday$Timetable", "chosenCount", "I", false)
  | 7 => ("OnByThursday$Timetable", "linesMore", "I", false)
  | _ => ("OnByThursday$Timetable", "hoursTaken", "I", false)
def tyX8 : Nat → FieldType := fun k => match k with
  | 0 => .array .int
  | 1 => .array .int
  | 2 => .array .int
  | 3 => .int
  | 4 => .array .int
  | 5 => .array .int
  | 6 => .int
  | 7 => .int
  | _ => .int
theorem nmX8 : ∀ a, a < 9 → ∀ b, b < 9 → a ≠ b → (TX8 a).2.1 ≠ (TX8 b).2.1 := by decide +kernel
theorem tyX8_ok : ∀ k, k < 9 → parseFieldDescriptor (TX8 k).2.2.1 = some (tyX8 k) := by decide +kernel
abbrev cX8_init : ByteArray := prog_10_method_1_code
def yX8_init : MethodName := ⟨RX8, "<init>", "()V"⟩
abbrev cX8_plan : ByteArray := prog_10_method_2_code
def yX8_plan : MethodName := ⟨RX8, "plan", "(LOnByThursday$Company;LOnByThursday$Diary;I)V"⟩
abbrev cX8_listPairs : ByteArray := prog_10_method_3_code
def yX8_listPairs : MethodName := ⟨RX8, "listPairs", "(LOnByThursday$Company;LOnByThursday$Diary;)V"⟩
abbrev cX8_weighPairs : ByteArray := prog_10_method_4_code
def yX8_weighPairs : MethodName := ⟨RX8, "weighPairs", "(I)V"⟩
abbrev cX8_worthWith : ByteArray := prog_10_method_5_code
def yX8_worthWith : MethodName := ⟨RX8, "worthWith", "(II)I"⟩
abbrev cX8_choosePairs : ByteArray := prog_10_method_6_code
def yX8_choosePairs : MethodName := ⟨RX8, "choosePairs", "(I)V"⟩
def RX9 : String := "OnByThursday$Understudies"
def TX9 : u_T := fun k => match k with
  | 0 => ("OnByThursday$Understudies", "attempt", "LOnByThursday$Attempt;", true)
  | 1 => ("OnByThursday$Understudies", "coverPlayer", "[I", true)
  | 2 => ("OnByThursday$Understudies", "coverPart", "[I", true)
  | 3 => ("OnByThursday$Understudies", "covers", "I", false)
  | 4 => ("OnByThursday$Understudies", "helped", "[J", true)
  | 5 => ("OnByThursday$Understudies", "surveyedSizes", "I", false)
  | 6 => ("OnByThursday$Understudies", "twoAsked", "Z", false)
  | 7 => ("OnByThursday$Understudies", "twoEnough", "Z", false)
  | 8 => ("OnByThursday$Understudies", "bestCover", "I", false)
  | _ => ("OnByThursday$Understudies", "stillWeak", "I", false)
def tyX9 : Nat → FieldType := fun k => match k with
  | 0 => .object "OnByThursday$Attempt"
  | 1 => .array .int
  | 2 => .array .int
  | 3 => .int
  | 4 => .array .long
  | 5 => .int
  | 6 => .boolean
  | 7 => .boolean
  | 8 => .int
  | _ => .int
theorem nmX9 : ∀ a, a < 10 → ∀ b, b < 10 → a ≠ b → (TX9 a).2.1 ≠ (TX9 b).2.1 := by decide +kernel
theorem tyX9_ok : ∀ k, k < 10 → parseFieldDescriptor (TX9 k).2.2.1 = some (tyX9 k) := by decide +kernel
abbrev cX9_init : ByteArray := prog_11_method_1_code
def yX9_init : MethodName := ⟨RX9, "<init>", "()V"⟩
abbrev cX9_forget : ByteArray := prog_11_method_2_code
def yX9_forget : MethodName := ⟨RX9, "forget", "()V"⟩
abbrev cX9_survey : ByteArray := prog_11_method_3_code
def yX9_survey : MethodName := ⟨RX9, "survey", "(LOnByThursday$Company;LOnByThursday$Absences;I)V"⟩
abbrev cX9_listCovers : ByteArray := prog_11_method_4_code
def yX9_listCovers : MethodName := ⟨RX9, "listCovers", "(LOnByThursday$Company;)V"⟩
abbrev cX9_helps : ByteArray := prog_11_method_5_code
def yX9_helps : MethodName := ⟨RX9, "helps", "(LOnByThursday$Company;II)Z"⟩
abbrev cX9_helpTogether : ByteArray := prog_11_method_6_code
def yX9_helpTogether : MethodName := ⟨RX9, "helpTogether", "(LOnByThursday$Company;III)Z"⟩
abbrev cX9_findBest : ByteArray := prog_11_method_7_code
def yX9_findBest : MethodName := ⟨RX9, "findBest", "(II)V"⟩
abbrev cX9_fewestForPairs : ByteArray := prog_11_method_8_code
def yX9_fewestForPairs : MethodName := ⟨RX9, "fewestForPairs", "(LOnByThursday$Company;LOnByThursday$Absences;)I"⟩
abbrev cX9_areEnough : ByteArray := prog_11_method_9_code
def yX9_areEnough : MethodName := ⟨RX9, "areEnough", "(LOnByThursday$Company;LOnByThursday$Absences;II)Z"⟩
def RX10 : String := "OnByThursday"
def TX10 : u_T := fun k => match k with
  | 0 => ("OnByThursday", "text", "[B", true)
  | 1 => ("OnByThursday", "textLength", "I", false)
  | 2 => ("OnByThursday", "reader", "LOnByThursday$Reader;", true)
  | 3 => ("OnByThursday", "company", "LOnByThursday$Company;", false)
  | 4 => ("OnByThursday", "draft", "LOnByThursday$Company;", false)
  | 5 => ("OnByThursday", "diary", "LOnByThursday$Diary;", true)
  | 6 => ("OnByThursday", "firstKept", "LOnByThursday$Diary;", true)
  | 7 => ("OnByThursday", "secondKept", "LOnByThursday$Diary;", true)
  | 8 => ("OnByThursday", "keptCount", "I", false)
  | 9 => ("OnByThursday", "toldSums", "[I", true)
  | 10 => ("OnByThursday", "caster", "LOnByThursday$Caster;", true)
  | 11 => ("OnByThursday", "absences", "LOnByThursday$Absences;", true)
  | 12 => ("OnByThursday", "understudies", "LOnByThursday$Understudies;", true)
  | 13 => ("OnByThursday", "sickness", "LOnByThursday$Sickness;", true)
  | _ => ("OnByThursday", "timetable", "LOnByThursday$Timetable;", true)
def tyX10 : Nat → FieldType := fun k => match k with
  | 0 => .array .byte
  | 1 => .int
  | 2 => .object "OnByThursday$Reader"
  | 3 => .object "OnByThursday$Company"
  | 4 => .object "OnByThursday$Company"
  | 5 => .object "OnByThursday$Diary"
  | 6 => .object "OnByThursday$Diary"
  | 7 => .object "OnByThursday$Diary"
  | 8 => .int
  | 9 => .array .int
  | 10 => .object "OnByThursday$Caster"
  | 11 => .object "OnByThursday$Absences"
  | 12 => .object "OnByThursday$Understudies"
  | 13 => .object "OnByThursday$Sickness"
  | _ => .object "OnByThursday$Timetable"
theorem nmX10 : ∀ a, a < 15 → ∀ b, b < 15 → a ≠ b → (TX10 a).2.1 ≠ (TX10 b).2.1 := by decide +kernel
theorem tyX10_ok : ∀ k, k < 15 → parseFieldDescriptor (TX10 k).2.2.1 = some (tyX10 k) := by decide +kernel
abbrev cX10_init : ByteArray := prog_1_method_1_code
def yX10_init : MethodName := ⟨RX10, "<init>", "()V"⟩
abbrev cX10_write : ByteArray := prog_1_method_2_code
def yX10_write : MethodName := ⟨RX10, "write", "(IJ)I"⟩
abbrev cX10_wipe : ByteArray := prog_1_method_3_code
def yX10_wipe : MethodName := ⟨RX10, "wipe", "()I"⟩
abbrev cX10_fault : ByteArray := prog_1_method_4_code
def yX10_fault : MethodName := ⟨RX10, "fault", "()I"⟩
abbrev cX10_lay : ByteArray := prog_1_method_5_code
def yX10_lay : MethodName := ⟨RX10, "lay", "()I"⟩
abbrev cX10_startAnew : ByteArray := prog_1_method_6_code
def yX10_startAnew : MethodName := ⟨RX10, "startAnew", "()V"⟩
abbrev cX10_player : ByteArray := prog_1_method_7_code
def yX10_player : MethodName := ⟨RX10, "player", "(II)I"⟩
abbrev cX10_part : ByteArray := prog_1_method_8_code
def yX10_part : MethodName := ⟨RX10, "part", "(II)I"⟩
abbrev cX10_both : ByteArray := prog_1_method_9_code
def yX10_both : MethodName := ⟨RX10, "both", "(II)I"⟩
abbrev cX10_ways : ByteArray := prog_1_method_10_code
def yX10_ways : MethodName := ⟨RX10, "ways", "(II)J"⟩
abbrev cX10_least : ByteArray := prog_1_method_11_code
def yX10_least : MethodName := ⟨RX10, "least", "(III)I"⟩
abbrev cX10_cuts : ByteArray := prog_1_method_12_code
def yX10_cuts : MethodName := ⟨RX10, "cuts", "(II)I"⟩
abbrev cX10_lines : ByteArray := prog_1_method_13_code
def yX10_lines : MethodName := ⟨RX10, "lines", "(II)I"⟩
abbrev cX10_rehearse : ByteArray := prog_1_method_14_code
def yX10_rehearse : MethodName := ⟨RX10, "rehearse", "(II)I"⟩
abbrev cX10_rehearsals : ByteArray := prog_1_method_15_code
def yX10_rehearsals : MethodName := ⟨RX10, "rehearsals", "(II)I"⟩
abbrev cX10_rest : ByteArray := prog_1_method_16_code
def yX10_rest : MethodName := ⟨RX10, "rest", "(I)I"⟩
abbrev cX10_cold : ByteArray := prog_1_method_17_code
def yX10_cold : MethodName := ⟨RX10, "cold", "(III)I"⟩
abbrev cX10_weak : ByteArray := prog_1_method_18_code
def yX10_weak : MethodName := ⟨RX10, "weak", "(II)I"⟩
abbrev cX10_engaged : ByteArray := prog_1_method_19_code
def yX10_engaged : MethodName := ⟨RX10, "engaged", "(II)I"⟩
abbrev cX10_fewest : ByteArray := prog_1_method_20_code
def yX10_fewest : MethodName := ⟨RX10, "fewest", "()I"⟩
abbrev cX10_night : ByteArray := prog_1_method_21_code
def yX10_night : MethodName := ⟨RX10, "night", "(I)I"⟩
abbrev cX10_owed : ByteArray := prog_1_method_22_code
def yX10_owed : MethodName := ⟨RX10, "owed", "(I)I"⟩
abbrev cX10_told : ByteArray := prog_1_method_23_code
def yX10_told : MethodName := ⟨RX10, "told", "(II)I"⟩
abbrev cX10_wrong : ByteArray := prog_1_method_24_code
def yX10_wrong : MethodName := ⟨RX10, "wrong", "()I"⟩
abbrev cX10_run : ByteArray := prog_1_method_25_code
def yX10_run : MethodName := ⟨RX10, "run", "(III)I"⟩
abbrev cX10_keep : ByteArray := prog_1_method_26_code
def yX10_keep : MethodName := ⟨RX10, "keep", "()I"⟩
abbrev cX10_back : ByteArray := prog_1_method_27_code
def yX10_back : MethodName := ⟨RX10, "back", "()I"⟩
abbrev cX10_count : ByteArray := prog_1_method_28_code
def yX10_count : MethodName := ⟨RX10, "count", "(I)I"⟩
abbrev cX10_has : ByteArray := prog_1_method_29_code
def yX10_has : MethodName := ⟨RX10, "has", "(II)Z"⟩
def RX11 : String := "OnByThursdayModel"
def TX11 : u_T := fun k => match k with
  | 0 => ("OnByThursdayModel", "length", "I", false)
  | 1 => ("OnByThursdayModel", "text", "[I", true)
  | 2 => ("OnByThursdayModel", "playerMany", "[I", true)
  | 3 => ("OnByThursdayModel", "heights", "[I", true)
  | 4 => ("OnByThursdayModel", "skills", "[I", true)
  | 5 => ("OnByThursdayModel", "partMany", "[I", true)
  | 6 => ("OnByThursdayModel", "sizes", "[I", true)
  | 7 => ("OnByThursdayModel", "wants", "[I", true)
  | 8 => ("OnByThursdayModel", "linesOf", "[I", true)
  | 9 => ("OnByThursdayModel", "mayCut", "[I", true)
  | 10 => ("OnByThursdayModel", "owners", "[I", true)
  | 11 => ("OnByThursdayModel", "sceneMany", "[I", true)
  | 12 => ("OnByThursdayModel", "scenes", "[I", true)
  | 13 => ("OnByThursdayModel", "minutes", "[I", true)
  | 14 => ("OnByThursdayModel", "coverMany", "[I", true)
  | 15 => ("OnByThursdayModel", "knows", "[I", true)
  | 16 => ("OnByThursdayModel", "colds", "[I", true)
  | 17 => ("OnByThursdayModel", "numbers", "[I", true)
  | 18 => ("OnByThursdayModel", "said", "[I", true)
  | 19 => ("OnByThursdayModel", "todays", "[I", true)
  | 20 => ("OnByThursdayModel", "oweds", "[I", true)
  | 21 => ("OnByThursdayModel", "tolds", "[I", true)
  | 22 => ("OnByThursdayModel", "keptMany", "I", false)
  | 23 => ("OnByThursdayModel", "place", "I", false)
  | 24 => ("OnByThursdayModel", "told", "[I", true)
  | 25 => ("OnByThursdayModel", "mays", "[I", true)
  | 26 => ("OnByThursdayModel", "withs", "[I", true)
  | 27 => ("OnByThursdayModel", "pile", "[I", true)
  | 28 => ("OnByThursdayModel", "best", "[I", true)
  | 29 => ("OnByThursdayModel", "haves", "[I", true)
  | 30 => ("OnByThursdayModel", "castings", "J", false)
  | 31 => ("OnByThursdayModel", "leastTrouble", "I", false)
  | 32 => ("OnByThursdayModel", "pairMany", "I", false)
  | 33 => ("OnByThursdayModel", "pairs", "[I", true)
  | 34 => ("OnByThursdayModel", "gains", "[I", true)
  | 35 => ("OnByThursdayModel", "spent", "[I", true)
  | 36 => ("OnByThursdayModel", "here", "[I", true)
  | 37 => ("OnByThursdayModel", "next", "[I", true)
  | 38 => ("OnByThursdayModel", "split", "[I", true)
  | 39 => ("OnByThursdayModel", "firstWeak", "I", false)
  | 40 => ("OnByThursdayModel", "oldSaid", "[I", true)
  | _ => ("OnByThursdayModel", "oldOwed", "[I", true)
def tyX11 : Nat → FieldType := fun k => match k with
  | 0 => .int
  | 1 => .array .int
  | 2 => .array .int
  | 3 => .array .int
  | 4 => .array .int
  | 5 => .array .int
  | 6 => .array .int
  | 7 => .array .int
  | 8 => .array .int
  | 9 => .array .int
  | 10 => .array .int
  | 11 => .array .int
  | 12 => .array .int
  | 13 => .array .int
  | 14 => .array .int
  | 15 => .array .int
  | 16 => .array .int
  | 17 => .array .int
  | 18 => .array .int
  | 19 => .array .int
  | 20 => .array .int
  | 21 => .array .int
  | 22 => .int
  | 23 => .int
  | 24 => .array .int
  | 25 => .array .int
  | 26 => .array .int
  | 27 => .array .int
  | 28 => .array .int
  | 29 => .array .int
  | 30 => .long
  | 31 => .int
  | 32 => .int
  | 33 => .array .int
  | 34 => .array .int
  | 35 => .array .int
  | 36 => .array .int
  | 37 => .array .int
  | 38 => .array .int
  | 39 => .int
  | 40 => .array .int
  | _ => .array .int
theorem nmX11 : ∀ a, a < 42 → ∀ b, b < 42 → a ≠ b → (TX11 a).2.1 ≠ (TX11 b).2.1 := by decide +kernel
theorem tyX11_ok : ∀ k, k < 42 → parseFieldDescriptor (TX11 k).2.2.1 = some (tyX11 k) := by decide +kernel
abbrev cX11_init : ByteArray := prog_13_method_1_code
def yX11_init : MethodName := ⟨RX11, "<init>", "()V"⟩
abbrev cX11_in : ByteArray := prog_13_method_2_code
def yX11_in : MethodName := ⟨RX11, "in", "(JJJ)Z"⟩
abbrev cX11_has : ByteArray := prog_13_method_3_code
def yX11_has : MethodName := ⟨RX11, "has", "(II)Z"⟩
abbrev cX11_bits : ByteArray := prog_13_method_4_code
def yX11_bits : MethodName := ⟨RX11, "bits", "(I)I"⟩
abbrev cX11_noCompany : ByteArray := prog_13_method_5_code
def yX11_noCompany : MethodName := ⟨RX11, "noCompany", "(I)V"⟩
abbrev cX11_write : ByteArray := prog_13_method_6_code
def yX11_write : MethodName := ⟨RX11, "write", "(IJ)I"⟩
abbrev cX11_wipe : ByteArray := prog_13_method_7_code
def yX11_wipe : MethodName := ⟨RX11, "wipe", "()I"⟩
abbrev cX11_byteAt : ByteArray := prog_13_method_8_code
def yX11_byteAt : MethodName := ⟨RX11, "byteAt", "(I)I"⟩
abbrev cX11_figures : ByteArray := prog_13_method_9_code
def yX11_figures : MethodName := ⟨RX11, "figures", "(I)Z"⟩
abbrev cX11_playerItem : ByteArray := prog_13_method_10_code
def yX11_playerItem : MethodName := ⟨RX11, "playerItem", "()Z"⟩
abbrev cX11_partItem : ByteArray := prog_13_method_11_code
def yX11_partItem : MethodName := ⟨RX11, "partItem", "()Z"⟩
abbrev cX11_sceneItem : ByteArray := prog_13_method_12_code
def yX11_sceneItem : MethodName := ⟨RX11, "sceneItem", "()Z"⟩
abbrev cX11_isPair : ByteArray := prog_13_method_13_code
def yX11_isPair : MethodName := ⟨RX11, "isPair", "()Z"⟩
abbrev cX11_coldItem : ByteArray := prog_13_method_14_code
def yX11_coldItem : MethodName := ⟨RX11, "coldItem", "()Z"⟩
abbrev cX11_numberItem : ByteArray := prog_13_method_15_code
def yX11_numberItem : MethodName := ⟨RX11, "numberItem", "(II)Z"⟩
abbrev cX11_item : ByteArray := prog_13_method_16_code
def yX11_item : MethodName := ⟨RX11, "item", "()Z"⟩
abbrev cX11_readAll : ByteArray := prog_13_method_17_code
def yX11_readAll : MethodName := ⟨RX11, "readAll", "()I"⟩
abbrev cX11_fault : ByteArray := prog_13_method_18_code
def yX11_fault : MethodName := ⟨RX11, "fault", "()I"⟩
abbrev cX11_lay : ByteArray := prog_13_method_19_code
def yX11_lay : MethodName := ⟨RX11, "lay", "()I"⟩
abbrev cX11_isPlayer : ByteArray := prog_13_method_20_code
def yX11_isPlayer : MethodName := ⟨RX11, "isPlayer", "(I)Z"⟩
abbrev cX11_isPart : ByteArray := prog_13_method_21_code
def yX11_isPart : MethodName := ⟨RX11, "isPart", "(I)Z"⟩
abbrev cX11_mayPlay : ByteArray := prog_13_method_22_code
def yX11_mayPlay : MethodName := ⟨RX11, "mayPlay", "(II)Z"⟩
abbrev cX11_areBoth : ByteArray := prog_13_method_23_code
def yX11_areBoth : MethodName := ⟨RX11, "areBoth", "(II)Z"⟩
abbrev cX11_layRules : ByteArray := prog_13_method_24_code
def yX11_layRules : MethodName := ⟨RX11, "layRules", "()V"⟩
abbrev cX11_layMays : ByteArray := prog_13_method_25_code
def yX11_layMays : MethodName := ⟨RX11, "layMays", "(I)V"⟩
abbrev cX11_player : ByteArray := prog_13_method_26_code
def yX11_player : MethodName := ⟨RX11, "player", "(II)I"⟩
abbrev cX11_part : ByteArray := prog_13_method_27_code
def yX11_part : MethodName := ⟨RX11, "part", "(II)I"⟩
abbrev cX11_both : ByteArray := prog_13_method_28_code
def yX11_both : MethodName := ⟨RX11, "both", "(II)I"⟩
abbrev cX11_kept : ByteArray := prog_13_method_29_code
def yX11_kept : MethodName := ⟨RX11, "kept", "(II)I"⟩
abbrev cX11_trouble : ByteArray := prog_13_method_30_code
def yX11_trouble : MethodName := ⟨RX11, "trouble", "(II)I"⟩
abbrev cX11_nextFor : ByteArray := prog_13_method_31_code
def yX11_nextFor : MethodName := ⟨RX11, "nextFor", "(III)I"⟩
abbrev cX11_pileTrouble : ByteArray := prog_13_method_32_code
def yX11_pileTrouble : MethodName := ⟨RX11, "pileTrouble", "(I)I"⟩
abbrev cX11_cast : ByteArray := prog_13_method_33_code
def yX11_cast : MethodName := ⟨RX11, "cast", "(IIZ)Z"⟩
abbrev cX11_stepBack : ByteArray := prog_13_method_34_code
def yX11_stepBack : MethodName := ⟨RX11, "stepBack", "(II)I"⟩
abbrev cX11_isOff : ByteArray := prog_13_method_35_code
def yX11_isOff : MethodName := ⟨RX11, "isOff", "(I)Z"⟩
abbrev cX11_isCut : ByteArray := prog_13_method_36_code
def yX11_isCut : MethodName := ⟨RX11, "isCut", "(I)Z"⟩
abbrev cX11_ways : ByteArray := prog_13_method_37_code
def yX11_ways : MethodName := ⟨RX11, "ways", "(II)J"⟩
abbrev cX11_least : ByteArray := prog_13_method_38_code
def yX11_least : MethodName := ⟨RX11, "least", "(III)I"⟩
abbrev cX11_linesIn : ByteArray := prog_13_method_39_code
def yX11_linesIn : MethodName := ⟨RX11, "linesIn", "(I)I"⟩
abbrev cX11_cuts : ByteArray := prog_13_method_40_code
def yX11_cuts : MethodName := ⟨RX11, "cuts", "(II)I"⟩
abbrev cX11_lines : ByteArray := prog_13_method_41_code
def yX11_lines : MethodName := ⟨RX11, "lines", "(II)I"⟩
abbrev cX11_hoursOf : ByteArray := prog_13_method_42_code
def yX11_hoursOf : MethodName := ⟨RX11, "hoursOf", "(I)I"⟩
abbrev cX11_rehearse : ByteArray := prog_13_method_43_code
def yX11_rehearse : MethodName := ⟨RX11, "rehearse", "(II)I"⟩
abbrev cX11_layPairs : ByteArray := prog_13_method_44_code
def yX11_layPairs : MethodName := ⟨RX11, "layPairs", "()V"⟩
abbrev cX11_gainOf : ByteArray := prog_13_method_45_code
def yX11_gainOf : MethodName := ⟨RX11, "gainOf", "(I)I"⟩
abbrev cX11_isTaken : ByteArray := prog_13_method_46_code
def yX11_isTaken : MethodName := ⟨RX11, "isTaken", "(II)Z"⟩
abbrev cX11_layRehearsals : ByteArray := prog_13_method_47_code
def yX11_layRehearsals : MethodName := ⟨RX11, "layRehearsals", "()V"⟩
abbrev cX11_rehearsals : ByteArray := prog_13_method_48_code
def yX11_rehearsals : MethodName := ⟨RX11, "rehearsals", "(II)I"⟩
abbrev cX11_rest : ByteArray := prog_13_method_49_code
def yX11_rest : MethodName := ⟨RX11, "rest", "(I)I"⟩
abbrev cX11_wellOf : ByteArray := prog_13_method_50_code
def yX11_wellOf : MethodName := ⟨RX11, "wellOf", "(II)J"⟩
abbrev cX11_partState : ByteArray := prog_13_method_51_code
def yX11_partState : MethodName := ⟨RX11, "partState", "(II)V"⟩
abbrev cX11_layCold : ByteArray := prog_13_method_52_code
def yX11_layCold : MethodName := ⟨RX11, "layCold", "(II)V"⟩
abbrev cX11_cold : ByteArray := prog_13_method_53_code
def yX11_cold : MethodName := ⟨RX11, "cold", "(III)I"⟩
abbrev cX11_weakOf : ByteArray := prog_13_method_54_code
def yX11_weakOf : MethodName := ⟨RX11, "weakOf", "(I)I"⟩
abbrev cX11_weak : ByteArray := prog_13_method_55_code
def yX11_weak : MethodName := ⟨RX11, "weak", "(II)I"⟩
abbrev cX11_isCover : ByteArray := prog_13_method_56_code
def yX11_isCover : MethodName := ⟨RX11, "isCover", "(II)Z"⟩
abbrev cX11_setCover : ByteArray := prog_13_method_57_code
def yX11_setCover : MethodName := ⟨RX11, "setCover", "(IIZ)V"⟩
abbrev cX11_engaged : ByteArray := prog_13_method_58_code
def yX11_engaged : MethodName := ⟨RX11, "engaged", "(II)I"⟩
abbrev cX11_noneWeak : ByteArray := prog_13_method_59_code
def yX11_noneWeak : MethodName := ⟨RX11, "noneWeak", "()Z"⟩
abbrev cX11_fewest : ByteArray := prog_13_method_60_code
def yX11_fewest : MethodName := ⟨RX11, "fewest", "()I"⟩
abbrev cX11_play : ByteArray := prog_13_method_61_code
def yX11_play : MethodName := ⟨RX11, "play", "(I)I"⟩
abbrev cX11_night : ByteArray := prog_13_method_62_code
def yX11_night : MethodName := ⟨RX11, "night", "(I)I"⟩
abbrev cX11_owed : ByteArray := prog_13_method_63_code
def yX11_owed : MethodName := ⟨RX11, "owed", "(I)I"⟩
abbrev cX11_told : ByteArray := prog_13_method_64_code
def yX11_told : MethodName := ⟨RX11, "told", "(II)I"⟩
abbrev cX11_wrong : ByteArray := prog_13_method_65_code
def yX11_wrong : MethodName := ⟨RX11, "wrong", "()I"⟩
abbrev cX11_run : ByteArray := prog_13_method_66_code
def yX11_run : MethodName := ⟨RX11, "run", "(III)I"⟩
abbrev cX11_copy : ByteArray := prog_13_method_67_code
def yX11_copy : MethodName := ⟨RX11, "copy", "(II)V"⟩
abbrev cX11_keep : ByteArray := prog_13_method_68_code
def yX11_keep : MethodName := ⟨RX11, "keep", "()I"⟩
abbrev cX11_back : ByteArray := prog_13_method_69_code
def yX11_back : MethodName := ⟨RX11, "back", "()I"⟩
abbrev cX11_count : ByteArray := prog_13_method_70_code
def yX11_count : MethodName := ⟨RX11, "count", "(I)I"⟩
def RJ6 : String := "java/lang/Integer"
def TJ6 : u_T := fun k => match k with
  | _ => ("", "", "", false)
def tyJ6 : Nat → FieldType := fun k => match k with
  | _ => .int
theorem nmJ6 : ∀ a, a < 0 → ∀ b, b < 0 → a ≠ b → (TJ6 a).2.1 ≠ (TJ6 b).2.1 := by decide +kernel
theorem tyJ6_ok : ∀ k, k < 0 → parseFieldDescriptor (TJ6 k).2.2.1 = some (tyJ6 k) := by decide +kernel
abbrev cJ6_bitCount_0f7a4 : ByteArray := prog_14_method_49_code
def yJ6_bitCount_0f7a4 : MethodName := ⟨RJ6, "bitCount", "(I)I"⟩
def RJ13 : String := "java/lang/Long"
def TJ13 : u_T := fun k => match k with
  | _ => ("", "", "", false)
def tyJ13 : Nat → FieldType := fun k => match k with
  | _ => .int
theorem nmJ13 : ∀ a, a < 0 → ∀ b, b < 0 → a ≠ b → (TJ13 a).2.1 ≠ (TJ13 b).2.1 := by decide +kernel
theorem tyJ13_ok : ∀ k, k < 0 → parseFieldDescriptor (TJ13 k).2.2.1 = some (tyJ13 k) := by decide +kernel
abbrev cJ13_bitCount_95d88 : ByteArray := prog_15_method_50_code
def yJ13_bitCount_95d88 : MethodName := ⟨RJ13, "bitCount", "(J)I"⟩
def RJ9 : String := "java/lang/Math"
def TJ9 : u_T := fun k => match k with
  | _ => ("", "", "", false)
def tyJ9 : Nat → FieldType := fun k => match k with
  | _ => .int
theorem nmJ9 : ∀ a, a < 0 → ∀ b, b < 0 → a ≠ b → (TJ9 a).2.1 ≠ (TJ9 b).2.1 := by decide +kernel
theorem tyJ9_ok : ∀ k, k < 0 → parseFieldDescriptor (TJ9 k).2.2.1 = some (tyJ9 k) := by decide +kernel
abbrev cJ9_abs_0f7a4 : ByteArray := prog_16_method_59_code
def yJ9_abs_0f7a4 : MethodName := ⟨RJ9, "abs", "(I)I"⟩
abbrev cJ9_max_7cf53 : ByteArray := prog_16_method_65_code
def yJ9_max_7cf53 : MethodName := ⟨RJ9, "max", "(II)I"⟩
abbrev cJ9_min_7cf53 : ByteArray := prog_16_method_69_code
def yJ9_min_7cf53 : MethodName := ⟨RJ9, "min", "(II)I"⟩
def RJ10 : String := "java/lang/System"
def TJ10 : u_T := fun k => match k with
  | _ => ("", "", "", false)
def tyJ10 : Nat → FieldType := fun k => match k with
  | _ => .int
theorem nmJ10 : ∀ a, a < 0 → ∀ b, b < 0 → a ≠ b → (TJ10 a).2.1 ≠ (TJ10 b).2.1 := by decide +kernel
theorem tyJ10_ok : ∀ k, k < 0 → parseFieldDescriptor (TJ10 k).2.2.1 = some (tyJ10 k) := by decide +kernel
def RJ7 : String := "java/util/Arrays"
def TJ7 : u_T := fun k => match k with
  | _ => ("", "", "", false)
def tyJ7 : Nat → FieldType := fun k => match k with
  | _ => .int
theorem nmJ7 : ∀ a, a < 0 → ∀ b, b < 0 → a ≠ b → (TJ7 a).2.1 ≠ (TJ7 b).2.1 := by decide +kernel
theorem tyJ7_ok : ∀ k, k < 0 → parseFieldDescriptor (TJ7 k).2.2.1 = some (tyJ7 k) := by decide +kernel
abbrev cJ7_rangeCheck_23922 : ByteArray := prog_18_method_30_code
def yJ7_rangeCheck_23922 : MethodName := ⟨RJ7, "rangeCheck", "(III)V"⟩
abbrev cJ7_fill_53178 : ByteArray := prog_18_method_103_code
def yJ7_fill_53178 : MethodName := ⟨RJ7, "fill", "([II)V"⟩
abbrev cJ7_fill_fda19 : ByteArray := prog_18_method_104_code
def yJ7_fill_fda19 : MethodName := ⟨RJ7, "fill", "([IIII)V"⟩
def RL : String := "OnByThursdayLaw"
abbrev cL_law : ByteArray := code
def yL_law : MethodName := ⟨RL, "law", "([I)Z"⟩
abbrev vwCl : List vw_C := [(RX0, TX0, 4), (RX1, TX1, 3), (RX2, TX2, 9), (RX3, TX3, 19), (RX4, TX4, 3), (RX5, TX5, 4), (RX6, TX6, 2), (RX7, TX7, 7), (RX8, TX8, 9), (RX9, TX9, 10), (RX10, TX10, 15), (RX11, TX11, 42)]
end
section
theorem dX0_init_0 : decode cX0_init 0 = .ok (.aload_n 0, 1) := by decide +kernel
theorem dX0_init_1 : decode cX0_init 1 = .ok (.invokespecial 3, 3) := by decide +kernel
theorem dX0_init_4 : decode cX0_init 4 = .ok (.aload_n 0, 1) := by decide +kernel
theorem dX0_init_5 : decode cX0_init 5 = .ok (.sipush 1024, 3) := by decide +kernel
theorem dX0_init_8 : decode cX0_init 8 = .ok (.newarray .int, 2) := by decide +kernel
theorem dX0_init_10 : decode cX0_init 10 = .ok (.putfield 9, 3) := by decide +kernel
theorem dX0_init_13 : decode cX0_init 13 = .ok (.aload_n 0, 1) := by decide +kernel
theorem dX0_init_14 : decode cX0_init 14 = .ok (.new 15, 3) := by decide +kernel
theorem dX0_init_17 : decode cX0_init 17 = .ok (.dup, 1) := by decide +kernel
theorem dX0_init_18 : decode cX0_init 18 = .ok (.invokespecial 17, 3) := by decide +kernel
theorem dX0_init_21 : decode cX0_init 21 = .ok (.putfield 18, 3) := by decide +kernel
theorem dX0_init_24 : decode cX0_init 24 = .ok (.aload_n 0, 1) := by decide +kernel
theorem dX0_init_25 : decode cX0_init 25 = .ok (.bipush 45, 2) := by decide +kernel
theorem dX0_init_27 : decode cX0_init 27 = .ok (.newarray .int, 2) := by decide +kernel
theorem dX0_init_29 : decode cX0_init 29 = .ok (.putfield 22, 3) := by decide +kernel
theorem dX0_init_32 : decode cX0_init 32 = .ok (.return_, 1) := by decide +kernel
theorem dX0_forget_0 : decode cX0_forget 0 = .ok (.aload_n 0, 1) := by decide +kernel
theorem dX0_forget_1 : decode cX0_forget 1 = .ok (.getfield 9, 3) := by decide +kernel
theorem dX0_forget_4 : decode cX0_forget 4 = .ok (.iconst 0, 1) := by decide +kernel
theorem dX0_forget_5 : decode cX0_forget 5 = .ok (.invokestatic 25, 3) := by decide +kernel
theorem dX0_forget_8 : decode cX0_forget 8 = .ok (.return_, 1) := by decide +kernel
theorem dX0_isMet_0 : decode cX0_isMet 0 = .ok (.aload_n 0, 1) := by decide +kernel
theorem dX0_isMet_1 : decode cX0_isMet 1 = .ok (.getfield 9, 3) := by decide +kernel
theorem dX0_isMet_4 : decode cX0_isMet 4 = .ok (.iload_n 2, 1) := by decide +kernel
theorem dX0_isMet_5 : decode cX0_isMet 5 = .ok (.iaload, 1) := by decide +kernel
theorem dX0_isMet_6 : decode cX0_isMet 6 = .ok (.ifCond .ne 34, 3) := by decide +kernel
theorem dX0_isMet_9 : decode cX0_isMet 9 = .ok (.aload_n 0, 1) := by decide +kernel
theorem dX0_isMet_10 : decode cX0_isMet 10 = .ok (.getfield 18, 3) := by decide +kernel
theorem dX0_isMet_13 : decode cX0_isMet 13 = .ok (.aload_n 1, 1) := by decide +kernel
theorem dX0_isMet_14 : decode cX0_isMet 14 = .ok (.iload_n 2, 1) := by decide +kernel
theorem dX0_isMet_15 : decode cX0_isMet 15 = .ok (.iconst 0, 1) := by decide +kernel
theorem dX0_isMet_16 : decode cX0_isMet 16 = .ok (.invokevirtual 31, 3) := by decide +kernel
theorem dX0_isMet_19 : decode cX0_isMet 19 = .ok (.aload_n 0, 1) := by decide +kernel
theorem dX0_isMet_20 : decode cX0_isMet 20 = .ok (.getfield 9, 3) := by decide +kernel
theorem dX0_isMet_23 : decode cX0_isMet 23 = .ok (.iload_n 2, 1) := by decide +kernel
theorem dX0_isMet_24 : decode cX0_isMet 24 = .ok (.aload_n 0, 1) := by decide +kernel
theorem dX0_isMet_25 : decode cX0_isMet 25 = .ok (.getfield 18, 3) := by decide +kernel
theorem dX0_isMet_28 : decode cX0_isMet 28 = .ok (.invokevirtual 35, 3) := by decide +kernel
theorem dX0_isMet_31 : decode cX0_isMet 31 = .ok (.ifCond .eq 7, 3) := by decide +kernel
theorem dX0_isMet_34 : decode cX0_isMet 34 = .ok (.iconst 1, 1) := by decide +kernel
theorem dX0_isMet_35 : decode cX0_isMet 35 = .ok (.goto 4, 3) := by decide +kernel
theorem dX0_isMet_38 : decode cX0_isMet 38 = .ok (.iconst 2, 1) := by decide +kernel
theorem dX0_isMet_39 : decode cX0_isMet 39 = .ok (.iastore, 1) := by decide +kernel
theorem dX0_isMet_40 : decode cX0_isMet 40 = .ok (.aload_n 0, 1) := by decide +kernel
theorem dX0_isMet_41 : decode cX0_isMet 41 = .ok (.getfield 9, 3) := by decide +kernel
theorem dX0_isMet_44 : decode cX0_isMet 44 = .ok (.iload_n 2, 1) := by decide +kernel
theorem dX0_isMet_45 : decode cX0_isMet 45 = .ok (.iaload, 1) := by decide +kernel
theorem dX0_isMet_46 : decode cX0_isMet 46 = .ok (.iconst 1, 1) := by decide +kernel
theorem dX0_isMet_47 : decode cX0_isMet 47 = .ok (.if_icmp .ne 7, 3) := by decide +kernel
theorem dX0_isMet_50 : decode cX0_isMet 50 = .ok (.iconst 1, 1) := by decide +kernel
theorem dX0_isMet_51 : decode cX0_isMet 51 = .ok (.goto 4, 3) := by decide +kernel
theorem dX0_isMet_54 : decode cX0_isMet 54 = .ok (.iconst 0, 1) := by decide +kernel
theorem dX0_isMet_55 : decode cX0_isMet 55 = .ok (.ireturn, 1) := by decide +kernel
theorem dX0_cheapestCut_0 : decode cX0_cheapestCut 0 = .ok (.bipush (-4), 2) := by decide +kernel
theorem dX0_cheapestCut_2 : decode cX0_cheapestCut 2 = .ok (.istore_n 3, 1) := by decide +kernel
theorem dX0_cheapestCut_3 : decode cX0_cheapestCut 3 = .ok (.iconst 0, 1) := by decide +kernel
theorem dX0_cheapestCut_4 : decode cX0_cheapestCut 4 = .ok (.istore 4, 2) := by decide +kernel
theorem dX0_cheapestCut_6 : decode cX0_cheapestCut 6 = .ok (.iconst 0, 1) := by decide +kernel
theorem dX0_cheapestCut_7 : decode cX0_cheapestCut 7 = .ok (.istore 5, 2) := by decide +kernel
theorem dX0_cheapestCut_9 : decode cX0_cheapestCut 9 = .ok (.iload 5, 2) := by decide +kernel
theorem dX0_cheapestCut_11 : decode cX0_cheapestCut 11 = .ok (.iconst 1, 1) := by decide +kernel
theorem dX0_cheapestCut_12 : decode cX0_cheapestCut 12 = .ok (.aload_n 1, 1) := by decide +kernel
theorem dX0_cheapestCut_13 : decode cX0_cheapestCut 13 = .ok (.getfield 39, 3) := by decide +kernel
theorem dX0_cheapestCut_16 : decode cX0_cheapestCut 16 = .ok (.ishl, 1) := by decide +kernel
theorem dX0_cheapestCut_17 : decode cX0_cheapestCut 17 = .ok (.if_icmp .ge 73, 3) := by decide +kernel
theorem dX0_cheapestCut_20 : decode cX0_cheapestCut 20 = .ok (.iload 5, 2) := by decide +kernel
theorem dX0_cheapestCut_22 : decode cX0_cheapestCut 22 = .ok (.aload_n 1, 1) := by decide +kernel
theorem dX0_cheapestCut_23 : decode cX0_cheapestCut 23 = .ok (.getfield 45, 3) := by decide +kernel
theorem dX0_cheapestCut_26 : decode cX0_cheapestCut 26 = .ok (.iconst (-1), 1) := by decide +kernel
theorem dX0_cheapestCut_27 : decode cX0_cheapestCut 27 = .ok (.ixor, 1) := by decide +kernel
theorem dX0_cheapestCut_28 : decode cX0_cheapestCut 28 = .ok (.iand, 1) := by decide +kernel
theorem dX0_cheapestCut_29 : decode cX0_cheapestCut 29 = .ok (.ifCond .eq 6, 3) := by decide +kernel
theorem dX0_cheapestCut_32 : decode cX0_cheapestCut 32 = .ok (.goto 52, 3) := by decide +kernel
theorem dX0_cheapestCut_35 : decode cX0_cheapestCut 35 = .ok (.aload_n 1, 1) := by decide +kernel
theorem dX0_cheapestCut_36 : decode cX0_cheapestCut 36 = .ok (.iload 5, 2) := by decide +kernel
theorem dX0_cheapestCut_38 : decode cX0_cheapestCut 38 = .ok (.invokevirtual 48, 3) := by decide +kernel
theorem dX0_cheapestCut_41 : decode cX0_cheapestCut 41 = .ok (.istore 6, 2) := by decide +kernel
theorem dX0_cheapestCut_43 : decode cX0_cheapestCut 43 = .ok (.aload_n 0, 1) := by decide +kernel
theorem dX0_cheapestCut_44 : decode cX0_cheapestCut 44 = .ok (.getfield 18, 3) := by decide +kernel
theorem dX0_cheapestCut_47 : decode cX0_cheapestCut 47 = .ok (.aload_n 1, 1) := by decide +kernel
theorem dX0_cheapestCut_48 : decode cX0_cheapestCut 48 = .ok (.iload_n 2, 1) := by decide +kernel
theorem dX0_cheapestCut_49 : decode cX0_cheapestCut 49 = .ok (.iload 5, 2) := by decide +kernel
theorem dX0_cheapestCut_51 : decode cX0_cheapestCut 51 = .ok (.invokevirtual 31, 3) := by decide +kernel
theorem dX0_cheapestCut_54 : decode cX0_cheapestCut 54 = .ok (.iload_n 3, 1) := by decide +kernel
theorem dX0_cheapestCut_55 : decode cX0_cheapestCut 55 = .ok (.bipush (-4), 2) := by decide +kernel
theorem dX0_cheapestCut_57 : decode cX0_cheapestCut 57 = .ok (.if_icmp .eq 10, 3) := by decide +kernel
theorem dX0_cheapestCut_60 : decode cX0_cheapestCut 60 = .ok (.iload 6, 2) := by decide +kernel
theorem dX0_cheapestCut_62 : decode cX0_cheapestCut 62 = .ok (.iload 4, 2) := by decide +kernel
theorem dX0_cheapestCut_64 : decode cX0_cheapestCut 64 = .ok (.if_icmp .ge 20, 3) := by decide +kernel
theorem dX0_cheapestCut_67 : decode cX0_cheapestCut 67 = .ok (.aload_n 0, 1) := by decide +kernel
theorem dX0_cheapestCut_68 : decode cX0_cheapestCut 68 = .ok (.getfield 18, 3) := by decide +kernel
theorem dX0_cheapestCut_71 : decode cX0_cheapestCut 71 = .ok (.invokevirtual 35, 3) := by decide +kernel
theorem dX0_cheapestCut_74 : decode cX0_cheapestCut 74 = .ok (.ifCond .eq 10, 3) := by decide +kernel
theorem dX0_cheapestCut_77 : decode cX0_cheapestCut 77 = .ok (.iload 5, 2) := by decide +kernel
theorem dX0_cheapestCut_79 : decode cX0_cheapestCut 79 = .ok (.istore_n 3, 1) := by decide +kernel
theorem dX0_cheapestCut_80 : decode cX0_cheapestCut 80 = .ok (.iload 6, 2) := by decide +kernel
theorem dX0_cheapestCut_82 : decode cX0_cheapestCut 82 = .ok (.istore 4, 2) := by decide +kernel
theorem dX0_cheapestCut_84 : decode cX0_cheapestCut 84 = .ok (.iinc 5 1, 3) := by decide +kernel
theorem dX0_cheapestCut_87 : decode cX0_cheapestCut 87 = .ok (.goto (-78), 3) := by decide +kernel
theorem dX0_cheapestCut_90 : decode cX0_cheapestCut 90 = .ok (.iload_n 3, 1) := by decide +kernel
theorem dX0_cheapestCut_91 : decode cX0_cheapestCut 91 = .ok (.ireturn, 1) := by decide +kernel
theorem dX0_findWeak_0 : decode cX0_findWeak 0 = .ok (.aload_n 0, 1) := by decide +kernel
theorem dX0_findWeak_1 : decode cX0_findWeak 1 = .ok (.iconst 0, 1) := by decide +kernel
theorem dX0_findWeak_2 : decode cX0_findWeak 2 = .ok (.putfield 52, 3) := by decide +kernel
theorem dX0_findWeak_5 : decode cX0_findWeak 5 = .ok (.iconst 1, 1) := by decide +kernel
theorem dX0_findWeak_6 : decode cX0_findWeak 6 = .ok (.istore_n 3, 1) := by decide +kernel
theorem dX0_findWeak_7 : decode cX0_findWeak 7 = .ok (.iload_n 3, 1) := by decide +kernel
theorem dX0_findWeak_8 : decode cX0_findWeak 8 = .ok (.iconst 1, 1) := by decide +kernel
theorem dX0_findWeak_9 : decode cX0_findWeak 9 = .ok (.aload_n 1, 1) := by decide +kernel
theorem dX0_findWeak_10 : decode cX0_findWeak 10 = .ok (.getfield 55, 3) := by decide +kernel
theorem dX0_findWeak_13 : decode cX0_findWeak 13 = .ok (.ishl, 1) := by decide +kernel
theorem dX0_findWeak_14 : decode cX0_findWeak 14 = .ok (.if_icmp .ge 46, 3) := by decide +kernel
theorem dX0_findWeak_17 : decode cX0_findWeak 17 = .ok (.iload_n 3, 1) := by decide +kernel
theorem dX0_findWeak_18 : decode cX0_findWeak 18 = .ok (.invokestatic 58, 3) := by decide +kernel
theorem dX0_findWeak_21 : decode cX0_findWeak 21 = .ok (.iload_n 2, 1) := by decide +kernel
theorem dX0_findWeak_22 : decode cX0_findWeak 22 = .ok (.if_icmp .ne 32, 3) := by decide +kernel
theorem dX0_findWeak_25 : decode cX0_findWeak 25 = .ok (.aload_n 0, 1) := by decide +kernel
theorem dX0_findWeak_26 : decode cX0_findWeak 26 = .ok (.aload_n 1, 1) := by decide +kernel
theorem dX0_findWeak_27 : decode cX0_findWeak 27 = .ok (.iload_n 3, 1) := by decide +kernel
theorem dX0_findWeak_28 : decode cX0_findWeak 28 = .ok (.invokevirtual 63, 3) := by decide +kernel
theorem dX0_findWeak_31 : decode cX0_findWeak 31 = .ok (.ifCond .ne 23, 3) := by decide +kernel
theorem dX0_findWeak_34 : decode cX0_findWeak 34 = .ok (.aload_n 0, 1) := by decide +kernel
theorem dX0_findWeak_35 : decode cX0_findWeak 35 = .ok (.getfield 22, 3) := by decide +kernel
theorem dX0_findWeak_38 : decode cX0_findWeak 38 = .ok (.aload_n 0, 1) := by decide +kernel
theorem dX0_findWeak_39 : decode cX0_findWeak 39 = .ok (.getfield 52, 3) := by decide +kernel
theorem dX0_findWeak_42 : decode cX0_findWeak 42 = .ok (.iload_n 3, 1) := by decide +kernel
theorem dX0_findWeak_43 : decode cX0_findWeak 43 = .ok (.iastore, 1) := by decide +kernel
theorem dX0_findWeak_44 : decode cX0_findWeak 44 = .ok (.aload_n 0, 1) := by decide +kernel
theorem dX0_findWeak_45 : decode cX0_findWeak 45 = .ok (.dup, 1) := by decide +kernel
theorem dX0_findWeak_46 : decode cX0_findWeak 46 = .ok (.getfield 52, 3) := by decide +kernel
theorem dX0_findWeak_49 : decode cX0_findWeak 49 = .ok (.iconst 1, 1) := by decide +kernel
theorem dX0_findWeak_50 : decode cX0_findWeak 50 = .ok (.iadd, 1) := by decide +kernel
theorem dX0_findWeak_51 : decode cX0_findWeak 51 = .ok (.putfield 52, 3) := by decide +kernel
theorem dX0_findWeak_54 : decode cX0_findWeak 54 = .ok (.iinc 3 1, 3) := by decide +kernel
theorem dX0_findWeak_57 : decode cX0_findWeak 57 = .ok (.goto (-50), 3) := by decide +kernel
theorem dX0_findWeak_60 : decode cX0_findWeak 60 = .ok (.return_, 1) := by decide +kernel
theorem dX1_init_0 : decode cX1_init 0 = .ok (.aload_n 0, 1) := by decide +kernel
theorem dX1_init_1 : decode cX1_init 1 = .ok (.invokespecial 3, 3) := by decide +kernel
theorem dX1_init_4 : decode cX1_init 4 = .ok (.aload_n 0, 1) := by decide +kernel
theorem dX1_init_5 : decode cX1_init 5 = .ok (.bipush 72, 2) := by decide +kernel
theorem dX1_init_7 : decode cX1_init 7 = .ok (.newarray .int, 2) := by decide +kernel
theorem dX1_init_9 : decode cX1_init 9 = .ok (.putfield 9, 3) := by decide +kernel
theorem dX1_init_12 : decode cX1_init 12 = .ok (.return_, 1) := by decide +kernel
theorem dX1_begin_0 : decode cX1_begin 0 = .ok (.aload_n 0, 1) := by decide +kernel
theorem dX1_begin_1 : decode cX1_begin 1 = .ok (.aload_n 1, 1) := by decide +kernel
theorem dX1_begin_2 : decode cX1_begin 2 = .ok (.putfield 15, 3) := by decide +kernel
theorem dX1_begin_5 : decode cX1_begin 5 = .ok (.aload_n 0, 1) := by decide +kernel
theorem dX1_begin_6 : decode cX1_begin 6 = .ok (.iconst 1, 1) := by decide +kernel
theorem dX1_begin_7 : decode cX1_begin 7 = .ok (.aload_n 0, 1) := by decide +kernel
theorem dX1_begin_8 : decode cX1_begin 8 = .ok (.getfield 15, 3) := by decide +kernel
theorem dX1_begin_11 : decode cX1_begin 11 = .ok (.getfield 19, 3) := by decide +kernel
theorem dX1_begin_14 : decode cX1_begin 14 = .ok (.ishl, 1) := by decide +kernel
theorem dX1_begin_15 : decode cX1_begin 15 = .ok (.iconst 1, 1) := by decide +kernel
theorem dX1_begin_16 : decode cX1_begin 16 = .ok (.isub, 1) := by decide +kernel
theorem dX1_begin_17 : decode cX1_begin 17 = .ok (.iload_n 3, 1) := by decide +kernel
theorem dX1_begin_18 : decode cX1_begin 18 = .ok (.iconst (-1), 1) := by decide +kernel
theorem dX1_begin_19 : decode cX1_begin 19 = .ok (.ixor, 1) := by decide +kernel
theorem dX1_begin_20 : decode cX1_begin 20 = .ok (.iand, 1) := by decide +kernel
theorem dX1_begin_21 : decode cX1_begin 21 = .ok (.putfield 25, 3) := by decide +kernel
theorem dX1_begin_24 : decode cX1_begin 24 = .ok (.iconst 0, 1) := by decide +kernel
theorem dX1_begin_25 : decode cX1_begin 25 = .ok (.istore 4, 2) := by decide +kernel
theorem dX1_begin_27 : decode cX1_begin 27 = .ok (.iload 4, 2) := by decide +kernel
theorem dX1_begin_29 : decode cX1_begin 29 = .ok (.aload_n 0, 1) := by decide +kernel
theorem dX1_begin_30 : decode cX1_begin 30 = .ok (.getfield 15, 3) := by decide +kernel
theorem dX1_begin_33 : decode cX1_begin 33 = .ok (.getfield 19, 3) := by decide +kernel
theorem dX1_begin_36 : decode cX1_begin 36 = .ok (.if_icmp .ge 30, 3) := by decide +kernel
theorem dX1_begin_39 : decode cX1_begin 39 = .ok (.aload_n 0, 1) := by decide +kernel
theorem dX1_begin_40 : decode cX1_begin 40 = .ok (.getfield 9, 3) := by decide +kernel
theorem dX1_begin_43 : decode cX1_begin 43 = .ok (.iload 4, 2) := by decide +kernel
theorem dX1_begin_45 : decode cX1_begin 45 = .ok (.aload_n 0, 1) := by decide +kernel
theorem dX1_begin_46 : decode cX1_begin 46 = .ok (.getfield 15, 3) := by decide +kernel
theorem dX1_begin_49 : decode cX1_begin 49 = .ok (.getfield 28, 3) := by decide +kernel
theorem dX1_begin_52 : decode cX1_begin 52 = .ok (.iload 4, 2) := by decide +kernel
theorem dX1_begin_54 : decode cX1_begin 54 = .ok (.iaload, 1) := by decide +kernel
theorem dX1_begin_55 : decode cX1_begin 55 = .ok (.iload_n 2, 1) := by decide +kernel
theorem dX1_begin_56 : decode cX1_begin 56 = .ok (.iconst (-1), 1) := by decide +kernel
theorem dX1_begin_57 : decode cX1_begin 57 = .ok (.ixor, 1) := by decide +kernel
theorem dX1_begin_58 : decode cX1_begin 58 = .ok (.iand, 1) := by decide +kernel
theorem dX1_begin_59 : decode cX1_begin 59 = .ok (.iastore, 1) := by decide +kernel
theorem dX1_begin_60 : decode cX1_begin 60 = .ok (.iinc 4 1, 3) := by decide +kernel
theorem dX1_begin_63 : decode cX1_begin 63 = .ok (.goto (-36), 3) := by decide +kernel
theorem dX1_begin_66 : decode cX1_begin 66 = .ok (.return_, 1) := by decide +kernel
theorem dX1_give_0 : decode cX1_give 0 = .ok (.aload_n 0, 1) := by decide +kernel
theorem dX1_give_1 : decode cX1_give 1 = .ok (.dup, 1) := by decide +kernel
theorem dX1_give_2 : decode cX1_give 2 = .ok (.getfield 25, 3) := by decide +kernel
theorem dX1_give_5 : decode cX1_give 5 = .ok (.iconst 1, 1) := by decide +kernel
theorem dX1_give_6 : decode cX1_give 6 = .ok (.iload_n 2, 1) := by decide +kernel
theorem dX1_give_7 : decode cX1_give 7 = .ok (.ishl, 1) := by decide +kernel
theorem dX1_give_8 : decode cX1_give 8 = .ok (.iconst (-1), 1) := by decide +kernel
theorem dX1_give_9 : decode cX1_give 9 = .ok (.ixor, 1) := by decide +kernel
theorem dX1_give_10 : decode cX1_give 10 = .ok (.iand, 1) := by decide +kernel
theorem dX1_give_11 : decode cX1_give 11 = .ok (.putfield 25, 3) := by decide +kernel
theorem dX1_give_14 : decode cX1_give 14 = .ok (.iconst 0, 1) := by decide +kernel
theorem dX1_give_15 : decode cX1_give 15 = .ok (.istore_n 3, 1) := by decide +kernel
theorem dX1_give_16 : decode cX1_give 16 = .ok (.iload_n 3, 1) := by decide +kernel
theorem dX1_give_17 : decode cX1_give 17 = .ok (.aload_n 0, 1) := by decide +kernel
theorem dX1_give_18 : decode cX1_give 18 = .ok (.getfield 15, 3) := by decide +kernel
theorem dX1_give_21 : decode cX1_give 21 = .ok (.getfield 19, 3) := by decide +kernel
theorem dX1_give_24 : decode cX1_give 24 = .ok (.if_icmp .ge 39, 3) := by decide +kernel
theorem dX1_give_27 : decode cX1_give 27 = .ok (.aload_n 0, 1) := by decide +kernel
theorem dX1_give_28 : decode cX1_give 28 = .ok (.getfield 15, 3) := by decide +kernel
theorem dX1_give_31 : decode cX1_give 31 = .ok (.getfield 31, 3) := by decide +kernel
theorem dX1_give_34 : decode cX1_give 34 = .ok (.iload_n 2, 1) := by decide +kernel
theorem dX1_give_35 : decode cX1_give 35 = .ok (.iaload, 1) := by decide +kernel
theorem dX1_give_36 : decode cX1_give 36 = .ok (.iload_n 3, 1) := by decide +kernel
theorem dX1_give_37 : decode cX1_give 37 = .ok (.invokestatic 34, 3) := by decide +kernel
theorem dX1_give_40 : decode cX1_give 40 = .ok (.ifCond .eq 17, 3) := by decide +kernel
theorem dX1_give_43 : decode cX1_give 43 = .ok (.aload_n 0, 1) := by decide +kernel
theorem dX1_give_44 : decode cX1_give 44 = .ok (.getfield 9, 3) := by decide +kernel
theorem dX1_give_47 : decode cX1_give 47 = .ok (.iload_n 3, 1) := by decide +kernel
theorem dX1_give_48 : decode cX1_give 48 = .ok (.dup2, 1) := by decide +kernel
theorem dX1_give_49 : decode cX1_give 49 = .ok (.iaload, 1) := by decide +kernel
theorem dX1_give_50 : decode cX1_give 50 = .ok (.iconst 1, 1) := by decide +kernel
theorem dX1_give_51 : decode cX1_give 51 = .ok (.iload_n 1, 1) := by decide +kernel
theorem dX1_give_52 : decode cX1_give 52 = .ok (.ishl, 1) := by decide +kernel
theorem dX1_give_53 : decode cX1_give 53 = .ok (.iconst (-1), 1) := by decide +kernel
theorem dX1_give_54 : decode cX1_give 54 = .ok (.ixor, 1) := by decide +kernel
theorem dX1_give_55 : decode cX1_give 55 = .ok (.iand, 1) := by decide +kernel
theorem dX1_give_56 : decode cX1_give 56 = .ok (.iastore, 1) := by decide +kernel
theorem dX1_give_57 : decode cX1_give 57 = .ok (.iinc 3 1, 3) := by decide +kernel
theorem dX1_give_60 : decode cX1_give 60 = .ok (.goto (-44), 3) := by decide +kernel
theorem dX1_give_63 : decode cX1_give 63 = .ok (.return_, 1) := by decide +kernel
theorem dX1_succeeds_0 : decode cX1_succeeds 0 = .ok (.aload_n 0, 1) := by decide +kernel
theorem dX1_succeeds_1 : decode cX1_succeeds 1 = .ok (.aload_n 0, 1) := by decide +kernel
theorem dX1_succeeds_2 : decode cX1_succeeds 2 = .ok (.getfield 25, 3) := by decide +kernel
theorem dX1_succeeds_5 : decode cX1_succeeds 5 = .ok (.iconst 0, 1) := by decide +kernel
theorem dX1_succeeds_6 : decode cX1_succeeds 6 = .ok (.invokestatic 38, 3) := by decide +kernel
theorem dX1_succeeds_9 : decode cX1_succeeds 9 = .ok (.ireturn, 1) := by decide +kernel
theorem dX1_canFill_0 : decode cX1_canFill 0 = .ok (.iload_n 1, 1) := by decide +kernel
theorem dX1_canFill_1 : decode cX1_canFill 1 = .ok (.ifCond .ne 5, 3) := by decide +kernel
theorem dX1_canFill_4 : decode cX1_canFill 4 = .ok (.iconst 1, 1) := by decide +kernel
theorem dX1_canFill_5 : decode cX1_canFill 5 = .ok (.ireturn, 1) := by decide +kernel
theorem dX1_canFill_6 : decode cX1_canFill 6 = .ok (.iload_n 2, 1) := by decide +kernel
theorem dX1_canFill_7 : decode cX1_canFill 7 = .ok (.bipush 8, 2) := by decide +kernel
theorem dX1_canFill_9 : decode cX1_canFill 9 = .ok (.if_icmp .lt 5, 3) := by decide +kernel
theorem dX1_canFill_12 : decode cX1_canFill 12 = .ok (.iconst 0, 1) := by decide +kernel
theorem dX1_canFill_13 : decode cX1_canFill 13 = .ok (.ireturn, 1) := by decide +kernel
theorem dX1_canFill_14 : decode cX1_canFill 14 = .ok (.iload_n 2, 1) := by decide +kernel
theorem dX1_canFill_15 : decode cX1_canFill 15 = .ok (.bipush 8, 2) := by decide +kernel
theorem dX1_canFill_17 : decode cX1_canFill 17 = .ok (.imul, 1) := by decide +kernel
theorem dX1_canFill_18 : decode cX1_canFill 18 = .ok (.istore_n 3, 1) := by decide +kernel
theorem dX1_canFill_19 : decode cX1_canFill 19 = .ok (.aload_n 0, 1) := by decide +kernel
theorem dX1_canFill_20 : decode cX1_canFill 20 = .ok (.iload_n 1, 1) := by decide +kernel
theorem dX1_canFill_21 : decode cX1_canFill 21 = .ok (.iload_n 3, 1) := by decide +kernel
theorem dX1_canFill_22 : decode cX1_canFill 22 = .ok (.invokevirtual 42, 3) := by decide +kernel
theorem dX1_canFill_25 : decode cX1_canFill 25 = .ok (.istore 4, 2) := by decide +kernel
theorem dX1_canFill_27 : decode cX1_canFill 27 = .ok (.iload_n 1, 1) := by decide +kernel
theorem dX1_canFill_28 : decode cX1_canFill 28 = .ok (.iconst 1, 1) := by decide +kernel
theorem dX1_canFill_29 : decode cX1_canFill 29 = .ok (.iload 4, 2) := by decide +kernel
theorem dX1_canFill_31 : decode cX1_canFill 31 = .ok (.ishl, 1) := by decide +kernel
theorem dX1_canFill_32 : decode cX1_canFill 32 = .ok (.iconst (-1), 1) := by decide +kernel
theorem dX1_canFill_33 : decode cX1_canFill 33 = .ok (.ixor, 1) := by decide +kernel
theorem dX1_canFill_34 : decode cX1_canFill 34 = .ok (.iand, 1) := by decide +kernel
theorem dX1_canFill_35 : decode cX1_canFill 35 = .ok (.istore 5, 2) := by decide +kernel
theorem dX1_canFill_37 : decode cX1_canFill 37 = .ok (.iconst 0, 1) := by decide +kernel
theorem dX1_canFill_38 : decode cX1_canFill 38 = .ok (.istore 6, 2) := by decide +kernel
theorem dX1_canFill_40 : decode cX1_canFill 40 = .ok (.iload 6, 2) := by decide +kernel
theorem dX1_canFill_42 : decode cX1_canFill 42 = .ok (.aload_n 0, 1) := by decide +kernel
theorem dX1_canFill_43 : decode cX1_canFill 43 = .ok (.getfield 15, 3) := by decide +kernel
theorem dX1_canFill_46 : decode cX1_canFill 46 = .ok (.getfield 46, 3) := by decide +kernel
theorem dX1_canFill_49 : decode cX1_canFill 49 = .ok (.if_icmp .ge 54, 3) := by decide +kernel
theorem dX1_canFill_52 : decode cX1_canFill 52 = .ok (.aload_n 0, 1) := by decide +kernel
theorem dX1_canFill_53 : decode cX1_canFill 53 = .ok (.getfield 9, 3) := by decide +kernel
theorem dX1_canFill_56 : decode cX1_canFill 56 = .ok (.iload_n 3, 1) := by decide +kernel
theorem dX1_canFill_57 : decode cX1_canFill 57 = .ok (.iload 4, 2) := by decide +kernel
theorem dX1_canFill_59 : decode cX1_canFill 59 = .ok (.iadd, 1) := by decide +kernel
theorem dX1_canFill_60 : decode cX1_canFill 60 = .ok (.iaload, 1) := by decide +kernel
theorem dX1_canFill_61 : decode cX1_canFill 61 = .ok (.iload 6, 2) := by decide +kernel
theorem dX1_canFill_63 : decode cX1_canFill 63 = .ok (.invokestatic 34, 3) := by decide +kernel
theorem dX1_canFill_66 : decode cX1_canFill 66 = .ok (.ifCond .eq 31, 3) := by decide +kernel
theorem dX1_canFill_69 : decode cX1_canFill 69 = .ok (.aload_n 0, 1) := by decide +kernel
theorem dX1_canFill_70 : decode cX1_canFill 70 = .ok (.iload 5, 2) := by decide +kernel
theorem dX1_canFill_72 : decode cX1_canFill 72 = .ok (.iload_n 3, 1) := by decide +kernel
theorem dX1_canFill_73 : decode cX1_canFill 73 = .ok (.iload 6, 2) := by decide +kernel
theorem dX1_canFill_75 : decode cX1_canFill 75 = .ok (.iload 4, 2) := by decide +kernel
theorem dX1_canFill_77 : decode cX1_canFill 77 = .ok (.invokevirtual 49, 3) := by decide +kernel
theorem dX1_canFill_80 : decode cX1_canFill 80 = .ok (.ifCond .eq 17, 3) := by decide +kernel
theorem dX1_canFill_83 : decode cX1_canFill 83 = .ok (.aload_n 0, 1) := by decide +kernel
theorem dX1_canFill_84 : decode cX1_canFill 84 = .ok (.iload 5, 2) := by decide +kernel
theorem dX1_canFill_86 : decode cX1_canFill 86 = .ok (.iload_n 2, 1) := by decide +kernel
theorem dX1_canFill_87 : decode cX1_canFill 87 = .ok (.iconst 1, 1) := by decide +kernel
theorem dX1_canFill_88 : decode cX1_canFill 88 = .ok (.iadd, 1) := by decide +kernel
theorem dX1_canFill_89 : decode cX1_canFill 89 = .ok (.invokestatic 38, 3) := by decide +kernel
theorem dX1_canFill_92 : decode cX1_canFill 92 = .ok (.ifCond .eq 5, 3) := by decide +kernel
theorem dX1_canFill_95 : decode cX1_canFill 95 = .ok (.iconst 1, 1) := by decide +kernel
theorem dX1_canFill_96 : decode cX1_canFill 96 = .ok (.ireturn, 1) := by decide +kernel
theorem dX1_canFill_97 : decode cX1_canFill 97 = .ok (.iinc 6 1, 3) := by decide +kernel
theorem dX1_canFill_100 : decode cX1_canFill 100 = .ok (.goto (-60), 3) := by decide +kernel
theorem dX1_canFill_103 : decode cX1_canFill 103 = .ok (.iconst 0, 1) := by decide +kernel
theorem dX1_canFill_104 : decode cX1_canFill 104 = .ok (.ireturn, 1) := by decide +kernel
theorem dX1_scarcest_0 : decode cX1_scarcest 0 = .ok (.iconst 0, 1) := by decide +kernel
theorem dX1_scarcest_1 : decode cX1_scarcest 1 = .ok (.istore_n 3, 1) := by decide +kernel
theorem dX1_scarcest_2 : decode cX1_scarcest 2 = .ok (.bipush 11, 2) := by decide +kernel
theorem dX1_scarcest_4 : decode cX1_scarcest 4 = .ok (.istore 4, 2) := by decide +kernel
theorem dX1_scarcest_6 : decode cX1_scarcest 6 = .ok (.iconst 0, 1) := by decide +kernel
theorem dX1_scarcest_7 : decode cX1_scarcest 7 = .ok (.istore 5, 2) := by decide +kernel
theorem dX1_scarcest_9 : decode cX1_scarcest 9 = .ok (.iload 5, 2) := by decide +kernel
theorem dX1_scarcest_11 : decode cX1_scarcest 11 = .ok (.aload_n 0, 1) := by decide +kernel
theorem dX1_scarcest_12 : decode cX1_scarcest 12 = .ok (.getfield 15, 3) := by decide +kernel
theorem dX1_scarcest_15 : decode cX1_scarcest 15 = .ok (.getfield 19, 3) := by decide +kernel
theorem dX1_scarcest_18 : decode cX1_scarcest 18 = .ok (.if_icmp .ge 52, 3) := by decide +kernel
theorem dX1_scarcest_21 : decode cX1_scarcest 21 = .ok (.iload 4, 2) := by decide +kernel
theorem dX1_scarcest_23 : decode cX1_scarcest 23 = .ok (.iconst 1, 1) := by decide +kernel
theorem dX1_scarcest_24 : decode cX1_scarcest 24 = .ok (.if_icmp .le 46, 3) := by decide +kernel
theorem dX1_scarcest_27 : decode cX1_scarcest 27 = .ok (.aload_n 0, 1) := by decide +kernel
theorem dX1_scarcest_28 : decode cX1_scarcest 28 = .ok (.getfield 9, 3) := by decide +kernel
theorem dX1_scarcest_31 : decode cX1_scarcest 31 = .ok (.iload_n 2, 1) := by decide +kernel
theorem dX1_scarcest_32 : decode cX1_scarcest 32 = .ok (.iload 5, 2) := by decide +kernel
theorem dX1_scarcest_34 : decode cX1_scarcest 34 = .ok (.iadd, 1) := by decide +kernel
theorem dX1_scarcest_35 : decode cX1_scarcest 35 = .ok (.iaload, 1) := by decide +kernel
theorem dX1_scarcest_36 : decode cX1_scarcest 36 = .ok (.invokestatic 53, 3) := by decide +kernel
theorem dX1_scarcest_39 : decode cX1_scarcest 39 = .ok (.istore 6, 2) := by decide +kernel
theorem dX1_scarcest_41 : decode cX1_scarcest 41 = .ok (.iload_n 1, 1) := by decide +kernel
theorem dX1_scarcest_42 : decode cX1_scarcest 42 = .ok (.iload 5, 2) := by decide +kernel
theorem dX1_scarcest_44 : decode cX1_scarcest 44 = .ok (.invokestatic 34, 3) := by decide +kernel
theorem dX1_scarcest_47 : decode cX1_scarcest 47 = .ok (.ifCond .eq 17, 3) := by decide +kernel
theorem dX1_scarcest_50 : decode cX1_scarcest 50 = .ok (.iload 6, 2) := by decide +kernel
theorem dX1_scarcest_52 : decode cX1_scarcest 52 = .ok (.iload 4, 2) := by decide +kernel
theorem dX1_scarcest_54 : decode cX1_scarcest 54 = .ok (.if_icmp .ge 10, 3) := by decide +kernel
theorem dX1_scarcest_57 : decode cX1_scarcest 57 = .ok (.iload 6, 2) := by decide +kernel
theorem dX1_scarcest_59 : decode cX1_scarcest 59 = .ok (.istore 4, 2) := by decide +kernel
theorem dX1_scarcest_61 : decode cX1_scarcest 61 = .ok (.iload 5, 2) := by decide +kernel
theorem dX1_scarcest_63 : decode cX1_scarcest 63 = .ok (.istore_n 3, 1) := by decide +kernel
theorem dX1_scarcest_64 : decode cX1_scarcest 64 = .ok (.iinc 5 1, 3) := by decide +kernel
theorem dX1_scarcest_67 : decode cX1_scarcest 67 = .ok (.goto (-58), 3) := by decide +kernel
theorem dX1_scarcest_70 : decode cX1_scarcest 70 = .ok (.iload_n 3, 1) := by decide +kernel
theorem dX1_scarcest_71 : decode cX1_scarcest 71 = .ok (.ireturn, 1) := by decide +kernel
theorem dX1_strike_0 : decode cX1_strike 0 = .ok (.aload_n 0, 1) := by decide +kernel
theorem dX1_strike_1 : decode cX1_strike 1 = .ok (.getfield 15, 3) := by decide +kernel
theorem dX1_strike_4 : decode cX1_strike 4 = .ok (.getfield 31, 3) := by decide +kernel
theorem dX1_strike_7 : decode cX1_strike 7 = .ok (.iload 4, 2) := by decide +kernel
theorem dX1_strike_9 : decode cX1_strike 9 = .ok (.iaload, 1) := by decide +kernel
theorem dX1_strike_10 : decode cX1_strike 10 = .ok (.istore 5, 2) := by decide +kernel
theorem dX1_strike_12 : decode cX1_strike 12 = .ok (.iconst 0, 1) := by decide +kernel
theorem dX1_strike_13 : decode cX1_strike 13 = .ok (.istore 6, 2) := by decide +kernel
theorem dX1_strike_15 : decode cX1_strike 15 = .ok (.iload 6, 2) := by decide +kernel
theorem dX1_strike_17 : decode cX1_strike 17 = .ok (.aload_n 0, 1) := by decide +kernel
theorem dX1_strike_18 : decode cX1_strike 18 = .ok (.getfield 15, 3) := by decide +kernel
theorem dX1_strike_21 : decode cX1_strike 21 = .ok (.getfield 19, 3) := by decide +kernel
theorem dX1_strike_24 : decode cX1_strike 24 = .ok (.if_icmp .ge 78, 3) := by decide +kernel
theorem dX1_strike_27 : decode cX1_strike 27 = .ok (.iload_n 1, 1) := by decide +kernel
theorem dX1_strike_28 : decode cX1_strike 28 = .ok (.iload 6, 2) := by decide +kernel
theorem dX1_strike_30 : decode cX1_strike 30 = .ok (.invokestatic 34, 3) := by decide +kernel
theorem dX1_strike_33 : decode cX1_strike 33 = .ok (.ifCond .eq 63, 3) := by decide +kernel
theorem dX1_strike_36 : decode cX1_strike 36 = .ok (.iload 5, 2) := by decide +kernel
theorem dX1_strike_38 : decode cX1_strike 38 = .ok (.iload 6, 2) := by decide +kernel
theorem dX1_strike_40 : decode cX1_strike 40 = .ok (.invokestatic 34, 3) := by decide +kernel
theorem dX1_strike_43 : decode cX1_strike 43 = .ok (.ifCond .eq 21, 3) := by decide +kernel
theorem dX1_strike_46 : decode cX1_strike 46 = .ok (.aload_n 0, 1) := by decide +kernel
theorem dX1_strike_47 : decode cX1_strike 47 = .ok (.getfield 9, 3) := by decide +kernel
theorem dX1_strike_50 : decode cX1_strike 50 = .ok (.iload_n 2, 1) := by decide +kernel
theorem dX1_strike_51 : decode cX1_strike 51 = .ok (.iload 6, 2) := by decide +kernel
theorem dX1_strike_53 : decode cX1_strike 53 = .ok (.iadd, 1) := by decide +kernel
theorem dX1_strike_54 : decode cX1_strike 54 = .ok (.iaload, 1) := by decide +kernel
theorem dX1_strike_55 : decode cX1_strike 55 = .ok (.iconst 1, 1) := by decide +kernel
theorem dX1_strike_56 : decode cX1_strike 56 = .ok (.iload_n 3, 1) := by decide +kernel
theorem dX1_strike_57 : decode cX1_strike 57 = .ok (.ishl, 1) := by decide +kernel
theorem dX1_strike_58 : decode cX1_strike 58 = .ok (.iconst (-1), 1) := by decide +kernel
theorem dX1_strike_59 : decode cX1_strike 59 = .ok (.ixor, 1) := by decide +kernel
theorem dX1_strike_60 : decode cX1_strike 60 = .ok (.iand, 1) := by decide +kernel
theorem dX1_strike_61 : decode cX1_strike 61 = .ok (.goto 12, 3) := by decide +kernel
theorem dX1_strike_64 : decode cX1_strike 64 = .ok (.aload_n 0, 1) := by decide +kernel
theorem dX1_strike_65 : decode cX1_strike 65 = .ok (.getfield 9, 3) := by decide +kernel
theorem dX1_strike_68 : decode cX1_strike 68 = .ok (.iload_n 2, 1) := by decide +kernel
theorem dX1_strike_69 : decode cX1_strike 69 = .ok (.iload 6, 2) := by decide +kernel
theorem dX1_strike_71 : decode cX1_strike 71 = .ok (.iadd, 1) := by decide +kernel
theorem dX1_strike_72 : decode cX1_strike 72 = .ok (.iaload, 1) := by decide +kernel
theorem dX1_strike_73 : decode cX1_strike 73 = .ok (.istore 7, 2) := by decide +kernel
theorem dX1_strike_75 : decode cX1_strike 75 = .ok (.iload 7, 2) := by decide +kernel
theorem dX1_strike_77 : decode cX1_strike 77 = .ok (.ifCond .ne 5, 3) := by decide +kernel
theorem dX1_strike_80 : decode cX1_strike 80 = .ok (.iconst 0, 1) := by decide +kernel
theorem dX1_strike_81 : decode cX1_strike 81 = .ok (.ireturn, 1) := by decide +kernel
theorem dX1_strike_82 : decode cX1_strike 82 = .ok (.aload_n 0, 1) := by decide +kernel
theorem dX1_strike_83 : decode cX1_strike 83 = .ok (.getfield 9, 3) := by decide +kernel
theorem dX1_strike_86 : decode cX1_strike 86 = .ok (.iload_n 2, 1) := by decide +kernel
theorem dX1_strike_87 : decode cX1_strike 87 = .ok (.bipush 8, 2) := by decide +kernel
theorem dX1_strike_89 : decode cX1_strike 89 = .ok (.iadd, 1) := by decide +kernel
theorem dX1_strike_90 : decode cX1_strike 90 = .ok (.iload 6, 2) := by decide +kernel
theorem dX1_strike_92 : decode cX1_strike 92 = .ok (.iadd, 1) := by decide +kernel
theorem dX1_strike_93 : decode cX1_strike 93 = .ok (.iload 7, 2) := by decide +kernel
theorem dX1_strike_95 : decode cX1_strike 95 = .ok (.iastore, 1) := by decide +kernel
theorem dX1_strike_96 : decode cX1_strike 96 = .ok (.iinc 6 1, 3) := by decide +kernel
theorem dX1_strike_99 : decode cX1_strike 99 = .ok (.goto (-84), 3) := by decide +kernel
theorem dX1_strike_102 : decode cX1_strike 102 = .ok (.iconst 1, 1) := by decide +kernel
theorem dX1_strike_103 : decode cX1_strike 103 = .ok (.ireturn, 1) := by decide +kernel
theorem dX2_init_0 : decode cX2_init 0 = .ok (.aload_n 0, 1) := by decide +kernel
theorem dX2_init_1 : decode cX2_init 1 = .ok (.invokespecial 3, 3) := by decide +kernel
theorem dX2_init_4 : decode cX2_init 4 = .ok (.aload_n 0, 1) := by decide +kernel
theorem dX2_init_5 : decode cX2_init 5 = .ok (.bipush 10, 2) := by decide +kernel
theorem dX2_init_7 : decode cX2_init 7 = .ok (.newarray .int, 2) := by decide +kernel
theorem dX2_init_9 : decode cX2_init 9 = .ok (.putfield 9, 3) := by decide +kernel
theorem dX2_init_12 : decode cX2_init 12 = .ok (.aload_n 0, 1) := by decide +kernel
theorem dX2_init_13 : decode cX2_init 13 = .ok (.bipush 8, 2) := by decide +kernel
theorem dX2_init_15 : decode cX2_init 15 = .ok (.newarray .int, 2) := by decide +kernel
theorem dX2_init_17 : decode cX2_init 17 = .ok (.putfield 15, 3) := by decide +kernel
theorem dX2_init_20 : decode cX2_init 20 = .ok (.aload_n 0, 1) := by decide +kernel
theorem dX2_init_21 : decode cX2_init 21 = .ok (.bipush 80, 2) := by decide +kernel
theorem dX2_init_23 : decode cX2_init 23 = .ok (.newarray .int, 2) := by decide +kernel
theorem dX2_init_25 : decode cX2_init 25 = .ok (.putfield 18, 3) := by decide +kernel
theorem dX2_init_28 : decode cX2_init 28 = .ok (.aload_n 0, 1) := by decide +kernel
theorem dX2_init_29 : decode cX2_init 29 = .ok (.bipush 9, 2) := by decide +kernel
theorem dX2_init_31 : decode cX2_init 31 = .ok (.newarray .int, 2) := by decide +kernel
theorem dX2_init_33 : decode cX2_init 33 = .ok (.putfield 21, 3) := by decide +kernel
theorem dX2_init_36 : decode cX2_init 36 = .ok (.aload_n 0, 1) := by decide +kernel
theorem dX2_init_37 : decode cX2_init 37 = .ok (.bipush 8, 2) := by decide +kernel
theorem dX2_init_39 : decode cX2_init 39 = .ok (.newarray .int, 2) := by decide +kernel
theorem dX2_init_41 : decode cX2_init 41 = .ok (.putfield 24, 3) := by decide +kernel
theorem dX2_init_44 : decode cX2_init 44 = .ok (.return_, 1) := by decide +kernel
theorem dX2_begin_0 : decode cX2_begin 0 = .ok (.aload_n 0, 1) := by decide +kernel
theorem dX2_begin_1 : decode cX2_begin 1 = .ok (.aload_n 1, 1) := by decide +kernel
theorem dX2_begin_2 : decode cX2_begin 2 = .ok (.putfield 27, 3) := by decide +kernel
theorem dX2_begin_5 : decode cX2_begin 5 = .ok (.aload_n 0, 1) := by decide +kernel
theorem dX2_begin_6 : decode cX2_begin 6 = .ok (.iload_n 2, 1) := by decide +kernel
theorem dX2_begin_7 : decode cX2_begin 7 = .ok (.putfield 31, 3) := by decide +kernel
theorem dX2_begin_10 : decode cX2_begin 10 = .ok (.aload_n 0, 1) := by decide +kernel
theorem dX2_begin_11 : decode cX2_begin 11 = .ok (.iload_n 3, 1) := by decide +kernel
theorem dX2_begin_12 : decode cX2_begin 12 = .ok (.putfield 35, 3) := by decide +kernel
theorem dX2_begin_15 : decode cX2_begin 15 = .ok (.aload_n 0, 1) := by decide +kernel
theorem dX2_begin_16 : decode cX2_begin 16 = .ok (.getfield 9, 3) := by decide +kernel
theorem dX2_begin_19 : decode cX2_begin 19 = .ok (.iconst 0, 1) := by decide +kernel
theorem dX2_begin_20 : decode cX2_begin 20 = .ok (.invokestatic 38, 3) := by decide +kernel
theorem dX2_begin_23 : decode cX2_begin 23 = .ok (.return_, 1) := by decide +kernel
theorem dX2_isFree_0 : decode cX2_isFree 0 = .ok (.aload_n 0, 1) := by decide +kernel
theorem dX2_isFree_1 : decode cX2_isFree 1 = .ok (.getfield 27, 3) := by decide +kernel
theorem dX2_isFree_4 : decode cX2_isFree 4 = .ok (.getfield 44, 3) := by decide +kernel
theorem dX2_isFree_7 : decode cX2_isFree 7 = .ok (.iload_n 2, 1) := by decide +kernel
theorem dX2_isFree_8 : decode cX2_isFree 8 = .ok (.iaload, 1) := by decide +kernel
theorem dX2_isFree_9 : decode cX2_isFree 9 = .ok (.aload_n 0, 1) := by decide +kernel
theorem dX2_isFree_10 : decode cX2_isFree 10 = .ok (.getfield 31, 3) := by decide +kernel
theorem dX2_isFree_13 : decode cX2_isFree 13 = .ok (.iconst (-1), 1) := by decide +kernel
theorem dX2_isFree_14 : decode cX2_isFree 14 = .ok (.ixor, 1) := by decide +kernel
theorem dX2_isFree_15 : decode cX2_isFree 15 = .ok (.iand, 1) := by decide +kernel
theorem dX2_isFree_16 : decode cX2_isFree 16 = .ok (.iload_n 1, 1) := by decide +kernel
theorem dX2_isFree_17 : decode cX2_isFree 17 = .ok (.invokestatic 49, 3) := by decide +kernel
theorem dX2_isFree_20 : decode cX2_isFree 20 = .ok (.ifCond .eq 26, 3) := by decide +kernel
theorem dX2_isFree_23 : decode cX2_isFree 23 = .ok (.aload_n 0, 1) := by decide +kernel
theorem dX2_isFree_24 : decode cX2_isFree 24 = .ok (.getfield 9, 3) := by decide +kernel
theorem dX2_isFree_27 : decode cX2_isFree 27 = .ok (.iload_n 1, 1) := by decide +kernel
theorem dX2_isFree_28 : decode cX2_isFree 28 = .ok (.iaload, 1) := by decide +kernel
theorem dX2_isFree_29 : decode cX2_isFree 29 = .ok (.aload_n 0, 1) := by decide +kernel
theorem dX2_isFree_30 : decode cX2_isFree 30 = .ok (.getfield 27, 3) := by decide +kernel
theorem dX2_isFree_33 : decode cX2_isFree 33 = .ok (.getfield 53, 3) := by decide +kernel
theorem dX2_isFree_36 : decode cX2_isFree 36 = .ok (.iload_n 2, 1) := by decide +kernel
theorem dX2_isFree_37 : decode cX2_isFree 37 = .ok (.iaload, 1) := by decide +kernel
theorem dX2_isFree_38 : decode cX2_isFree 38 = .ok (.iand, 1) := by decide +kernel
theorem dX2_isFree_39 : decode cX2_isFree 39 = .ok (.ifCond .ne 7, 3) := by decide +kernel
theorem dX2_isFree_42 : decode cX2_isFree 42 = .ok (.iconst 1, 1) := by decide +kernel
theorem dX2_isFree_43 : decode cX2_isFree 43 = .ok (.goto 4, 3) := by decide +kernel
theorem dX2_isFree_46 : decode cX2_isFree 46 = .ok (.iconst 0, 1) := by decide +kernel
theorem dX2_isFree_47 : decode cX2_isFree 47 = .ok (.ireturn, 1) := by decide +kernel
theorem dX2_countCastings_0 : decode cX2_countCastings 0 = .ok (.aload_n 0, 1) := by decide +kernel
theorem dX2_countCastings_1 : decode cX2_countCastings 1 = .ok (.aload_n 1, 1) := by decide +kernel
theorem dX2_countCastings_2 : decode cX2_countCastings 2 = .ok (.iload_n 2, 1) := by decide +kernel
theorem dX2_countCastings_3 : decode cX2_countCastings 3 = .ok (.iload_n 3, 1) := by decide +kernel
theorem dX2_countCastings_4 : decode cX2_countCastings 4 = .ok (.invokevirtual 56, 3) := by decide +kernel
theorem dX2_countCastings_7 : decode cX2_countCastings 7 = .ok (.aload_n 0, 1) := by decide +kernel
theorem dX2_countCastings_8 : decode cX2_countCastings 8 = .ok (.iconst 0, 1) := by decide +kernel
theorem dX2_countCastings_9 : decode cX2_countCastings 9 = .ok (.invokestatic 60, 3) := by decide +kernel
theorem dX2_countCastings_12 : decode cX2_countCastings 12 = .ok (.lreturn, 1) := by decide +kernel
theorem dX2_countFrom_0 : decode cX2_countFrom 0 = .ok (.iload_n 1, 1) := by decide +kernel
theorem dX2_countFrom_1 : decode cX2_countFrom 1 = .ok (.aload_n 0, 1) := by decide +kernel
theorem dX2_countFrom_2 : decode cX2_countFrom 2 = .ok (.getfield 27, 3) := by decide +kernel
theorem dX2_countFrom_5 : decode cX2_countFrom 5 = .ok (.getfield 64, 3) := by decide +kernel
theorem dX2_countFrom_8 : decode cX2_countFrom 8 = .ok (.if_icmp .lt 5, 3) := by decide +kernel
theorem dX2_countFrom_11 : decode cX2_countFrom 11 = .ok (.lconst 1, 1) := by decide +kernel
theorem dX2_countFrom_12 : decode cX2_countFrom 12 = .ok (.lreturn, 1) := by decide +kernel
theorem dX2_countFrom_13 : decode cX2_countFrom 13 = .ok (.aload_n 0, 1) := by decide +kernel
theorem dX2_countFrom_14 : decode cX2_countFrom 14 = .ok (.getfield 35, 3) := by decide +kernel
theorem dX2_countFrom_17 : decode cX2_countFrom 17 = .ok (.iload_n 1, 1) := by decide +kernel
theorem dX2_countFrom_18 : decode cX2_countFrom 18 = .ok (.invokestatic 49, 3) := by decide +kernel
theorem dX2_countFrom_21 : decode cX2_countFrom 21 = .ok (.ifCond .eq 11, 3) := by decide +kernel
theorem dX2_countFrom_24 : decode cX2_countFrom 24 = .ok (.aload_n 0, 1) := by decide +kernel
theorem dX2_countFrom_25 : decode cX2_countFrom 25 = .ok (.iload_n 1, 1) := by decide +kernel
theorem dX2_countFrom_26 : decode cX2_countFrom 26 = .ok (.iconst 1, 1) := by decide +kernel
theorem dX2_countFrom_27 : decode cX2_countFrom 27 = .ok (.iadd, 1) := by decide +kernel
theorem dX2_countFrom_28 : decode cX2_countFrom 28 = .ok (.invokestatic 60, 3) := by decide +kernel
theorem dX2_countFrom_31 : decode cX2_countFrom 31 = .ok (.lreturn, 1) := by decide +kernel
theorem dX2_countFrom_32 : decode cX2_countFrom 32 = .ok (.lconst 0, 1) := by decide +kernel
theorem dX2_countFrom_33 : decode cX2_countFrom 33 = .ok (.lstore_n 2, 1) := by decide +kernel
theorem dX2_countFrom_34 : decode cX2_countFrom 34 = .ok (.iconst 0, 1) := by decide +kernel
theorem dX2_countFrom_35 : decode cX2_countFrom 35 = .ok (.istore 4, 2) := by decide +kernel
theorem dX2_countFrom_37 : decode cX2_countFrom 37 = .ok (.iload 4, 2) := by decide +kernel
theorem dX2_countFrom_39 : decode cX2_countFrom 39 = .ok (.aload_n 0, 1) := by decide +kernel
theorem dX2_countFrom_40 : decode cX2_countFrom 40 = .ok (.getfield 27, 3) := by decide +kernel
theorem dX2_countFrom_43 : decode cX2_countFrom 43 = .ok (.getfield 67, 3) := by decide +kernel
theorem dX2_countFrom_46 : decode cX2_countFrom 46 = .ok (.if_icmp .ge 57, 3) := by decide +kernel
theorem dX2_countFrom_49 : decode cX2_countFrom 49 = .ok (.aload_n 0, 1) := by decide +kernel
theorem dX2_countFrom_50 : decode cX2_countFrom 50 = .ok (.iload 4, 2) := by decide +kernel
theorem dX2_countFrom_52 : decode cX2_countFrom 52 = .ok (.iload_n 1, 1) := by decide +kernel
theorem dX2_countFrom_53 : decode cX2_countFrom 53 = .ok (.invokevirtual 70, 3) := by decide +kernel
theorem dX2_countFrom_56 : decode cX2_countFrom 56 = .ok (.ifCond .eq 41, 3) := by decide +kernel
theorem dX2_countFrom_59 : decode cX2_countFrom 59 = .ok (.aload_n 0, 1) := by decide +kernel
theorem dX2_countFrom_60 : decode cX2_countFrom 60 = .ok (.getfield 9, 3) := by decide +kernel
theorem dX2_countFrom_63 : decode cX2_countFrom 63 = .ok (.iload 4, 2) := by decide +kernel
theorem dX2_countFrom_65 : decode cX2_countFrom 65 = .ok (.dup2, 1) := by decide +kernel
theorem dX2_countFrom_66 : decode cX2_countFrom 66 = .ok (.iaload, 1) := by decide +kernel
theorem dX2_countFrom_67 : decode cX2_countFrom 67 = .ok (.iconst 1, 1) := by decide +kernel
theorem dX2_countFrom_68 : decode cX2_countFrom 68 = .ok (.iload_n 1, 1) := by decide +kernel
theorem dX2_countFrom_69 : decode cX2_countFrom 69 = .ok (.ishl, 1) := by decide +kernel
theorem dX2_countFrom_70 : decode cX2_countFrom 70 = .ok (.ior, 1) := by decide +kernel
theorem dX2_countFrom_71 : decode cX2_countFrom 71 = .ok (.iastore, 1) := by decide +kernel
theorem dX2_countFrom_72 : decode cX2_countFrom 72 = .ok (.lload_n 2, 1) := by decide +kernel
theorem dX2_countFrom_73 : decode cX2_countFrom 73 = .ok (.aload_n 0, 1) := by decide +kernel
theorem dX2_countFrom_74 : decode cX2_countFrom 74 = .ok (.iload_n 1, 1) := by decide +kernel
theorem dX2_countFrom_75 : decode cX2_countFrom 75 = .ok (.iconst 1, 1) := by decide +kernel
theorem dX2_countFrom_76 : decode cX2_countFrom 76 = .ok (.iadd, 1) := by decide +kernel
theorem dX2_countFrom_77 : decode cX2_countFrom 77 = .ok (.invokestatic 60, 3) := by decide +kernel
theorem dX2_countFrom_80 : decode cX2_countFrom 80 = .ok (.ladd, 1) := by decide +kernel
theorem dX2_countFrom_81 : decode cX2_countFrom 81 = .ok (.lstore_n 2, 1) := by decide +kernel
theorem dX2_countFrom_82 : decode cX2_countFrom 82 = .ok (.aload_n 0, 1) := by decide +kernel
theorem dX2_countFrom_83 : decode cX2_countFrom 83 = .ok (.getfield 9, 3) := by decide +kernel
theorem dX2_countFrom_86 : decode cX2_countFrom 86 = .ok (.iload 4, 2) := by decide +kernel
theorem dX2_countFrom_88 : decode cX2_countFrom 88 = .ok (.dup2, 1) := by decide +kernel
theorem dX2_countFrom_89 : decode cX2_countFrom 89 = .ok (.iaload, 1) := by decide +kernel
theorem dX2_countFrom_90 : decode cX2_countFrom 90 = .ok (.iconst 1, 1) := by decide +kernel
theorem dX2_countFrom_91 : decode cX2_countFrom 91 = .ok (.iload_n 1, 1) := by decide +kernel
theorem dX2_countFrom_92 : decode cX2_countFrom 92 = .ok (.ishl, 1) := by decide +kernel
theorem dX2_countFrom_93 : decode cX2_countFrom 93 = .ok (.iconst (-1), 1) := by decide +kernel
theorem dX2_countFrom_94 : decode cX2_countFrom 94 = .ok (.ixor, 1) := by decide +kernel
theorem dX2_countFrom_95 : decode cX2_countFrom 95 = .ok (.iand, 1) := by decide +kernel
theorem dX2_countFrom_96 : decode cX2_countFrom 96 = .ok (.iastore, 1) := by decide +kernel
theorem dX2_countFrom_97 : decode cX2_countFrom 97 = .ok (.iinc 4 1, 3) := by decide +kernel
theorem dX2_countFrom_100 : decode cX2_countFrom 100 = .ok (.goto (-63), 3) := by decide +kernel
theorem dX2_countFrom_103 : decode cX2_countFrom 103 = .ok (.lload_n 2, 1) := by decide +kernel
theorem dX2_countFrom_104 : decode cX2_countFrom 104 = .ok (.lreturn, 1) := by decide +kernel
theorem dX2_findLeast_0 : decode cX2_findLeast 0 = .ok (.aload_n 0, 1) := by decide +kernel
theorem dX2_findLeast_1 : decode cX2_findLeast 1 = .ok (.aload_n 1, 1) := by decide +kernel
theorem dX2_findLeast_2 : decode cX2_findLeast 2 = .ok (.iload_n 3, 1) := by decide +kernel
theorem dX2_findLeast_3 : decode cX2_findLeast 3 = .ok (.iload 4, 2) := by decide +kernel
theorem dX2_findLeast_5 : decode cX2_findLeast 5 = .ok (.invokevirtual 56, 3) := by decide +kernel
theorem dX2_findLeast_8 : decode cX2_findLeast 8 = .ok (.aload_n 0, 1) := by decide +kernel
theorem dX2_findLeast_9 : decode cX2_findLeast 9 = .ok (.ldc 73, 2) := by decide +kernel
theorem dX2_findLeast_11 : decode cX2_findLeast 11 = .ok (.putfield 74, 3) := by decide +kernel
theorem dX2_findLeast_14 : decode cX2_findLeast 14 = .ok (.aload_n 0, 1) := by decide +kernel
theorem dX2_findLeast_15 : decode cX2_findLeast 15 = .ok (.getfield 21, 3) := by decide +kernel
theorem dX2_findLeast_18 : decode cX2_findLeast 18 = .ok (.aload_n 0, 1) := by decide +kernel
theorem dX2_findLeast_19 : decode cX2_findLeast 19 = .ok (.getfield 27, 3) := by decide +kernel
theorem dX2_findLeast_22 : decode cX2_findLeast 22 = .ok (.getfield 64, 3) := by decide +kernel
theorem dX2_findLeast_25 : decode cX2_findLeast 25 = .ok (.iconst 0, 1) := by decide +kernel
theorem dX2_findLeast_26 : decode cX2_findLeast 26 = .ok (.iastore, 1) := by decide +kernel
theorem dX2_findLeast_27 : decode cX2_findLeast 27 = .ok (.aload_n 0, 1) := by decide +kernel
theorem dX2_findLeast_28 : decode cX2_findLeast 28 = .ok (.getfield 27, 3) := by decide +kernel
theorem dX2_findLeast_31 : decode cX2_findLeast 31 = .ok (.getfield 64, 3) := by decide +kernel
theorem dX2_findLeast_34 : decode cX2_findLeast 34 = .ok (.iconst 1, 1) := by decide +kernel
theorem dX2_findLeast_35 : decode cX2_findLeast 35 = .ok (.isub, 1) := by decide +kernel
theorem dX2_findLeast_36 : decode cX2_findLeast 36 = .ok (.istore 5, 2) := by decide +kernel
theorem dX2_findLeast_38 : decode cX2_findLeast 38 = .ok (.iload 5, 2) := by decide +kernel
theorem dX2_findLeast_40 : decode cX2_findLeast 40 = .ok (.ifCond .lt 49, 3) := by decide +kernel
theorem dX2_findLeast_43 : decode cX2_findLeast 43 = .ok (.aload_n 0, 1) := by decide +kernel
theorem dX2_findLeast_44 : decode cX2_findLeast 44 = .ok (.getfield 21, 3) := by decide +kernel
theorem dX2_findLeast_47 : decode cX2_findLeast 47 = .ok (.iload 5, 2) := by decide +kernel
theorem dX2_findLeast_49 : decode cX2_findLeast 49 = .ok (.aload_n 0, 1) := by decide +kernel
theorem dX2_findLeast_50 : decode cX2_findLeast 50 = .ok (.getfield 21, 3) := by decide +kernel
theorem dX2_findLeast_53 : decode cX2_findLeast 53 = .ok (.iload 5, 2) := by decide +kernel
theorem dX2_findLeast_55 : decode cX2_findLeast 55 = .ok (.iconst 1, 1) := by decide +kernel
theorem dX2_findLeast_56 : decode cX2_findLeast 56 = .ok (.iadd, 1) := by decide +kernel
theorem dX2_findLeast_57 : decode cX2_findLeast 57 = .ok (.iaload, 1) := by decide +kernel
theorem dX2_findLeast_58 : decode cX2_findLeast 58 = .ok (.aload_n 0, 1) := by decide +kernel
theorem dX2_findLeast_59 : decode cX2_findLeast 59 = .ok (.getfield 35, 3) := by decide +kernel
theorem dX2_findLeast_62 : decode cX2_findLeast 62 = .ok (.iload 5, 2) := by decide +kernel
theorem dX2_findLeast_64 : decode cX2_findLeast 64 = .ok (.invokestatic 49, 3) := by decide +kernel
theorem dX2_findLeast_67 : decode cX2_findLeast 67 = .ok (.ifCond .eq 7, 3) := by decide +kernel
theorem dX2_findLeast_70 : decode cX2_findLeast 70 = .ok (.iconst 0, 1) := by decide +kernel
theorem dX2_findLeast_71 : decode cX2_findLeast 71 = .ok (.goto 10, 3) := by decide +kernel
theorem dX2_findLeast_74 : decode cX2_findLeast 74 = .ok (.aload_n 0, 1) := by decide +kernel
theorem dX2_findLeast_75 : decode cX2_findLeast 75 = .ok (.aload_n 2, 1) := by decide +kernel
theorem dX2_findLeast_76 : decode cX2_findLeast 76 = .ok (.iload 5, 2) := by decide +kernel
theorem dX2_findLeast_78 : decode cX2_findLeast 78 = .ok (.invokevirtual 77, 3) := by decide +kernel
theorem dX2_findLeast_81 : decode cX2_findLeast 81 = .ok (.iadd, 1) := by decide +kernel
theorem dX2_findLeast_82 : decode cX2_findLeast 82 = .ok (.iastore, 1) := by decide +kernel
theorem dX2_findLeast_83 : decode cX2_findLeast 83 = .ok (.iinc 5 (-1), 3) := by decide +kernel
theorem dX2_findLeast_86 : decode cX2_findLeast 86 = .ok (.goto (-48), 3) := by decide +kernel
theorem dX2_findLeast_89 : decode cX2_findLeast 89 = .ok (.aload_n 0, 1) := by decide +kernel
theorem dX2_findLeast_90 : decode cX2_findLeast 90 = .ok (.iconst 0, 1) := by decide +kernel
theorem dX2_findLeast_91 : decode cX2_findLeast 91 = .ok (.iconst 0, 1) := by decide +kernel
theorem dX2_findLeast_92 : decode cX2_findLeast 92 = .ok (.invokestatic 81, 3) := by decide +kernel
theorem dX2_findLeast_95 : decode cX2_findLeast 95 = .ok (.aload_n 0, 1) := by decide +kernel
theorem dX2_findLeast_96 : decode cX2_findLeast 96 = .ok (.getfield 74, 3) := by decide +kernel
theorem dX2_findLeast_99 : decode cX2_findLeast 99 = .ok (.ldc 73, 2) := by decide +kernel
theorem dX2_findLeast_101 : decode cX2_findLeast 101 = .ok (.if_icmp .ge 7, 3) := by decide +kernel
theorem dX2_findLeast_104 : decode cX2_findLeast 104 = .ok (.iconst 1, 1) := by decide +kernel
theorem dX2_findLeast_105 : decode cX2_findLeast 105 = .ok (.goto 4, 3) := by decide +kernel
theorem dX2_findLeast_108 : decode cX2_findLeast 108 = .ok (.iconst 0, 1) := by decide +kernel
theorem dX2_findLeast_109 : decode cX2_findLeast 109 = .ok (.ireturn, 1) := by decide +kernel
theorem dX2_weigh_0 : decode cX2_weigh 0 = .ok (.ldc 73, 2) := by decide +kernel
theorem dX2_weigh_2 : decode cX2_weigh 2 = .ok (.istore_n 3, 1) := by decide +kernel
theorem dX2_weigh_3 : decode cX2_weigh 3 = .ok (.iconst 0, 1) := by decide +kernel
theorem dX2_weigh_4 : decode cX2_weigh 4 = .ok (.istore 4, 2) := by decide +kernel
theorem dX2_weigh_6 : decode cX2_weigh 6 = .ok (.iload 4, 2) := by decide +kernel
theorem dX2_weigh_8 : decode cX2_weigh 8 = .ok (.aload_n 0, 1) := by decide +kernel
theorem dX2_weigh_9 : decode cX2_weigh 9 = .ok (.getfield 27, 3) := by decide +kernel
theorem dX2_weigh_12 : decode cX2_weigh 12 = .ok (.getfield 67, 3) := by decide +kernel
theorem dX2_weigh_15 : decode cX2_weigh 15 = .ok (.if_icmp .ge 120, 3) := by decide +kernel
theorem dX2_weigh_18 : decode cX2_weigh 18 = .ok (.aload_n 0, 1) := by decide +kernel
theorem dX2_weigh_19 : decode cX2_weigh 19 = .ok (.getfield 27, 3) := by decide +kernel
theorem dX2_weigh_22 : decode cX2_weigh 22 = .ok (.getfield 44, 3) := by decide +kernel
theorem dX2_weigh_25 : decode cX2_weigh 25 = .ok (.iload_n 2, 1) := by decide +kernel
theorem dX2_weigh_26 : decode cX2_weigh 26 = .ok (.iaload, 1) := by decide +kernel
theorem dX2_weigh_27 : decode cX2_weigh 27 = .ok (.aload_n 0, 1) := by decide +kernel
theorem dX2_weigh_28 : decode cX2_weigh 28 = .ok (.getfield 31, 3) := by decide +kernel
theorem dX2_weigh_31 : decode cX2_weigh 31 = .ok (.iconst (-1), 1) := by decide +kernel
theorem dX2_weigh_32 : decode cX2_weigh 32 = .ok (.ixor, 1) := by decide +kernel
theorem dX2_weigh_33 : decode cX2_weigh 33 = .ok (.iand, 1) := by decide +kernel
theorem dX2_weigh_34 : decode cX2_weigh 34 = .ok (.iload 4, 2) := by decide +kernel
theorem dX2_weigh_36 : decode cX2_weigh 36 = .ok (.invokestatic 49, 3) := by decide +kernel
theorem dX2_weigh_39 : decode cX2_weigh 39 = .ok (.ifCond .eq 90, 3) := by decide +kernel
theorem dX2_weigh_42 : decode cX2_weigh 42 = .ok (.aload_n 1, 1) := by decide +kernel
theorem dX2_weigh_43 : decode cX2_weigh 43 = .ok (.aload_n 0, 1) := by decide +kernel
theorem dX2_weigh_44 : decode cX2_weigh 44 = .ok (.getfield 27, 3) := by decide +kernel
theorem dX2_weigh_47 : decode cX2_weigh 47 = .ok (.iload 4, 2) := by decide +kernel
theorem dX2_weigh_49 : decode cX2_weigh 49 = .ok (.iload_n 2, 1) := by decide +kernel
theorem dX2_weigh_50 : decode cX2_weigh 50 = .ok (.invokevirtual 85, 3) := by decide +kernel
theorem dX2_weigh_53 : decode cX2_weigh 53 = .ok (.istore 5, 2) := by decide +kernel
theorem dX2_weigh_55 : decode cX2_weigh 55 = .ok (.aload_n 0, 1) := by decide +kernel
theorem dX2_weigh_56 : decode cX2_weigh 56 = .ok (.getfield 27, 3) := by decide +kernel
theorem dX2_weigh_59 : decode cX2_weigh 59 = .ok (.getfield 91, 3) := by decide +kernel
theorem dX2_weigh_62 : decode cX2_weigh 62 = .ok (.iload_n 2, 1) := by decide +kernel
theorem dX2_weigh_63 : decode cX2_weigh 63 = .ok (.iaload, 1) := by decide +kernel
theorem dX2_weigh_64 : decode cX2_weigh 64 = .ok (.iload 4, 2) := by decide +kernel
theorem dX2_weigh_66 : decode cX2_weigh 66 = .ok (.if_icmp .eq 42, 3) := by decide +kernel
theorem dX2_weigh_69 : decode cX2_weigh 69 = .ok (.iload 5, 2) := by decide +kernel
theorem dX2_weigh_71 : decode cX2_weigh 71 = .ok (.bipush 100, 2) := by decide +kernel
theorem dX2_weigh_73 : decode cX2_weigh 73 = .ok (.aload_n 0, 1) := by decide +kernel
theorem dX2_weigh_74 : decode cX2_weigh 74 = .ok (.getfield 27, 3) := by decide +kernel
theorem dX2_weigh_77 : decode cX2_weigh 77 = .ok (.getfield 94, 3) := by decide +kernel
theorem dX2_weigh_80 : decode cX2_weigh 80 = .ok (.aload_n 0, 1) := by decide +kernel
theorem dX2_weigh_81 : decode cX2_weigh 81 = .ok (.getfield 27, 3) := by decide +kernel
theorem dX2_weigh_84 : decode cX2_weigh 84 = .ok (.getfield 97, 3) := by decide +kernel
theorem dX2_weigh_87 : decode cX2_weigh 87 = .ok (.iload 4, 2) := by decide +kernel
theorem dX2_weigh_89 : decode cX2_weigh 89 = .ok (.iaload, 1) := by decide +kernel
theorem dX2_weigh_90 : decode cX2_weigh 90 = .ok (.aload_n 0, 1) := by decide +kernel
theorem dX2_weigh_91 : decode cX2_weigh 91 = .ok (.getfield 27, 3) := by decide +kernel
theorem dX2_weigh_94 : decode cX2_weigh 94 = .ok (.getfield 100, 3) := by decide +kernel
theorem dX2_weigh_97 : decode cX2_weigh 97 = .ok (.iload_n 2, 1) := by decide +kernel
theorem dX2_weigh_98 : decode cX2_weigh 98 = .ok (.iaload, 1) := by decide +kernel
theorem dX2_weigh_99 : decode cX2_weigh 99 = .ok (.isub, 1) := by decide +kernel
theorem dX2_weigh_100 : decode cX2_weigh 100 = .ok (.invokestatic 103, 3) := by decide +kernel
theorem dX2_weigh_103 : decode cX2_weigh 103 = .ok (.imul, 1) := by decide +kernel
theorem dX2_weigh_104 : decode cX2_weigh 104 = .ok (.iadd, 1) := by decide +kernel
theorem dX2_weigh_105 : decode cX2_weigh 105 = .ok (.iadd, 1) := by decide +kernel
theorem dX2_weigh_106 : decode cX2_weigh 106 = .ok (.istore 5, 2) := by decide +kernel
theorem dX2_weigh_108 : decode cX2_weigh 108 = .ok (.aload_n 0, 1) := by decide +kernel
theorem dX2_weigh_109 : decode cX2_weigh 109 = .ok (.getfield 18, 3) := by decide +kernel
theorem dX2_weigh_112 : decode cX2_weigh 112 = .ok (.iload 4, 2) := by decide +kernel
theorem dX2_weigh_114 : decode cX2_weigh 114 = .ok (.bipush 8, 2) := by decide +kernel
theorem dX2_weigh_116 : decode cX2_weigh 116 = .ok (.imul, 1) := by decide +kernel
theorem dX2_weigh_117 : decode cX2_weigh 117 = .ok (.iload_n 2, 1) := by decide +kernel
theorem dX2_weigh_118 : decode cX2_weigh 118 = .ok (.iadd, 1) := by decide +kernel
theorem dX2_weigh_119 : decode cX2_weigh 119 = .ok (.iload 5, 2) := by decide +kernel
theorem dX2_weigh_121 : decode cX2_weigh 121 = .ok (.iastore, 1) := by decide +kernel
theorem dX2_weigh_122 : decode cX2_weigh 122 = .ok (.iload_n 3, 1) := by decide +kernel
theorem dX2_weigh_123 : decode cX2_weigh 123 = .ok (.iload 5, 2) := by decide +kernel
theorem dX2_weigh_125 : decode cX2_weigh 125 = .ok (.invokestatic 109, 3) := by decide +kernel
theorem dX2_weigh_128 : decode cX2_weigh 128 = .ok (.istore_n 3, 1) := by decide +kernel
theorem dX2_weigh_129 : decode cX2_weigh 129 = .ok (.iinc 4 1, 3) := by decide +kernel
theorem dX2_weigh_132 : decode cX2_weigh 132 = .ok (.goto (-126), 3) := by decide +kernel
theorem dX2_weigh_135 : decode cX2_weigh 135 = .ok (.iload_n 3, 1) := by decide +kernel
theorem dX2_weigh_136 : decode cX2_weigh 136 = .ok (.ireturn, 1) := by decide +kernel
theorem dX2_improveFrom_0 : decode cX2_improveFrom 0 = .ok (.iload_n 2, 1) := by decide +kernel
theorem dX2_improveFrom_1 : decode cX2_improveFrom 1 = .ok (.aload_n 0, 1) := by decide +kernel
theorem dX2_improveFrom_2 : decode cX2_improveFrom 2 = .ok (.getfield 21, 3) := by decide +kernel
theorem dX2_improveFrom_5 : decode cX2_improveFrom 5 = .ok (.iload_n 1, 1) := by decide +kernel
theorem dX2_improveFrom_6 : decode cX2_improveFrom 6 = .ok (.iaload, 1) := by decide +kernel
theorem dX2_improveFrom_7 : decode cX2_improveFrom 7 = .ok (.iadd, 1) := by decide +kernel
theorem dX2_improveFrom_8 : decode cX2_improveFrom 8 = .ok (.aload_n 0, 1) := by decide +kernel
theorem dX2_improveFrom_9 : decode cX2_improveFrom 9 = .ok (.getfield 74, 3) := by decide +kernel
theorem dX2_improveFrom_12 : decode cX2_improveFrom 12 = .ok (.if_icmp .lt 4, 3) := by decide +kernel
theorem dX2_improveFrom_15 : decode cX2_improveFrom 15 = .ok (.return_, 1) := by decide +kernel
theorem dX2_improveFrom_16 : decode cX2_improveFrom 16 = .ok (.iload_n 1, 1) := by decide +kernel
theorem dX2_improveFrom_17 : decode cX2_improveFrom 17 = .ok (.aload_n 0, 1) := by decide +kernel
theorem dX2_improveFrom_18 : decode cX2_improveFrom 18 = .ok (.getfield 27, 3) := by decide +kernel
theorem dX2_improveFrom_21 : decode cX2_improveFrom 21 = .ok (.getfield 64, 3) := by decide +kernel
theorem dX2_improveFrom_24 : decode cX2_improveFrom 24 = .ok (.if_icmp .lt 24, 3) := by decide +kernel
theorem dX2_improveFrom_27 : decode cX2_improveFrom 27 = .ok (.aload_n 0, 1) := by decide +kernel
theorem dX2_improveFrom_28 : decode cX2_improveFrom 28 = .ok (.iload_n 2, 1) := by decide +kernel
theorem dX2_improveFrom_29 : decode cX2_improveFrom 29 = .ok (.putfield 74, 3) := by decide +kernel
theorem dX2_improveFrom_32 : decode cX2_improveFrom 32 = .ok (.aload_n 0, 1) := by decide +kernel
theorem dX2_improveFrom_33 : decode cX2_improveFrom 33 = .ok (.getfield 15, 3) := by decide +kernel
theorem dX2_improveFrom_36 : decode cX2_improveFrom 36 = .ok (.iconst 0, 1) := by decide +kernel
theorem dX2_improveFrom_37 : decode cX2_improveFrom 37 = .ok (.aload_n 0, 1) := by decide +kernel
theorem dX2_improveFrom_38 : decode cX2_improveFrom 38 = .ok (.getfield 24, 3) := by decide +kernel
theorem dX2_improveFrom_41 : decode cX2_improveFrom 41 = .ok (.iconst 0, 1) := by decide +kernel
theorem dX2_improveFrom_42 : decode cX2_improveFrom 42 = .ok (.bipush 8, 2) := by decide +kernel
theorem dX2_improveFrom_44 : decode cX2_improveFrom 44 = .ok (.invokestatic 113, 3) := by decide +kernel
theorem dX2_improveFrom_47 : decode cX2_improveFrom 47 = .ok (.return_, 1) := by decide +kernel
theorem dX2_improveFrom_48 : decode cX2_improveFrom 48 = .ok (.aload_n 0, 1) := by decide +kernel
theorem dX2_improveFrom_49 : decode cX2_improveFrom 49 = .ok (.getfield 35, 3) := by decide +kernel
theorem dX2_improveFrom_52 : decode cX2_improveFrom 52 = .ok (.iload_n 1, 1) := by decide +kernel
theorem dX2_improveFrom_53 : decode cX2_improveFrom 53 = .ok (.invokestatic 49, 3) := by decide +kernel
theorem dX2_improveFrom_56 : decode cX2_improveFrom 56 = .ok (.ifCond .eq 20, 3) := by decide +kernel
theorem dX2_improveFrom_59 : decode cX2_improveFrom 59 = .ok (.aload_n 0, 1) := by decide +kernel
theorem dX2_improveFrom_60 : decode cX2_improveFrom 60 = .ok (.getfield 15, 3) := by decide +kernel
theorem dX2_improveFrom_63 : decode cX2_improveFrom 63 = .ok (.iload_n 1, 1) := by decide +kernel
theorem dX2_improveFrom_64 : decode cX2_improveFrom 64 = .ok (.bipush (-4), 2) := by decide +kernel
theorem dX2_improveFrom_66 : decode cX2_improveFrom 66 = .ok (.iastore, 1) := by decide +kernel
theorem dX2_improveFrom_67 : decode cX2_improveFrom 67 = .ok (.aload_n 0, 1) := by decide +kernel
theorem dX2_improveFrom_68 : decode cX2_improveFrom 68 = .ok (.iload_n 1, 1) := by decide +kernel
theorem dX2_improveFrom_69 : decode cX2_improveFrom 69 = .ok (.iconst 1, 1) := by decide +kernel
theorem dX2_improveFrom_70 : decode cX2_improveFrom 70 = .ok (.iadd, 1) := by decide +kernel
theorem dX2_improveFrom_71 : decode cX2_improveFrom 71 = .ok (.iload_n 2, 1) := by decide +kernel
theorem dX2_improveFrom_72 : decode cX2_improveFrom 72 = .ok (.invokestatic 81, 3) := by decide +kernel
theorem dX2_improveFrom_75 : decode cX2_improveFrom 75 = .ok (.return_, 1) := by decide +kernel
theorem dX2_improveFrom_76 : decode cX2_improveFrom 76 = .ok (.iconst 0, 1) := by decide +kernel
theorem dX2_improveFrom_77 : decode cX2_improveFrom 77 = .ok (.istore_n 3, 1) := by decide +kernel
theorem dX2_improveFrom_78 : decode cX2_improveFrom 78 = .ok (.iload_n 3, 1) := by decide +kernel
theorem dX2_improveFrom_79 : decode cX2_improveFrom 79 = .ok (.aload_n 0, 1) := by decide +kernel
theorem dX2_improveFrom_80 : decode cX2_improveFrom 80 = .ok (.getfield 27, 3) := by decide +kernel
theorem dX2_improveFrom_83 : decode cX2_improveFrom 83 = .ok (.getfield 67, 3) := by decide +kernel
theorem dX2_improveFrom_86 : decode cX2_improveFrom 86 = .ok (.if_icmp .ge 71, 3) := by decide +kernel
theorem dX2_improveFrom_89 : decode cX2_improveFrom 89 = .ok (.aload_n 0, 1) := by decide +kernel
theorem dX2_improveFrom_90 : decode cX2_improveFrom 90 = .ok (.iload_n 3, 1) := by decide +kernel
theorem dX2_improveFrom_91 : decode cX2_improveFrom 91 = .ok (.iload_n 1, 1) := by decide +kernel
theorem dX2_improveFrom_92 : decode cX2_improveFrom 92 = .ok (.invokevirtual 70, 3) := by decide +kernel
theorem dX2_improveFrom_95 : decode cX2_improveFrom 95 = .ok (.ifCond .eq 56, 3) := by decide +kernel
theorem dX2_improveFrom_98 : decode cX2_improveFrom 98 = .ok (.aload_n 0, 1) := by decide +kernel
theorem dX2_improveFrom_99 : decode cX2_improveFrom 99 = .ok (.getfield 9, 3) := by decide +kernel
theorem dX2_improveFrom_102 : decode cX2_improveFrom 102 = .ok (.iload_n 3, 1) := by decide +kernel
theorem dX2_improveFrom_103 : decode cX2_improveFrom 103 = .ok (.dup2, 1) := by decide +kernel
theorem dX2_improveFrom_104 : decode cX2_improveFrom 104 = .ok (.iaload, 1) := by decide +kernel
theorem dX2_improveFrom_105 : decode cX2_improveFrom 105 = .ok (.iconst 1, 1) := by decide +kernel
theorem dX2_improveFrom_106 : decode cX2_improveFrom 106 = .ok (.iload_n 1, 1) := by decide +kernel
theorem dX2_improveFrom_107 : decode cX2_improveFrom 107 = .ok (.ishl, 1) := by decide +kernel
theorem dX2_improveFrom_108 : decode cX2_improveFrom 108 = .ok (.ior, 1) := by decide +kernel
theorem dX2_improveFrom_109 : decode cX2_improveFrom 109 = .ok (.iastore, 1) := by decide +kernel
theorem dX2_improveFrom_110 : decode cX2_improveFrom 110 = .ok (.aload_n 0, 1) := by decide +kernel
theorem dX2_improveFrom_111 : decode cX2_improveFrom 111 = .ok (.getfield 15, 3) := by decide +kernel
theorem dX2_improveFrom_114 : decode cX2_improveFrom 114 = .ok (.iload_n 1, 1) := by decide +kernel
theorem dX2_improveFrom_115 : decode cX2_improveFrom 115 = .ok (.iload_n 3, 1) := by decide +kernel
theorem dX2_improveFrom_116 : decode cX2_improveFrom 116 = .ok (.iastore, 1) := by decide +kernel
theorem dX2_improveFrom_117 : decode cX2_improveFrom 117 = .ok (.aload_n 0, 1) := by decide +kernel
theorem dX2_improveFrom_118 : decode cX2_improveFrom 118 = .ok (.iload_n 1, 1) := by decide +kernel
theorem dX2_improveFrom_119 : decode cX2_improveFrom 119 = .ok (.iconst 1, 1) := by decide +kernel
theorem dX2_improveFrom_120 : decode cX2_improveFrom 120 = .ok (.iadd, 1) := by decide +kernel
theorem dX2_improveFrom_121 : decode cX2_improveFrom 121 = .ok (.iload_n 2, 1) := by decide +kernel
theorem dX2_improveFrom_122 : decode cX2_improveFrom 122 = .ok (.aload_n 0, 1) := by decide +kernel
theorem dX2_improveFrom_123 : decode cX2_improveFrom 123 = .ok (.getfield 18, 3) := by decide +kernel
theorem dX2_improveFrom_126 : decode cX2_improveFrom 126 = .ok (.iload_n 3, 1) := by decide +kernel
theorem dX2_improveFrom_127 : decode cX2_improveFrom 127 = .ok (.bipush 8, 2) := by decide +kernel
theorem dX2_improveFrom_129 : decode cX2_improveFrom 129 = .ok (.imul, 1) := by decide +kernel
theorem dX2_improveFrom_130 : decode cX2_improveFrom 130 = .ok (.iload_n 1, 1) := by decide +kernel
theorem dX2_improveFrom_131 : decode cX2_improveFrom 131 = .ok (.iadd, 1) := by decide +kernel
theorem dX2_improveFrom_132 : decode cX2_improveFrom 132 = .ok (.iaload, 1) := by decide +kernel
theorem dX2_improveFrom_133 : decode cX2_improveFrom 133 = .ok (.iadd, 1) := by decide +kernel
theorem dX2_improveFrom_134 : decode cX2_improveFrom 134 = .ok (.invokestatic 81, 3) := by decide +kernel
theorem dX2_improveFrom_137 : decode cX2_improveFrom 137 = .ok (.aload_n 0, 1) := by decide +kernel
theorem dX2_improveFrom_138 : decode cX2_improveFrom 138 = .ok (.getfield 9, 3) := by decide +kernel
theorem dX2_improveFrom_141 : decode cX2_improveFrom 141 = .ok (.iload_n 3, 1) := by decide +kernel
theorem dX2_improveFrom_142 : decode cX2_improveFrom 142 = .ok (.dup2, 1) := by decide +kernel
theorem dX2_improveFrom_143 : decode cX2_improveFrom 143 = .ok (.iaload, 1) := by decide +kernel
theorem dX2_improveFrom_144 : decode cX2_improveFrom 144 = .ok (.iconst 1, 1) := by decide +kernel
theorem dX2_improveFrom_145 : decode cX2_improveFrom 145 = .ok (.iload_n 1, 1) := by decide +kernel
theorem dX2_improveFrom_146 : decode cX2_improveFrom 146 = .ok (.ishl, 1) := by decide +kernel
theorem dX2_improveFrom_147 : decode cX2_improveFrom 147 = .ok (.iconst (-1), 1) := by decide +kernel
theorem dX2_improveFrom_148 : decode cX2_improveFrom 148 = .ok (.ixor, 1) := by decide +kernel
theorem dX2_improveFrom_149 : decode cX2_improveFrom 149 = .ok (.iand, 1) := by decide +kernel
theorem dX2_improveFrom_150 : decode cX2_improveFrom 150 = .ok (.iastore, 1) := by decide +kernel
theorem dX2_improveFrom_151 : decode cX2_improveFrom 151 = .ok (.iinc 3 1, 3) := by decide +kernel
theorem dX2_improveFrom_154 : decode cX2_improveFrom 154 = .ok (.goto (-76), 3) := by decide +kernel
theorem dX2_improveFrom_157 : decode cX2_improveFrom 157 = .ok (.return_, 1) := by decide +kernel
theorem dX2_partsPlayedBy_0 : decode cX2_partsPlayedBy 0 = .ok (.iconst 0, 1) := by decide +kernel
theorem dX2_partsPlayedBy_1 : decode cX2_partsPlayedBy 1 = .ok (.istore_n 2, 1) := by decide +kernel
theorem dX2_partsPlayedBy_2 : decode cX2_partsPlayedBy 2 = .ok (.iconst 0, 1) := by decide +kernel
theorem dX2_partsPlayedBy_3 : decode cX2_partsPlayedBy 3 = .ok (.istore_n 3, 1) := by decide +kernel
theorem dX2_partsPlayedBy_4 : decode cX2_partsPlayedBy 4 = .ok (.iload_n 3, 1) := by decide +kernel
theorem dX2_partsPlayedBy_5 : decode cX2_partsPlayedBy 5 = .ok (.aload_n 0, 1) := by decide +kernel
theorem dX2_partsPlayedBy_6 : decode cX2_partsPlayedBy 6 = .ok (.getfield 27, 3) := by decide +kernel
theorem dX2_partsPlayedBy_9 : decode cX2_partsPlayedBy 9 = .ok (.getfield 64, 3) := by decide +kernel
theorem dX2_partsPlayedBy_12 : decode cX2_partsPlayedBy 12 = .ok (.if_icmp .ge 25, 3) := by decide +kernel
theorem dX2_partsPlayedBy_15 : decode cX2_partsPlayedBy 15 = .ok (.aload_n 0, 1) := by decide +kernel
theorem dX2_partsPlayedBy_16 : decode cX2_partsPlayedBy 16 = .ok (.getfield 24, 3) := by decide +kernel
theorem dX2_partsPlayedBy_19 : decode cX2_partsPlayedBy 19 = .ok (.iload_n 3, 1) := by decide +kernel
theorem dX2_partsPlayedBy_20 : decode cX2_partsPlayedBy 20 = .ok (.iaload, 1) := by decide +kernel
theorem dX2_partsPlayedBy_21 : decode cX2_partsPlayedBy 21 = .ok (.iload_n 1, 1) := by decide +kernel
theorem dX2_partsPlayedBy_22 : decode cX2_partsPlayedBy 22 = .ok (.if_icmp .ne 9, 3) := by decide +kernel
theorem dX2_partsPlayedBy_25 : decode cX2_partsPlayedBy 25 = .ok (.iload_n 2, 1) := by decide +kernel
theorem dX2_partsPlayedBy_26 : decode cX2_partsPlayedBy 26 = .ok (.iconst 1, 1) := by decide +kernel
theorem dX2_partsPlayedBy_27 : decode cX2_partsPlayedBy 27 = .ok (.iload_n 3, 1) := by decide +kernel
theorem dX2_partsPlayedBy_28 : decode cX2_partsPlayedBy 28 = .ok (.ishl, 1) := by decide +kernel
theorem dX2_partsPlayedBy_29 : decode cX2_partsPlayedBy 29 = .ok (.ior, 1) := by decide +kernel
theorem dX2_partsPlayedBy_30 : decode cX2_partsPlayedBy 30 = .ok (.istore_n 2, 1) := by decide +kernel
theorem dX2_partsPlayedBy_31 : decode cX2_partsPlayedBy 31 = .ok (.iinc 3 1, 3) := by decide +kernel
theorem dX2_partsPlayedBy_34 : decode cX2_partsPlayedBy 34 = .ok (.goto (-30), 3) := by decide +kernel
theorem dX2_partsPlayedBy_37 : decode cX2_partsPlayedBy 37 = .ok (.iload_n 2, 1) := by decide +kernel
theorem dX2_partsPlayedBy_38 : decode cX2_partsPlayedBy 38 = .ok (.ireturn, 1) := by decide +kernel
theorem dX2_partsNotByOwners_0 : decode cX2_partsNotByOwners 0 = .ok (.iconst 0, 1) := by decide +kernel
theorem dX2_partsNotByOwners_1 : decode cX2_partsNotByOwners 1 = .ok (.istore_n 1, 1) := by decide +kernel
theorem dX2_partsNotByOwners_2 : decode cX2_partsNotByOwners 2 = .ok (.iconst 0, 1) := by decide +kernel
theorem dX2_partsNotByOwners_3 : decode cX2_partsNotByOwners 3 = .ok (.istore_n 2, 1) := by decide +kernel
theorem dX2_partsNotByOwners_4 : decode cX2_partsNotByOwners 4 = .ok (.iload_n 2, 1) := by decide +kernel
theorem dX2_partsNotByOwners_5 : decode cX2_partsNotByOwners 5 = .ok (.aload_n 0, 1) := by decide +kernel
theorem dX2_partsNotByOwners_6 : decode cX2_partsNotByOwners 6 = .ok (.getfield 27, 3) := by decide +kernel
theorem dX2_partsNotByOwners_9 : decode cX2_partsNotByOwners 9 = .ok (.getfield 64, 3) := by decide +kernel
theorem dX2_partsNotByOwners_12 : decode cX2_partsNotByOwners 12 = .ok (.if_icmp .ge 39, 3) := by decide +kernel
theorem dX2_partsNotByOwners_15 : decode cX2_partsNotByOwners 15 = .ok (.aload_n 0, 1) := by decide +kernel
theorem dX2_partsNotByOwners_16 : decode cX2_partsNotByOwners 16 = .ok (.getfield 24, 3) := by decide +kernel
theorem dX2_partsNotByOwners_19 : decode cX2_partsNotByOwners 19 = .ok (.iload_n 2, 1) := by decide +kernel
theorem dX2_partsNotByOwners_20 : decode cX2_partsNotByOwners 20 = .ok (.iaload, 1) := by decide +kernel
theorem dX2_partsNotByOwners_21 : decode cX2_partsNotByOwners 21 = .ok (.ifCond .lt 24, 3) := by decide +kernel
theorem dX2_partsNotByOwners_24 : decode cX2_partsNotByOwners 24 = .ok (.aload_n 0, 1) := by decide +kernel
theorem dX2_partsNotByOwners_25 : decode cX2_partsNotByOwners 25 = .ok (.getfield 24, 3) := by decide +kernel
theorem dX2_partsNotByOwners_28 : decode cX2_partsNotByOwners 28 = .ok (.iload_n 2, 1) := by decide +kernel
theorem dX2_partsNotByOwners_29 : decode cX2_partsNotByOwners 29 = .ok (.iaload, 1) := by decide +kernel
theorem dX2_partsNotByOwners_30 : decode cX2_partsNotByOwners 30 = .ok (.aload_n 0, 1) := by decide +kernel
theorem dX2_partsNotByOwners_31 : decode cX2_partsNotByOwners 31 = .ok (.getfield 27, 3) := by decide +kernel
theorem dX2_partsNotByOwners_34 : decode cX2_partsNotByOwners 34 = .ok (.getfield 91, 3) := by decide +kernel
theorem dX2_partsNotByOwners_37 : decode cX2_partsNotByOwners 37 = .ok (.iload_n 2, 1) := by decide +kernel
theorem dX2_partsNotByOwners_38 : decode cX2_partsNotByOwners 38 = .ok (.iaload, 1) := by decide +kernel
theorem dX2_partsNotByOwners_39 : decode cX2_partsNotByOwners 39 = .ok (.if_icmp .eq 6, 3) := by decide +kernel
theorem dX2_partsNotByOwners_42 : decode cX2_partsNotByOwners 42 = .ok (.iinc 1 1, 3) := by decide +kernel
theorem dX2_partsNotByOwners_45 : decode cX2_partsNotByOwners 45 = .ok (.iinc 2 1, 3) := by decide +kernel
theorem dX2_partsNotByOwners_48 : decode cX2_partsNotByOwners 48 = .ok (.goto (-44), 3) := by decide +kernel
theorem dX2_partsNotByOwners_51 : decode cX2_partsNotByOwners 51 = .ok (.iload_n 1, 1) := by decide +kernel
theorem dX2_partsNotByOwners_52 : decode cX2_partsNotByOwners 52 = .ok (.ireturn, 1) := by decide +kernel
theorem dX2_forgottenLines_0 : decode cX2_forgottenLines 0 = .ok (.iconst 0, 1) := by decide +kernel
theorem dX2_forgottenLines_1 : decode cX2_forgottenLines 1 = .ok (.istore_n 2, 1) := by decide +kernel
theorem dX2_forgottenLines_2 : decode cX2_forgottenLines 2 = .ok (.iconst 0, 1) := by decide +kernel
theorem dX2_forgottenLines_3 : decode cX2_forgottenLines 3 = .ok (.istore_n 3, 1) := by decide +kernel
theorem dX2_forgottenLines_4 : decode cX2_forgottenLines 4 = .ok (.iload_n 3, 1) := by decide +kernel
theorem dX2_forgottenLines_5 : decode cX2_forgottenLines 5 = .ok (.aload_n 0, 1) := by decide +kernel
theorem dX2_forgottenLines_6 : decode cX2_forgottenLines 6 = .ok (.getfield 27, 3) := by decide +kernel
theorem dX2_forgottenLines_9 : decode cX2_forgottenLines 9 = .ok (.getfield 64, 3) := by decide +kernel
theorem dX2_forgottenLines_12 : decode cX2_forgottenLines 12 = .ok (.if_icmp .ge 36, 3) := by decide +kernel
theorem dX2_forgottenLines_15 : decode cX2_forgottenLines 15 = .ok (.aload_n 0, 1) := by decide +kernel
theorem dX2_forgottenLines_16 : decode cX2_forgottenLines 16 = .ok (.getfield 24, 3) := by decide +kernel
theorem dX2_forgottenLines_19 : decode cX2_forgottenLines 19 = .ok (.iload_n 3, 1) := by decide +kernel
theorem dX2_forgottenLines_20 : decode cX2_forgottenLines 20 = .ok (.iaload, 1) := by decide +kernel
theorem dX2_forgottenLines_21 : decode cX2_forgottenLines 21 = .ok (.ifCond .lt 21, 3) := by decide +kernel
theorem dX2_forgottenLines_24 : decode cX2_forgottenLines 24 = .ok (.iload_n 2, 1) := by decide +kernel
theorem dX2_forgottenLines_25 : decode cX2_forgottenLines 25 = .ok (.aload_n 1, 1) := by decide +kernel
theorem dX2_forgottenLines_26 : decode cX2_forgottenLines 26 = .ok (.aload_n 0, 1) := by decide +kernel
theorem dX2_forgottenLines_27 : decode cX2_forgottenLines 27 = .ok (.getfield 27, 3) := by decide +kernel
theorem dX2_forgottenLines_30 : decode cX2_forgottenLines 30 = .ok (.aload_n 0, 1) := by decide +kernel
theorem dX2_forgottenLines_31 : decode cX2_forgottenLines 31 = .ok (.getfield 24, 3) := by decide +kernel
theorem dX2_forgottenLines_34 : decode cX2_forgottenLines 34 = .ok (.iload_n 3, 1) := by decide +kernel
theorem dX2_forgottenLines_35 : decode cX2_forgottenLines 35 = .ok (.iaload, 1) := by decide +kernel
theorem dX2_forgottenLines_36 : decode cX2_forgottenLines 36 = .ok (.iload_n 3, 1) := by decide +kernel
theorem dX2_forgottenLines_37 : decode cX2_forgottenLines 37 = .ok (.invokevirtual 85, 3) := by decide +kernel
theorem dX2_forgottenLines_40 : decode cX2_forgottenLines 40 = .ok (.iadd, 1) := by decide +kernel
theorem dX2_forgottenLines_41 : decode cX2_forgottenLines 41 = .ok (.istore_n 2, 1) := by decide +kernel
theorem dX2_forgottenLines_42 : decode cX2_forgottenLines 42 = .ok (.iinc 3 1, 3) := by decide +kernel
theorem dX2_forgottenLines_45 : decode cX2_forgottenLines 45 = .ok (.goto (-41), 3) := by decide +kernel
theorem dX2_forgottenLines_48 : decode cX2_forgottenLines 48 = .ok (.iload_n 2, 1) := by decide +kernel
theorem dX2_forgottenLines_49 : decode cX2_forgottenLines 49 = .ok (.ireturn, 1) := by decide +kernel
theorem dX3_init_0 : decode cX3_init 0 = .ok (.aload_n 0, 1) := by decide +kernel
theorem dX3_init_1 : decode cX3_init 1 = .ok (.invokespecial 3, 3) := by decide +kernel
theorem dX3_init_4 : decode cX3_init 4 = .ok (.aload_n 0, 1) := by decide +kernel
theorem dX3_init_5 : decode cX3_init 5 = .ok (.bipush 10, 2) := by decide +kernel
theorem dX3_init_7 : decode cX3_init 7 = .ok (.newarray .int, 2) := by decide +kernel
theorem dX3_init_9 : decode cX3_init 9 = .ok (.putfield 9, 3) := by decide +kernel
theorem dX3_init_12 : decode cX3_init 12 = .ok (.aload_n 0, 1) := by decide +kernel
theorem dX3_init_13 : decode cX3_init 13 = .ok (.bipush 10, 2) := by decide +kernel
theorem dX3_init_15 : decode cX3_init 15 = .ok (.newarray .int, 2) := by decide +kernel
theorem dX3_init_17 : decode cX3_init 17 = .ok (.putfield 15, 3) := by decide +kernel
theorem dX3_init_20 : decode cX3_init 20 = .ok (.aload_n 0, 1) := by decide +kernel
theorem dX3_init_21 : decode cX3_init 21 = .ok (.bipush 10, 2) := by decide +kernel
theorem dX3_init_23 : decode cX3_init 23 = .ok (.newarray .int, 2) := by decide +kernel
theorem dX3_init_25 : decode cX3_init 25 = .ok (.putfield 18, 3) := by decide +kernel
theorem dX3_init_28 : decode cX3_init 28 = .ok (.aload_n 0, 1) := by decide +kernel
theorem dX3_init_29 : decode cX3_init 29 = .ok (.bipush 8, 2) := by decide +kernel
theorem dX3_init_31 : decode cX3_init 31 = .ok (.newarray .int, 2) := by decide +kernel
theorem dX3_init_33 : decode cX3_init 33 = .ok (.putfield 21, 3) := by decide +kernel
theorem dX3_init_36 : decode cX3_init 36 = .ok (.aload_n 0, 1) := by decide +kernel
theorem dX3_init_37 : decode cX3_init 37 = .ok (.bipush 8, 2) := by decide +kernel
theorem dX3_init_39 : decode cX3_init 39 = .ok (.newarray .int, 2) := by decide +kernel
theorem dX3_init_41 : decode cX3_init 41 = .ok (.putfield 24, 3) := by decide +kernel
theorem dX3_init_44 : decode cX3_init 44 = .ok (.aload_n 0, 1) := by decide +kernel
theorem dX3_init_45 : decode cX3_init 45 = .ok (.bipush 8, 2) := by decide +kernel
theorem dX3_init_47 : decode cX3_init 47 = .ok (.newarray .int, 2) := by decide +kernel
theorem dX3_init_49 : decode cX3_init 49 = .ok (.putfield 27, 3) := by decide +kernel
theorem dX3_init_52 : decode cX3_init 52 = .ok (.aload_n 0, 1) := by decide +kernel
theorem dX3_init_53 : decode cX3_init 53 = .ok (.bipush 8, 2) := by decide +kernel
theorem dX3_init_55 : decode cX3_init 55 = .ok (.newarray .int, 2) := by decide +kernel
theorem dX3_init_57 : decode cX3_init 57 = .ok (.putfield 30, 3) := by decide +kernel
theorem dX3_init_60 : decode cX3_init 60 = .ok (.aload_n 0, 1) := by decide +kernel
theorem dX3_init_61 : decode cX3_init 61 = .ok (.new 33, 3) := by decide +kernel
theorem dX3_init_64 : decode cX3_init 64 = .ok (.dup, 1) := by decide +kernel
theorem dX3_init_65 : decode cX3_init 65 = .ok (.invokespecial 35, 3) := by decide +kernel
theorem dX3_init_68 : decode cX3_init 68 = .ok (.putfield 36, 3) := by decide +kernel
theorem dX3_init_71 : decode cX3_init 71 = .ok (.aload_n 0, 1) := by decide +kernel
theorem dX3_init_72 : decode cX3_init 72 = .ok (.bipush 100, 2) := by decide +kernel
theorem dX3_init_74 : decode cX3_init 74 = .ok (.newarray .int, 2) := by decide +kernel
theorem dX3_init_76 : decode cX3_init 76 = .ok (.putfield 40, 3) := by decide +kernel
theorem dX3_init_79 : decode cX3_init 79 = .ok (.aload_n 0, 1) := by decide +kernel
theorem dX3_init_80 : decode cX3_init 80 = .ok (.bipush 8, 2) := by decide +kernel
theorem dX3_init_82 : decode cX3_init 82 = .ok (.newarray .int, 2) := by decide +kernel
theorem dX3_init_84 : decode cX3_init 84 = .ok (.putfield 43, 3) := by decide +kernel
theorem dX3_init_87 : decode cX3_init 87 = .ok (.aload_n 0, 1) := by decide +kernel
theorem dX3_init_88 : decode cX3_init 88 = .ok (.bipush 8, 2) := by decide +kernel
theorem dX3_init_90 : decode cX3_init 90 = .ok (.newarray .int, 2) := by decide +kernel
theorem dX3_init_92 : decode cX3_init 92 = .ok (.putfield 46, 3) := by decide +kernel
theorem dX3_init_95 : decode cX3_init 95 = .ok (.return_, 1) := by decide +kernel
theorem dX3_clear_0 : decode cX3_clear 0 = .ok (.aload_n 0, 1) := by decide +kernel
theorem dX3_clear_1 : decode cX3_clear 1 = .ok (.iconst 0, 1) := by decide +kernel
theorem dX3_clear_2 : decode cX3_clear 2 = .ok (.putfield 49, 3) := by decide +kernel
theorem dX3_clear_5 : decode cX3_clear 5 = .ok (.aload_n 0, 1) := by decide +kernel
theorem dX3_clear_6 : decode cX3_clear 6 = .ok (.iconst 0, 1) := by decide +kernel
theorem dX3_clear_7 : decode cX3_clear 7 = .ok (.putfield 53, 3) := by decide +kernel
theorem dX3_clear_10 : decode cX3_clear 10 = .ok (.aload_n 0, 1) := by decide +kernel
theorem dX3_clear_11 : decode cX3_clear 11 = .ok (.iconst 0, 1) := by decide +kernel
theorem dX3_clear_12 : decode cX3_clear 12 = .ok (.putfield 56, 3) := by decide +kernel
theorem dX3_clear_15 : decode cX3_clear 15 = .ok (.aload_n 0, 1) := by decide +kernel
theorem dX3_clear_16 : decode cX3_clear 16 = .ok (.iconst 0, 1) := by decide +kernel
theorem dX3_clear_17 : decode cX3_clear 17 = .ok (.putfield 59, 3) := by decide +kernel
theorem dX3_clear_20 : decode cX3_clear 20 = .ok (.aload_n 0, 1) := by decide +kernel
theorem dX3_clear_21 : decode cX3_clear 21 = .ok (.getfield 18, 3) := by decide +kernel
theorem dX3_clear_24 : decode cX3_clear 24 = .ok (.iconst 0, 1) := by decide +kernel
theorem dX3_clear_25 : decode cX3_clear 25 = .ok (.invokestatic 62, 3) := by decide +kernel
theorem dX3_clear_28 : decode cX3_clear 28 = .ok (.aload_n 0, 1) := by decide +kernel
theorem dX3_clear_29 : decode cX3_clear 29 = .ok (.getfield 30, 3) := by decide +kernel
theorem dX3_clear_32 : decode cX3_clear 32 = .ok (.bipush (-4), 2) := by decide +kernel
theorem dX3_clear_34 : decode cX3_clear 34 = .ok (.invokestatic 62, 3) := by decide +kernel
theorem dX3_clear_37 : decode cX3_clear 37 = .ok (.aload_n 0, 1) := by decide +kernel
theorem dX3_clear_38 : decode cX3_clear 38 = .ok (.getfield 40, 3) := by decide +kernel
theorem dX3_clear_41 : decode cX3_clear 41 = .ok (.iconst 0, 1) := by decide +kernel
theorem dX3_clear_42 : decode cX3_clear 42 = .ok (.invokestatic 62, 3) := by decide +kernel
theorem dX3_clear_45 : decode cX3_clear 45 = .ok (.aload_n 0, 1) := by decide +kernel
theorem dX3_clear_46 : decode cX3_clear 46 = .ok (.getfield 36, 3) := by decide +kernel
theorem dX3_clear_49 : decode cX3_clear 49 = .ok (.invokevirtual 68, 3) := by decide +kernel
theorem dX3_clear_52 : decode cX3_clear 52 = .ok (.aload_n 0, 1) := by decide +kernel
theorem dX3_clear_53 : decode cX3_clear 53 = .ok (.iconst 1, 1) := by decide +kernel
theorem dX3_clear_54 : decode cX3_clear 54 = .ok (.putfield 71, 3) := by decide +kernel
theorem dX3_clear_57 : decode cX3_clear 57 = .ok (.aload_n 0, 1) := by decide +kernel
theorem dX3_clear_58 : decode cX3_clear 58 = .ok (.bipush 10, 2) := by decide +kernel
theorem dX3_clear_60 : decode cX3_clear 60 = .ok (.putfield 74, 3) := by decide +kernel
theorem dX3_clear_63 : decode cX3_clear 63 = .ok (.aload_n 0, 1) := by decide +kernel
theorem dX3_clear_64 : decode cX3_clear 64 = .ok (.bipush 100, 2) := by decide +kernel
theorem dX3_clear_66 : decode cX3_clear 66 = .ok (.putfield 77, 3) := by decide +kernel
theorem dX3_clear_69 : decode cX3_clear 69 = .ok (.aload_n 0, 1) := by decide +kernel
theorem dX3_clear_70 : decode cX3_clear 70 = .ok (.iconst 5, 1) := by decide +kernel
theorem dX3_clear_71 : decode cX3_clear 71 = .ok (.putfield 80, 3) := by decide +kernel
theorem dX3_clear_74 : decode cX3_clear 74 = .ok (.return_, 1) := by decide +kernel
theorem dX3_take_0 : decode cX3_take 0 = .ok (.aload_n 2, 1) := by decide +kernel
theorem dX3_take_1 : decode cX3_take 1 = .ok (.iconst 0, 1) := by decide +kernel
theorem dX3_take_2 : decode cX3_take 2 = .ok (.iaload, 1) := by decide +kernel
theorem dX3_take_3 : decode cX3_take 3 = .ok (.istore 4, 2) := by decide +kernel
theorem dX3_take_5 : decode cX3_take 5 = .ok (.aload_n 2, 1) := by decide +kernel
theorem dX3_take_6 : decode cX3_take 6 = .ok (.iconst 1, 1) := by decide +kernel
theorem dX3_take_7 : decode cX3_take 7 = .ok (.iaload, 1) := by decide +kernel
theorem dX3_take_8 : decode cX3_take 8 = .ok (.istore 5, 2) := by decide +kernel
theorem dX3_take_10 : decode cX3_take 10 = .ok (.aload_n 2, 1) := by decide +kernel
theorem dX3_take_11 : decode cX3_take 11 = .ok (.iconst 2, 1) := by decide +kernel
theorem dX3_take_12 : decode cX3_take 12 = .ok (.iaload, 1) := by decide +kernel
theorem dX3_take_13 : decode cX3_take 13 = .ok (.istore 6, 2) := by decide +kernel
theorem dX3_take_15 : decode cX3_take 15 = .ok (.aload_n 2, 1) := by decide +kernel
theorem dX3_take_16 : decode cX3_take 16 = .ok (.iconst 3, 1) := by decide +kernel
theorem dX3_take_17 : decode cX3_take 17 = .ok (.iaload, 1) := by decide +kernel
theorem dX3_take_18 : decode cX3_take 18 = .ok (.istore 7, 2) := by decide +kernel
theorem dX3_take_20 : decode cX3_take 20 = .ok (.iload_n 1, 1) := by decide +kernel
theorem dX3_take_21 : decode cX3_take 21 = .ok (.tableswitch 331 97 120 #[111, 331, 159, 331, 331, 289, 331, 331, 331, 331, 203, 331, 249, 331, 181, 133, 331, 331, 331, 269, 331, 331, 309, 225], 111) := by decide +kernel
theorem dX3_take_132 : decode cX3_take 132 = .ok (.iload_n 3, 1) := by decide +kernel
theorem dX3_take_133 : decode cX3_take 133 = .ok (.iconst 2, 1) := by decide +kernel
theorem dX3_take_134 : decode cX3_take 134 = .ok (.if_icmp .ne 18, 3) := by decide +kernel
theorem dX3_take_137 : decode cX3_take 137 = .ok (.aload_n 0, 1) := by decide +kernel
theorem dX3_take_138 : decode cX3_take 138 = .ok (.iload 4, 2) := by decide +kernel
theorem dX3_take_140 : decode cX3_take 140 = .ok (.iload 5, 2) := by decide +kernel
theorem dX3_take_142 : decode cX3_take 142 = .ok (.invokevirtual 83, 3) := by decide +kernel
theorem dX3_take_145 : decode cX3_take 145 = .ok (.ifCond .eq 7, 3) := by decide +kernel
theorem dX3_take_148 : decode cX3_take 148 = .ok (.iconst 1, 1) := by decide +kernel
theorem dX3_take_149 : decode cX3_take 149 = .ok (.goto 4, 3) := by decide +kernel
theorem dX3_take_152 : decode cX3_take 152 = .ok (.iconst 0, 1) := by decide +kernel
theorem dX3_take_153 : decode cX3_take 153 = .ok (.ireturn, 1) := by decide +kernel
theorem dX3_take_154 : decode cX3_take 154 = .ok (.iload_n 3, 1) := by decide +kernel
theorem dX3_take_155 : decode cX3_take 155 = .ok (.iconst 4, 1) := by decide +kernel
theorem dX3_take_156 : decode cX3_take 156 = .ok (.if_icmp .ne 22, 3) := by decide +kernel
theorem dX3_take_159 : decode cX3_take 159 = .ok (.aload_n 0, 1) := by decide +kernel
theorem dX3_take_160 : decode cX3_take 160 = .ok (.iload 4, 2) := by decide +kernel
theorem dX3_take_162 : decode cX3_take 162 = .ok (.iload 5, 2) := by decide +kernel
theorem dX3_take_164 : decode cX3_take 164 = .ok (.iload 6, 2) := by decide +kernel
theorem dX3_take_166 : decode cX3_take 166 = .ok (.iload 7, 2) := by decide +kernel
theorem dX3_take_168 : decode cX3_take 168 = .ok (.invokevirtual 87, 3) := by decide +kernel
theorem dX3_take_171 : decode cX3_take 171 = .ok (.ifCond .eq 7, 3) := by decide +kernel
theorem dX3_take_174 : decode cX3_take 174 = .ok (.iconst 1, 1) := by decide +kernel
theorem dX3_take_175 : decode cX3_take 175 = .ok (.goto 4, 3) := by decide +kernel
theorem dX3_take_178 : decode cX3_take 178 = .ok (.iconst 0, 1) := by decide +kernel
theorem dX3_take_179 : decode cX3_take 179 = .ok (.ireturn, 1) := by decide +kernel
theorem dX3_take_180 : decode cX3_take 180 = .ok (.iload_n 3, 1) := by decide +kernel
theorem dX3_take_181 : decode cX3_take 181 = .ok (.iconst 2, 1) := by decide +kernel
theorem dX3_take_182 : decode cX3_take 182 = .ok (.if_icmp .ne 18, 3) := by decide +kernel
theorem dX3_take_185 : decode cX3_take 185 = .ok (.aload_n 0, 1) := by decide +kernel
theorem dX3_take_186 : decode cX3_take 186 = .ok (.iload 4, 2) := by decide +kernel
theorem dX3_take_188 : decode cX3_take 188 = .ok (.iload 5, 2) := by decide +kernel
theorem dX3_take_190 : decode cX3_take 190 = .ok (.invokevirtual 91, 3) := by decide +kernel
theorem dX3_take_193 : decode cX3_take 193 = .ok (.ifCond .eq 7, 3) := by decide +kernel
theorem dX3_take_196 : decode cX3_take 196 = .ok (.iconst 1, 1) := by decide +kernel
theorem dX3_take_197 : decode cX3_take 197 = .ok (.goto 4, 3) := by decide +kernel
theorem dX3_take_200 : decode cX3_take 200 = .ok (.iconst 0, 1) := by decide +kernel
theorem dX3_take_201 : decode cX3_take 201 = .ok (.ireturn, 1) := by decide +kernel
theorem dX3_take_202 : decode cX3_take 202 = .ok (.iload_n 3, 1) := by decide +kernel
theorem dX3_take_203 : decode cX3_take 203 = .ok (.iconst 2, 1) := by decide +kernel
theorem dX3_take_204 : decode cX3_take 204 = .ok (.if_icmp .ne 18, 3) := by decide +kernel
theorem dX3_take_207 : decode cX3_take 207 = .ok (.aload_n 0, 1) := by decide +kernel
theorem dX3_take_208 : decode cX3_take 208 = .ok (.iload 4, 2) := by decide +kernel
theorem dX3_take_210 : decode cX3_take 210 = .ok (.iload 5, 2) := by decide +kernel
theorem dX3_take_212 : decode cX3_take 212 = .ok (.invokevirtual 94, 3) := by decide +kernel
theorem dX3_take_215 : decode cX3_take 215 = .ok (.ifCond .eq 7, 3) := by decide +kernel
theorem dX3_take_218 : decode cX3_take 218 = .ok (.iconst 1, 1) := by decide +kernel
theorem dX3_take_219 : decode cX3_take 219 = .ok (.goto 4, 3) := by decide +kernel
theorem dX3_take_222 : decode cX3_take 222 = .ok (.iconst 0, 1) := by decide +kernel
theorem dX3_take_223 : decode cX3_take 223 = .ok (.ireturn, 1) := by decide +kernel
theorem dX3_take_224 : decode cX3_take 224 = .ok (.iload_n 3, 1) := by decide +kernel
theorem dX3_take_225 : decode cX3_take 225 = .ok (.iconst 2, 1) := by decide +kernel
theorem dX3_take_226 : decode cX3_take 226 = .ok (.if_icmp .ne 18, 3) := by decide +kernel
theorem dX3_take_229 : decode cX3_take 229 = .ok (.aload_n 0, 1) := by decide +kernel
theorem dX3_take_230 : decode cX3_take 230 = .ok (.iload 4, 2) := by decide +kernel
theorem dX3_take_232 : decode cX3_take 232 = .ok (.iload 5, 2) := by decide +kernel
theorem dX3_take_234 : decode cX3_take 234 = .ok (.invokevirtual 97, 3) := by decide +kernel
theorem dX3_take_237 : decode cX3_take 237 = .ok (.ifCond .eq 7, 3) := by decide +kernel
theorem dX3_take_240 : decode cX3_take 240 = .ok (.iconst 1, 1) := by decide +kernel
theorem dX3_take_241 : decode cX3_take 241 = .ok (.goto 4, 3) := by decide +kernel
theorem dX3_take_244 : decode cX3_take 244 = .ok (.iconst 0, 1) := by decide +kernel
theorem dX3_take_245 : decode cX3_take 245 = .ok (.ireturn, 1) := by decide +kernel
theorem dX3_take_246 : decode cX3_take 246 = .ok (.iload_n 3, 1) := by decide +kernel
theorem dX3_take_247 : decode cX3_take 247 = .ok (.iconst 3, 1) := by decide +kernel
theorem dX3_take_248 : decode cX3_take 248 = .ok (.if_icmp .ne 20, 3) := by decide +kernel
theorem dX3_take_251 : decode cX3_take 251 = .ok (.aload_n 0, 1) := by decide +kernel
theorem dX3_take_252 : decode cX3_take 252 = .ok (.iload 4, 2) := by decide +kernel
theorem dX3_take_254 : decode cX3_take 254 = .ok (.iload 5, 2) := by decide +kernel
theorem dX3_take_256 : decode cX3_take 256 = .ok (.iload 6, 2) := by decide +kernel
theorem dX3_take_258 : decode cX3_take 258 = .ok (.invokevirtual 100, 3) := by decide +kernel
theorem dX3_take_261 : decode cX3_take 261 = .ok (.ifCond .eq 7, 3) := by decide +kernel
theorem dX3_take_264 : decode cX3_take 264 = .ok (.iconst 1, 1) := by decide +kernel
theorem dX3_take_265 : decode cX3_take 265 = .ok (.goto 4, 3) := by decide +kernel
theorem dX3_take_268 : decode cX3_take 268 = .ok (.iconst 0, 1) := by decide +kernel
theorem dX3_take_269 : decode cX3_take 269 = .ok (.ireturn, 1) := by decide +kernel
theorem dX3_take_270 : decode cX3_take 270 = .ok (.iload_n 3, 1) := by decide +kernel
theorem dX3_take_271 : decode cX3_take 271 = .ok (.iconst 1, 1) := by decide +kernel
theorem dX3_take_272 : decode cX3_take 272 = .ok (.if_icmp .ne 16, 3) := by decide +kernel
theorem dX3_take_275 : decode cX3_take 275 = .ok (.aload_n 0, 1) := by decide +kernel
theorem dX3_take_276 : decode cX3_take 276 = .ok (.iload 4, 2) := by decide +kernel
theorem dX3_take_278 : decode cX3_take 278 = .ok (.invokevirtual 104, 3) := by decide +kernel
theorem dX3_take_281 : decode cX3_take 281 = .ok (.ifCond .eq 7, 3) := by decide +kernel
theorem dX3_take_284 : decode cX3_take 284 = .ok (.iconst 1, 1) := by decide +kernel
theorem dX3_take_285 : decode cX3_take 285 = .ok (.goto 4, 3) := by decide +kernel
theorem dX3_take_288 : decode cX3_take 288 = .ok (.iconst 0, 1) := by decide +kernel
theorem dX3_take_289 : decode cX3_take 289 = .ok (.ireturn, 1) := by decide +kernel
theorem dX3_take_290 : decode cX3_take 290 = .ok (.iload_n 3, 1) := by decide +kernel
theorem dX3_take_291 : decode cX3_take 291 = .ok (.iconst 1, 1) := by decide +kernel
theorem dX3_take_292 : decode cX3_take 292 = .ok (.if_icmp .ne 16, 3) := by decide +kernel
theorem dX3_take_295 : decode cX3_take 295 = .ok (.aload_n 0, 1) := by decide +kernel
theorem dX3_take_296 : decode cX3_take 296 = .ok (.iload 4, 2) := by decide +kernel
theorem dX3_take_298 : decode cX3_take 298 = .ok (.invokevirtual 108, 3) := by decide +kernel
theorem dX3_take_301 : decode cX3_take 301 = .ok (.ifCond .eq 7, 3) := by decide +kernel
theorem dX3_take_304 : decode cX3_take 304 = .ok (.iconst 1, 1) := by decide +kernel
theorem dX3_take_305 : decode cX3_take 305 = .ok (.goto 4, 3) := by decide +kernel
theorem dX3_take_308 : decode cX3_take 308 = .ok (.iconst 0, 1) := by decide +kernel
theorem dX3_take_309 : decode cX3_take 309 = .ok (.ireturn, 1) := by decide +kernel
theorem dX3_take_310 : decode cX3_take 310 = .ok (.iload_n 3, 1) := by decide +kernel
theorem dX3_take_311 : decode cX3_take 311 = .ok (.iconst 1, 1) := by decide +kernel
theorem dX3_take_312 : decode cX3_take 312 = .ok (.if_icmp .ne 16, 3) := by decide +kernel
theorem dX3_take_315 : decode cX3_take 315 = .ok (.aload_n 0, 1) := by decide +kernel
theorem dX3_take_316 : decode cX3_take 316 = .ok (.iload 4, 2) := by decide +kernel
theorem dX3_take_318 : decode cX3_take 318 = .ok (.invokevirtual 111, 3) := by decide +kernel
theorem dX3_take_321 : decode cX3_take 321 = .ok (.ifCond .eq 7, 3) := by decide +kernel
theorem dX3_take_324 : decode cX3_take 324 = .ok (.iconst 1, 1) := by decide +kernel
theorem dX3_take_325 : decode cX3_take 325 = .ok (.goto 4, 3) := by decide +kernel
theorem dX3_take_328 : decode cX3_take 328 = .ok (.iconst 0, 1) := by decide +kernel
theorem dX3_take_329 : decode cX3_take 329 = .ok (.ireturn, 1) := by decide +kernel
theorem dX3_take_330 : decode cX3_take 330 = .ok (.iload_n 3, 1) := by decide +kernel
theorem dX3_take_331 : decode cX3_take 331 = .ok (.iconst 2, 1) := by decide +kernel
theorem dX3_take_332 : decode cX3_take 332 = .ok (.if_icmp .ne 18, 3) := by decide +kernel
theorem dX3_take_335 : decode cX3_take 335 = .ok (.aload_n 0, 1) := by decide +kernel
theorem dX3_take_336 : decode cX3_take 336 = .ok (.iload 4, 2) := by decide +kernel
theorem dX3_take_338 : decode cX3_take 338 = .ok (.iload 5, 2) := by decide +kernel
theorem dX3_take_340 : decode cX3_take 340 = .ok (.invokevirtual 114, 3) := by decide +kernel
theorem dX3_take_343 : decode cX3_take 343 = .ok (.ifCond .eq 7, 3) := by decide +kernel
theorem dX3_take_346 : decode cX3_take 346 = .ok (.iconst 1, 1) := by decide +kernel
theorem dX3_take_347 : decode cX3_take 347 = .ok (.goto 4, 3) := by decide +kernel
theorem dX3_take_350 : decode cX3_take 350 = .ok (.iconst 0, 1) := by decide +kernel
theorem dX3_take_351 : decode cX3_take 351 = .ok (.ireturn, 1) := by decide +kernel
theorem dX3_take_352 : decode cX3_take 352 = .ok (.iconst 0, 1) := by decide +kernel
theorem dX3_take_353 : decode cX3_take 353 = .ok (.ireturn, 1) := by decide +kernel
theorem dX3_addPlayer_0 : decode cX3_addPlayer 0 = .ok (.aload_n 0, 1) := by decide +kernel
theorem dX3_addPlayer_1 : decode cX3_addPlayer 1 = .ok (.getfield 49, 3) := by decide +kernel
theorem dX3_addPlayer_4 : decode cX3_addPlayer 4 = .ok (.bipush 10, 2) := by decide +kernel
theorem dX3_addPlayer_6 : decode cX3_addPlayer 6 = .ok (.if_icmp .ge 15, 3) := by decide +kernel
theorem dX3_addPlayer_9 : decode cX3_addPlayer 9 = .ok (.iload_n 1, 1) := by decide +kernel
theorem dX3_addPlayer_10 : decode cX3_addPlayer 10 = .ok (.bipush 99, 2) := by decide +kernel
theorem dX3_addPlayer_12 : decode cX3_addPlayer 12 = .ok (.if_icmp .gt 9, 3) := by decide +kernel
theorem dX3_addPlayer_15 : decode cX3_addPlayer 15 = .ok (.iload_n 2, 1) := by decide +kernel
theorem dX3_addPlayer_16 : decode cX3_addPlayer 16 = .ok (.bipush 15, 2) := by decide +kernel
theorem dX3_addPlayer_18 : decode cX3_addPlayer 18 = .ok (.if_icmp .le 5, 3) := by decide +kernel
theorem dX3_addPlayer_21 : decode cX3_addPlayer 21 = .ok (.iconst 0, 1) := by decide +kernel
theorem dX3_addPlayer_22 : decode cX3_addPlayer 22 = .ok (.ireturn, 1) := by decide +kernel
theorem dX3_addPlayer_23 : decode cX3_addPlayer 23 = .ok (.aload_n 0, 1) := by decide +kernel
theorem dX3_addPlayer_24 : decode cX3_addPlayer 24 = .ok (.getfield 9, 3) := by decide +kernel
theorem dX3_addPlayer_27 : decode cX3_addPlayer 27 = .ok (.aload_n 0, 1) := by decide +kernel
theorem dX3_addPlayer_28 : decode cX3_addPlayer 28 = .ok (.getfield 49, 3) := by decide +kernel
theorem dX3_addPlayer_31 : decode cX3_addPlayer 31 = .ok (.iload_n 1, 1) := by decide +kernel
theorem dX3_addPlayer_32 : decode cX3_addPlayer 32 = .ok (.iastore, 1) := by decide +kernel
theorem dX3_addPlayer_33 : decode cX3_addPlayer 33 = .ok (.aload_n 0, 1) := by decide +kernel
theorem dX3_addPlayer_34 : decode cX3_addPlayer 34 = .ok (.getfield 15, 3) := by decide +kernel
theorem dX3_addPlayer_37 : decode cX3_addPlayer 37 = .ok (.aload_n 0, 1) := by decide +kernel
theorem dX3_addPlayer_38 : decode cX3_addPlayer 38 = .ok (.getfield 49, 3) := by decide +kernel
theorem dX3_addPlayer_41 : decode cX3_addPlayer 41 = .ok (.iload_n 2, 1) := by decide +kernel
theorem dX3_addPlayer_42 : decode cX3_addPlayer 42 = .ok (.iastore, 1) := by decide +kernel
theorem dX3_addPlayer_43 : decode cX3_addPlayer 43 = .ok (.aload_n 0, 1) := by decide +kernel
theorem dX3_addPlayer_44 : decode cX3_addPlayer 44 = .ok (.dup, 1) := by decide +kernel
theorem dX3_addPlayer_45 : decode cX3_addPlayer 45 = .ok (.getfield 49, 3) := by decide +kernel
theorem dX3_addPlayer_48 : decode cX3_addPlayer 48 = .ok (.iconst 1, 1) := by decide +kernel
theorem dX3_addPlayer_49 : decode cX3_addPlayer 49 = .ok (.iadd, 1) := by decide +kernel
theorem dX3_addPlayer_50 : decode cX3_addPlayer 50 = .ok (.putfield 49, 3) := by decide +kernel
theorem dX3_addPlayer_53 : decode cX3_addPlayer 53 = .ok (.iconst 1, 1) := by decide +kernel
theorem dX3_addPlayer_54 : decode cX3_addPlayer 54 = .ok (.ireturn, 1) := by decide +kernel
theorem dX3_addPart_0 : decode cX3_addPart 0 = .ok (.aload_n 0, 1) := by decide +kernel
theorem dX3_addPart_1 : decode cX3_addPart 1 = .ok (.getfield 53, 3) := by decide +kernel
theorem dX3_addPart_4 : decode cX3_addPart 4 = .ok (.bipush 8, 2) := by decide +kernel
theorem dX3_addPart_6 : decode cX3_addPart 6 = .ok (.if_icmp .ge 33, 3) := by decide +kernel
theorem dX3_addPart_9 : decode cX3_addPart 9 = .ok (.iload_n 1, 1) := by decide +kernel
theorem dX3_addPart_10 : decode cX3_addPart 10 = .ok (.bipush 99, 2) := by decide +kernel
theorem dX3_addPart_12 : decode cX3_addPart 12 = .ok (.if_icmp .gt 27, 3) := by decide +kernel
theorem dX3_addPart_15 : decode cX3_addPart 15 = .ok (.iload_n 2, 1) := by decide +kernel
theorem dX3_addPart_16 : decode cX3_addPart 16 = .ok (.bipush 15, 2) := by decide +kernel
theorem dX3_addPart_18 : decode cX3_addPart 18 = .ok (.if_icmp .gt 21, 3) := by decide +kernel
theorem dX3_addPart_21 : decode cX3_addPart 21 = .ok (.iload_n 3, 1) := by decide +kernel
theorem dX3_addPart_22 : decode cX3_addPart 22 = .ok (.iconst 1, 1) := by decide +kernel
theorem dX3_addPart_23 : decode cX3_addPart 23 = .ok (.if_icmp .lt 16, 3) := by decide +kernel
theorem dX3_addPart_26 : decode cX3_addPart 26 = .ok (.iload_n 3, 1) := by decide +kernel
theorem dX3_addPart_27 : decode cX3_addPart 27 = .ok (.sipush 999, 3) := by decide +kernel
theorem dX3_addPart_30 : decode cX3_addPart 30 = .ok (.if_icmp .gt 9, 3) := by decide +kernel
theorem dX3_addPart_33 : decode cX3_addPart 33 = .ok (.iload 4, 2) := by decide +kernel
theorem dX3_addPart_35 : decode cX3_addPart 35 = .ok (.iconst 1, 1) := by decide +kernel
theorem dX3_addPart_36 : decode cX3_addPart 36 = .ok (.if_icmp .le 5, 3) := by decide +kernel
theorem dX3_addPart_39 : decode cX3_addPart 39 = .ok (.iconst 0, 1) := by decide +kernel
theorem dX3_addPart_40 : decode cX3_addPart 40 = .ok (.ireturn, 1) := by decide +kernel
theorem dX3_addPart_41 : decode cX3_addPart 41 = .ok (.aload_n 0, 1) := by decide +kernel
theorem dX3_addPart_42 : decode cX3_addPart 42 = .ok (.getfield 21, 3) := by decide +kernel
theorem dX3_addPart_45 : decode cX3_addPart 45 = .ok (.aload_n 0, 1) := by decide +kernel
theorem dX3_addPart_46 : decode cX3_addPart 46 = .ok (.getfield 53, 3) := by decide +kernel
theorem dX3_addPart_49 : decode cX3_addPart 49 = .ok (.iload_n 1, 1) := by decide +kernel
theorem dX3_addPart_50 : decode cX3_addPart 50 = .ok (.iastore, 1) := by decide +kernel
theorem dX3_addPart_51 : decode cX3_addPart 51 = .ok (.aload_n 0, 1) := by decide +kernel
theorem dX3_addPart_52 : decode cX3_addPart 52 = .ok (.getfield 24, 3) := by decide +kernel
theorem dX3_addPart_55 : decode cX3_addPart 55 = .ok (.aload_n 0, 1) := by decide +kernel
theorem dX3_addPart_56 : decode cX3_addPart 56 = .ok (.getfield 53, 3) := by decide +kernel
theorem dX3_addPart_59 : decode cX3_addPart 59 = .ok (.iload_n 2, 1) := by decide +kernel
theorem dX3_addPart_60 : decode cX3_addPart 60 = .ok (.iastore, 1) := by decide +kernel
theorem dX3_addPart_61 : decode cX3_addPart 61 = .ok (.aload_n 0, 1) := by decide +kernel
theorem dX3_addPart_62 : decode cX3_addPart 62 = .ok (.getfield 27, 3) := by decide +kernel
theorem dX3_addPart_65 : decode cX3_addPart 65 = .ok (.aload_n 0, 1) := by decide +kernel
theorem dX3_addPart_66 : decode cX3_addPart 66 = .ok (.getfield 53, 3) := by decide +kernel
theorem dX3_addPart_69 : decode cX3_addPart 69 = .ok (.iload_n 3, 1) := by decide +kernel
theorem dX3_addPart_70 : decode cX3_addPart 70 = .ok (.iastore, 1) := by decide +kernel
theorem dX3_addPart_71 : decode cX3_addPart 71 = .ok (.aload_n 0, 1) := by decide +kernel
theorem dX3_addPart_72 : decode cX3_addPart 72 = .ok (.dup, 1) := by decide +kernel
theorem dX3_addPart_73 : decode cX3_addPart 73 = .ok (.getfield 59, 3) := by decide +kernel
theorem dX3_addPart_76 : decode cX3_addPart 76 = .ok (.iload 4, 2) := by decide +kernel
theorem dX3_addPart_78 : decode cX3_addPart 78 = .ok (.aload_n 0, 1) := by decide +kernel
theorem dX3_addPart_79 : decode cX3_addPart 79 = .ok (.getfield 53, 3) := by decide +kernel
theorem dX3_addPart_82 : decode cX3_addPart 82 = .ok (.ishl, 1) := by decide +kernel
theorem dX3_addPart_83 : decode cX3_addPart 83 = .ok (.ior, 1) := by decide +kernel
theorem dX3_addPart_84 : decode cX3_addPart 84 = .ok (.putfield 59, 3) := by decide +kernel
theorem dX3_addPart_87 : decode cX3_addPart 87 = .ok (.aload_n 0, 1) := by decide +kernel
theorem dX3_addPart_88 : decode cX3_addPart 88 = .ok (.dup, 1) := by decide +kernel
theorem dX3_addPart_89 : decode cX3_addPart 89 = .ok (.getfield 53, 3) := by decide +kernel
theorem dX3_addPart_92 : decode cX3_addPart 92 = .ok (.iconst 1, 1) := by decide +kernel
theorem dX3_addPart_93 : decode cX3_addPart 93 = .ok (.iadd, 1) := by decide +kernel
theorem dX3_addPart_94 : decode cX3_addPart 94 = .ok (.putfield 53, 3) := by decide +kernel
theorem dX3_addPart_97 : decode cX3_addPart 97 = .ok (.iconst 1, 1) := by decide +kernel
theorem dX3_addPart_98 : decode cX3_addPart 98 = .ok (.ireturn, 1) := by decide +kernel
theorem dX3_tellScene_0 : decode cX3_tellScene 0 = .ok (.aload_n 0, 1) := by decide +kernel
theorem dX3_tellScene_1 : decode cX3_tellScene 1 = .ok (.getfield 36, 3) := by decide +kernel
theorem dX3_tellScene_4 : decode cX3_tellScene 4 = .ok (.getfield 117, 3) := by decide +kernel
theorem dX3_tellScene_7 : decode cX3_tellScene 7 = .ok (.bipush 10, 2) := by decide +kernel
theorem dX3_tellScene_9 : decode cX3_tellScene 9 = .ok (.if_icmp .ge 27, 3) := by decide +kernel
theorem dX3_tellScene_12 : decode cX3_tellScene 12 = .ok (.iload_n 1, 1) := by decide +kernel
theorem dX3_tellScene_13 : decode cX3_tellScene 13 = .ok (.iconst 1, 1) := by decide +kernel
theorem dX3_tellScene_14 : decode cX3_tellScene 14 = .ok (.if_icmp .lt 22, 3) := by decide +kernel
theorem dX3_tellScene_17 : decode cX3_tellScene 17 = .ok (.aload_n 0, 1) := by decide +kernel
theorem dX3_tellScene_18 : decode cX3_tellScene 18 = .ok (.iload_n 1, 1) := by decide +kernel
theorem dX3_tellScene_19 : decode cX3_tellScene 19 = .ok (.invokevirtual 120, 3) := by decide +kernel
theorem dX3_tellScene_22 : decode cX3_tellScene 22 = .ok (.ifCond .eq 14, 3) := by decide +kernel
theorem dX3_tellScene_25 : decode cX3_tellScene 25 = .ok (.iload_n 2, 1) := by decide +kernel
theorem dX3_tellScene_26 : decode cX3_tellScene 26 = .ok (.iconst 1, 1) := by decide +kernel
theorem dX3_tellScene_27 : decode cX3_tellScene 27 = .ok (.if_icmp .lt 9, 3) := by decide +kernel
theorem dX3_tellScene_30 : decode cX3_tellScene 30 = .ok (.iload_n 2, 1) := by decide +kernel
theorem dX3_tellScene_31 : decode cX3_tellScene 31 = .ok (.bipush 99, 2) := by decide +kernel
theorem dX3_tellScene_33 : decode cX3_tellScene 33 = .ok (.if_icmp .le 5, 3) := by decide +kernel
theorem dX3_tellScene_36 : decode cX3_tellScene 36 = .ok (.iconst 0, 1) := by decide +kernel
theorem dX3_tellScene_37 : decode cX3_tellScene 37 = .ok (.ireturn, 1) := by decide +kernel
theorem dX3_tellScene_38 : decode cX3_tellScene 38 = .ok (.aload_n 0, 1) := by decide +kernel
theorem dX3_tellScene_39 : decode cX3_tellScene 39 = .ok (.getfield 36, 3) := by decide +kernel
theorem dX3_tellScene_42 : decode cX3_tellScene 42 = .ok (.iload_n 1, 1) := by decide +kernel
theorem dX3_tellScene_43 : decode cX3_tellScene 43 = .ok (.iload_n 2, 1) := by decide +kernel
theorem dX3_tellScene_44 : decode cX3_tellScene 44 = .ok (.invokevirtual 123, 3) := by decide +kernel
theorem dX3_tellScene_47 : decode cX3_tellScene 47 = .ok (.iconst 1, 1) := by decide +kernel
theorem dX3_tellScene_48 : decode cX3_tellScene 48 = .ok (.ireturn, 1) := by decide +kernel
theorem dX3_giveOwn_0 : decode cX3_giveOwn 0 = .ok (.aload_n 0, 1) := by decide +kernel
theorem dX3_giveOwn_1 : decode cX3_giveOwn 1 = .ok (.iload_n 1, 1) := by decide +kernel
theorem dX3_giveOwn_2 : decode cX3_giveOwn 2 = .ok (.invokevirtual 127, 3) := by decide +kernel
theorem dX3_giveOwn_5 : decode cX3_giveOwn 5 = .ok (.ifCond .eq 11, 3) := by decide +kernel
theorem dX3_giveOwn_8 : decode cX3_giveOwn 8 = .ok (.aload_n 0, 1) := by decide +kernel
theorem dX3_giveOwn_9 : decode cX3_giveOwn 9 = .ok (.iload_n 2, 1) := by decide +kernel
theorem dX3_giveOwn_10 : decode cX3_giveOwn 10 = .ok (.invokevirtual 130, 3) := by decide +kernel
theorem dX3_giveOwn_13 : decode cX3_giveOwn 13 = .ok (.ifCond .ne 5, 3) := by decide +kernel
theorem dX3_giveOwn_16 : decode cX3_giveOwn 16 = .ok (.iconst 0, 1) := by decide +kernel
theorem dX3_giveOwn_17 : decode cX3_giveOwn 17 = .ok (.ireturn, 1) := by decide +kernel
theorem dX3_giveOwn_18 : decode cX3_giveOwn 18 = .ok (.aload_n 0, 1) := by decide +kernel
theorem dX3_giveOwn_19 : decode cX3_giveOwn 19 = .ok (.getfield 30, 3) := by decide +kernel
theorem dX3_giveOwn_22 : decode cX3_giveOwn 22 = .ok (.iload_n 2, 1) := by decide +kernel
theorem dX3_giveOwn_23 : decode cX3_giveOwn 23 = .ok (.iload_n 1, 1) := by decide +kernel
theorem dX3_giveOwn_24 : decode cX3_giveOwn 24 = .ok (.iastore, 1) := by decide +kernel
theorem dX3_giveOwn_25 : decode cX3_giveOwn 25 = .ok (.iconst 1, 1) := by decide +kernel
theorem dX3_giveOwn_26 : decode cX3_giveOwn 26 = .ok (.ireturn, 1) := by decide +kernel
theorem dX3_addCover_0 : decode cX3_addCover 0 = .ok (.aload_n 0, 1) := by decide +kernel
theorem dX3_addCover_1 : decode cX3_addCover 1 = .ok (.getfield 56, 3) := by decide +kernel
theorem dX3_addCover_4 : decode cX3_addCover 4 = .ok (.bipush 24, 2) := by decide +kernel
theorem dX3_addCover_6 : decode cX3_addCover 6 = .ok (.if_icmp .ge 19, 3) := by decide +kernel
theorem dX3_addCover_9 : decode cX3_addCover 9 = .ok (.aload_n 0, 1) := by decide +kernel
theorem dX3_addCover_10 : decode cX3_addCover 10 = .ok (.iload_n 1, 1) := by decide +kernel
theorem dX3_addCover_11 : decode cX3_addCover 11 = .ok (.invokevirtual 127, 3) := by decide +kernel
theorem dX3_addCover_14 : decode cX3_addCover 14 = .ok (.ifCond .eq 11, 3) := by decide +kernel
theorem dX3_addCover_17 : decode cX3_addCover 17 = .ok (.aload_n 0, 1) := by decide +kernel
theorem dX3_addCover_18 : decode cX3_addCover 18 = .ok (.iload_n 2, 1) := by decide +kernel
theorem dX3_addCover_19 : decode cX3_addCover 19 = .ok (.invokevirtual 130, 3) := by decide +kernel
theorem dX3_addCover_22 : decode cX3_addCover 22 = .ok (.ifCond .ne 5, 3) := by decide +kernel
theorem dX3_addCover_25 : decode cX3_addCover 25 = .ok (.iconst 0, 1) := by decide +kernel
theorem dX3_addCover_26 : decode cX3_addCover 26 = .ok (.ireturn, 1) := by decide +kernel
theorem dX3_addCover_27 : decode cX3_addCover 27 = .ok (.aload_n 0, 1) := by decide +kernel
theorem dX3_addCover_28 : decode cX3_addCover 28 = .ok (.getfield 18, 3) := by decide +kernel
theorem dX3_addCover_31 : decode cX3_addCover 31 = .ok (.iload_n 1, 1) := by decide +kernel
theorem dX3_addCover_32 : decode cX3_addCover 32 = .ok (.dup2, 1) := by decide +kernel
theorem dX3_addCover_33 : decode cX3_addCover 33 = .ok (.iaload, 1) := by decide +kernel
theorem dX3_addCover_34 : decode cX3_addCover 34 = .ok (.iconst 1, 1) := by decide +kernel
theorem dX3_addCover_35 : decode cX3_addCover 35 = .ok (.iload_n 2, 1) := by decide +kernel
theorem dX3_addCover_36 : decode cX3_addCover 36 = .ok (.ishl, 1) := by decide +kernel
theorem dX3_addCover_37 : decode cX3_addCover 37 = .ok (.ior, 1) := by decide +kernel
theorem dX3_addCover_38 : decode cX3_addCover 38 = .ok (.iastore, 1) := by decide +kernel
theorem dX3_addCover_39 : decode cX3_addCover 39 = .ok (.aload_n 0, 1) := by decide +kernel
theorem dX3_addCover_40 : decode cX3_addCover 40 = .ok (.dup, 1) := by decide +kernel
theorem dX3_addCover_41 : decode cX3_addCover 41 = .ok (.getfield 56, 3) := by decide +kernel
theorem dX3_addCover_44 : decode cX3_addCover 44 = .ok (.iconst 1, 1) := by decide +kernel
theorem dX3_addCover_45 : decode cX3_addCover 45 = .ok (.iadd, 1) := by decide +kernel
theorem dX3_addCover_46 : decode cX3_addCover 46 = .ok (.putfield 56, 3) := by decide +kernel
theorem dX3_addCover_49 : decode cX3_addCover 49 = .ok (.iconst 1, 1) := by decide +kernel
theorem dX3_addCover_50 : decode cX3_addCover 50 = .ok (.ireturn, 1) := by decide +kernel
theorem dX3_setContagion_0 : decode cX3_setContagion 0 = .ok (.aload_n 0, 1) := by decide +kernel
theorem dX3_setContagion_1 : decode cX3_setContagion 1 = .ok (.iload_n 1, 1) := by decide +kernel
theorem dX3_setContagion_2 : decode cX3_setContagion 2 = .ok (.invokevirtual 127, 3) := by decide +kernel
theorem dX3_setContagion_5 : decode cX3_setContagion 5 = .ok (.ifCond .eq 22, 3) := by decide +kernel
theorem dX3_setContagion_8 : decode cX3_setContagion 8 = .ok (.aload_n 0, 1) := by decide +kernel
theorem dX3_setContagion_9 : decode cX3_setContagion 9 = .ok (.iload_n 2, 1) := by decide +kernel
theorem dX3_setContagion_10 : decode cX3_setContagion 10 = .ok (.invokevirtual 127, 3) := by decide +kernel
theorem dX3_setContagion_13 : decode cX3_setContagion 13 = .ok (.ifCond .eq 14, 3) := by decide +kernel
theorem dX3_setContagion_16 : decode cX3_setContagion 16 = .ok (.iload_n 1, 1) := by decide +kernel
theorem dX3_setContagion_17 : decode cX3_setContagion 17 = .ok (.iload_n 2, 1) := by decide +kernel
theorem dX3_setContagion_18 : decode cX3_setContagion 18 = .ok (.if_icmp .eq 9, 3) := by decide +kernel
theorem dX3_setContagion_21 : decode cX3_setContagion 21 = .ok (.iload_n 3, 1) := by decide +kernel
theorem dX3_setContagion_22 : decode cX3_setContagion 22 = .ok (.bipush 100, 2) := by decide +kernel
theorem dX3_setContagion_24 : decode cX3_setContagion 24 = .ok (.if_icmp .le 5, 3) := by decide +kernel
theorem dX3_setContagion_27 : decode cX3_setContagion 27 = .ok (.iconst 0, 1) := by decide +kernel
theorem dX3_setContagion_28 : decode cX3_setContagion 28 = .ok (.ireturn, 1) := by decide +kernel
theorem dX3_setContagion_29 : decode cX3_setContagion 29 = .ok (.aload_n 0, 1) := by decide +kernel
theorem dX3_setContagion_30 : decode cX3_setContagion 30 = .ok (.getfield 40, 3) := by decide +kernel
theorem dX3_setContagion_33 : decode cX3_setContagion 33 = .ok (.iload_n 1, 1) := by decide +kernel
theorem dX3_setContagion_34 : decode cX3_setContagion 34 = .ok (.bipush 10, 2) := by decide +kernel
theorem dX3_setContagion_36 : decode cX3_setContagion 36 = .ok (.imul, 1) := by decide +kernel
theorem dX3_setContagion_37 : decode cX3_setContagion 37 = .ok (.iload_n 2, 1) := by decide +kernel
theorem dX3_setContagion_38 : decode cX3_setContagion 38 = .ok (.iadd, 1) := by decide +kernel
theorem dX3_setContagion_39 : decode cX3_setContagion 39 = .ok (.iload_n 3, 1) := by decide +kernel
theorem dX3_setContagion_40 : decode cX3_setContagion 40 = .ok (.iastore, 1) := by decide +kernel
theorem dX3_setContagion_41 : decode cX3_setContagion 41 = .ok (.aload_n 0, 1) := by decide +kernel
theorem dX3_setContagion_42 : decode cX3_setContagion 42 = .ok (.getfield 40, 3) := by decide +kernel
theorem dX3_setContagion_45 : decode cX3_setContagion 45 = .ok (.iload_n 2, 1) := by decide +kernel
theorem dX3_setContagion_46 : decode cX3_setContagion 46 = .ok (.bipush 10, 2) := by decide +kernel
theorem dX3_setContagion_48 : decode cX3_setContagion 48 = .ok (.imul, 1) := by decide +kernel
theorem dX3_setContagion_49 : decode cX3_setContagion 49 = .ok (.iload_n 1, 1) := by decide +kernel
theorem dX3_setContagion_50 : decode cX3_setContagion 50 = .ok (.iadd, 1) := by decide +kernel
theorem dX3_setContagion_51 : decode cX3_setContagion 51 = .ok (.iload_n 3, 1) := by decide +kernel
theorem dX3_setContagion_52 : decode cX3_setContagion 52 = .ok (.iastore, 1) := by decide +kernel
theorem dX3_setContagion_53 : decode cX3_setContagion 53 = .ok (.iconst 1, 1) := by decide +kernel
theorem dX3_setContagion_54 : decode cX3_setContagion 54 = .ok (.ireturn, 1) := by decide +kernel
theorem dX3_setChange_0 : decode cX3_setChange 0 = .ok (.iload_n 1, 1) := by decide +kernel
theorem dX3_setChange_1 : decode cX3_setChange 1 = .ok (.bipush 99, 2) := by decide +kernel
theorem dX3_setChange_3 : decode cX3_setChange 3 = .ok (.if_icmp .le 5, 3) := by decide +kernel
theorem dX3_setChange_6 : decode cX3_setChange 6 = .ok (.iconst 0, 1) := by decide +kernel
theorem dX3_setChange_7 : decode cX3_setChange 7 = .ok (.ireturn, 1) := by decide +kernel
theorem dX3_setChange_8 : decode cX3_setChange 8 = .ok (.aload_n 0, 1) := by decide +kernel
theorem dX3_setChange_9 : decode cX3_setChange 9 = .ok (.getfield 36, 3) := by decide +kernel
theorem dX3_setChange_12 : decode cX3_setChange 12 = .ok (.iload_n 1, 1) := by decide +kernel
theorem dX3_setChange_13 : decode cX3_setChange 13 = .ok (.putfield 133, 3) := by decide +kernel
theorem dX3_setChange_16 : decode cX3_setChange 16 = .ok (.iconst 1, 1) := by decide +kernel
theorem dX3_setChange_17 : decode cX3_setChange 17 = .ok (.ireturn, 1) := by decide +kernel
theorem dX3_setTailor_0 : decode cX3_setTailor 0 = .ok (.iload_n 1, 1) := by decide +kernel
theorem dX3_setTailor_1 : decode cX3_setTailor 1 = .ok (.bipush 9, 2) := by decide +kernel
theorem dX3_setTailor_3 : decode cX3_setTailor 3 = .ok (.if_icmp .le 5, 3) := by decide +kernel
theorem dX3_setTailor_6 : decode cX3_setTailor 6 = .ok (.iconst 0, 1) := by decide +kernel
theorem dX3_setTailor_7 : decode cX3_setTailor 7 = .ok (.ireturn, 1) := by decide +kernel
theorem dX3_setTailor_8 : decode cX3_setTailor 8 = .ok (.aload_n 0, 1) := by decide +kernel
theorem dX3_setTailor_9 : decode cX3_setTailor 9 = .ok (.iload_n 1, 1) := by decide +kernel
theorem dX3_setTailor_10 : decode cX3_setTailor 10 = .ok (.putfield 71, 3) := by decide +kernel
theorem dX3_setTailor_13 : decode cX3_setTailor 13 = .ok (.iconst 1, 1) := by decide +kernel
theorem dX3_setTailor_14 : decode cX3_setTailor 14 = .ok (.ireturn, 1) := by decide +kernel
theorem dX3_setForgetting_0 : decode cX3_setForgetting 0 = .ok (.iload_n 1, 1) := by decide +kernel
theorem dX3_setForgetting_1 : decode cX3_setForgetting 1 = .ok (.bipush 99, 2) := by decide +kernel
theorem dX3_setForgetting_3 : decode cX3_setForgetting 3 = .ok (.if_icmp .le 5, 3) := by decide +kernel
theorem dX3_setForgetting_6 : decode cX3_setForgetting 6 = .ok (.iconst 0, 1) := by decide +kernel
theorem dX3_setForgetting_7 : decode cX3_setForgetting 7 = .ok (.ireturn, 1) := by decide +kernel
theorem dX3_setForgetting_8 : decode cX3_setForgetting 8 = .ok (.aload_n 0, 1) := by decide +kernel
theorem dX3_setForgetting_9 : decode cX3_setForgetting 9 = .ok (.iload_n 1, 1) := by decide +kernel
theorem dX3_setForgetting_10 : decode cX3_setForgetting 10 = .ok (.putfield 74, 3) := by decide +kernel
theorem dX3_setForgetting_13 : decode cX3_setForgetting 13 = .ok (.iconst 1, 1) := by decide +kernel
theorem dX3_setForgetting_14 : decode cX3_setForgetting 14 = .ok (.ireturn, 1) := by decide +kernel
theorem dX3_setPay_0 : decode cX3_setPay 0 = .ok (.iload_n 1, 1) := by decide +kernel
theorem dX3_setPay_1 : decode cX3_setPay 1 = .ok (.sipush 999, 3) := by decide +kernel
theorem dX3_setPay_4 : decode cX3_setPay 4 = .ok (.if_icmp .gt 9, 3) := by decide +kernel
theorem dX3_setPay_7 : decode cX3_setPay 7 = .ok (.iload_n 2, 1) := by decide +kernel
theorem dX3_setPay_8 : decode cX3_setPay 8 = .ok (.bipush 99, 2) := by decide +kernel
theorem dX3_setPay_10 : decode cX3_setPay 10 = .ok (.if_icmp .le 5, 3) := by decide +kernel
theorem dX3_setPay_13 : decode cX3_setPay 13 = .ok (.iconst 0, 1) := by decide +kernel
theorem dX3_setPay_14 : decode cX3_setPay 14 = .ok (.ireturn, 1) := by decide +kernel
theorem dX3_setPay_15 : decode cX3_setPay 15 = .ok (.aload_n 0, 1) := by decide +kernel
theorem dX3_setPay_16 : decode cX3_setPay 16 = .ok (.iload_n 1, 1) := by decide +kernel
theorem dX3_setPay_17 : decode cX3_setPay 17 = .ok (.putfield 77, 3) := by decide +kernel
theorem dX3_setPay_20 : decode cX3_setPay 20 = .ok (.aload_n 0, 1) := by decide +kernel
theorem dX3_setPay_21 : decode cX3_setPay 21 = .ok (.iload_n 2, 1) := by decide +kernel
theorem dX3_setPay_22 : decode cX3_setPay 22 = .ok (.putfield 80, 3) := by decide +kernel
theorem dX3_setPay_25 : decode cX3_setPay 25 = .ok (.iconst 1, 1) := by decide +kernel
theorem dX3_setPay_26 : decode cX3_setPay 26 = .ok (.ireturn, 1) := by decide +kernel
theorem dX3_settle_0 : decode cX3_settle 0 = .ok (.iconst 0, 1) := by decide +kernel
theorem dX3_settle_1 : decode cX3_settle 1 = .ok (.istore_n 1, 1) := by decide +kernel
theorem dX3_settle_2 : decode cX3_settle 2 = .ok (.iload_n 1, 1) := by decide +kernel
theorem dX3_settle_3 : decode cX3_settle 3 = .ok (.aload_n 0, 1) := by decide +kernel
theorem dX3_settle_4 : decode cX3_settle 4 = .ok (.getfield 53, 3) := by decide +kernel
theorem dX3_settle_7 : decode cX3_settle 7 = .ok (.if_icmp .ge 128, 3) := by decide +kernel
theorem dX3_settle_10 : decode cX3_settle 10 = .ok (.aload_n 0, 1) := by decide +kernel
theorem dX3_settle_11 : decode cX3_settle 11 = .ok (.getfield 43, 3) := by decide +kernel
theorem dX3_settle_14 : decode cX3_settle 14 = .ok (.iload_n 1, 1) := by decide +kernel
theorem dX3_settle_15 : decode cX3_settle 15 = .ok (.iconst 0, 1) := by decide +kernel
theorem dX3_settle_16 : decode cX3_settle 16 = .ok (.iastore, 1) := by decide +kernel
theorem dX3_settle_17 : decode cX3_settle 17 = .ok (.iconst 0, 1) := by decide +kernel
theorem dX3_settle_18 : decode cX3_settle 18 = .ok (.istore_n 2, 1) := by decide +kernel
theorem dX3_settle_19 : decode cX3_settle 19 = .ok (.iload_n 2, 1) := by decide +kernel
theorem dX3_settle_20 : decode cX3_settle 20 = .ok (.aload_n 0, 1) := by decide +kernel
theorem dX3_settle_21 : decode cX3_settle 21 = .ok (.getfield 49, 3) := by decide +kernel
theorem dX3_settle_24 : decode cX3_settle 24 = .ok (.if_icmp .ge 53, 3) := by decide +kernel
theorem dX3_settle_27 : decode cX3_settle 27 = .ok (.aload_n 0, 1) := by decide +kernel
theorem dX3_settle_28 : decode cX3_settle 28 = .ok (.getfield 30, 3) := by decide +kernel
theorem dX3_settle_31 : decode cX3_settle 31 = .ok (.iload_n 1, 1) := by decide +kernel
theorem dX3_settle_32 : decode cX3_settle 32 = .ok (.iaload, 1) := by decide +kernel
theorem dX3_settle_33 : decode cX3_settle 33 = .ok (.iload_n 2, 1) := by decide +kernel
theorem dX3_settle_34 : decode cX3_settle 34 = .ok (.if_icmp .eq 16, 3) := by decide +kernel
theorem dX3_settle_37 : decode cX3_settle 37 = .ok (.aload_n 0, 1) := by decide +kernel
theorem dX3_settle_38 : decode cX3_settle 38 = .ok (.getfield 18, 3) := by decide +kernel
theorem dX3_settle_41 : decode cX3_settle 41 = .ok (.iload_n 2, 1) := by decide +kernel
theorem dX3_settle_42 : decode cX3_settle 42 = .ok (.iaload, 1) := by decide +kernel
theorem dX3_settle_43 : decode cX3_settle 43 = .ok (.iload_n 1, 1) := by decide +kernel
theorem dX3_settle_44 : decode cX3_settle 44 = .ok (.invokestatic 136, 3) := by decide +kernel
theorem dX3_settle_47 : decode cX3_settle 47 = .ok (.ifCond .eq 24, 3) := by decide +kernel
theorem dX3_settle_50 : decode cX3_settle 50 = .ok (.aload_n 0, 1) := by decide +kernel
theorem dX3_settle_51 : decode cX3_settle 51 = .ok (.iload_n 2, 1) := by decide +kernel
theorem dX3_settle_52 : decode cX3_settle 52 = .ok (.iload_n 1, 1) := by decide +kernel
theorem dX3_settle_53 : decode cX3_settle 53 = .ok (.invokevirtual 139, 3) := by decide +kernel
theorem dX3_settle_56 : decode cX3_settle 56 = .ok (.ifCond .eq 15, 3) := by decide +kernel
theorem dX3_settle_59 : decode cX3_settle 59 = .ok (.aload_n 0, 1) := by decide +kernel
theorem dX3_settle_60 : decode cX3_settle 60 = .ok (.getfield 43, 3) := by decide +kernel
theorem dX3_settle_63 : decode cX3_settle 63 = .ok (.iload_n 1, 1) := by decide +kernel
theorem dX3_settle_64 : decode cX3_settle 64 = .ok (.dup2, 1) := by decide +kernel
theorem dX3_settle_65 : decode cX3_settle 65 = .ok (.iaload, 1) := by decide +kernel
theorem dX3_settle_66 : decode cX3_settle 66 = .ok (.iconst 1, 1) := by decide +kernel
theorem dX3_settle_67 : decode cX3_settle 67 = .ok (.iload_n 2, 1) := by decide +kernel
theorem dX3_settle_68 : decode cX3_settle 68 = .ok (.ishl, 1) := by decide +kernel
theorem dX3_settle_69 : decode cX3_settle 69 = .ok (.ior, 1) := by decide +kernel
theorem dX3_settle_70 : decode cX3_settle 70 = .ok (.iastore, 1) := by decide +kernel
theorem dX3_settle_71 : decode cX3_settle 71 = .ok (.iinc 2 1, 3) := by decide +kernel
theorem dX3_settle_74 : decode cX3_settle 74 = .ok (.goto (-55), 3) := by decide +kernel
theorem dX3_settle_77 : decode cX3_settle 77 = .ok (.aload_n 0, 1) := by decide +kernel
theorem dX3_settle_78 : decode cX3_settle 78 = .ok (.getfield 46, 3) := by decide +kernel
theorem dX3_settle_81 : decode cX3_settle 81 = .ok (.iload_n 1, 1) := by decide +kernel
theorem dX3_settle_82 : decode cX3_settle 82 = .ok (.iconst 0, 1) := by decide +kernel
theorem dX3_settle_83 : decode cX3_settle 83 = .ok (.iastore, 1) := by decide +kernel
theorem dX3_settle_84 : decode cX3_settle 84 = .ok (.iconst 0, 1) := by decide +kernel
theorem dX3_settle_85 : decode cX3_settle 85 = .ok (.istore_n 2, 1) := by decide +kernel
theorem dX3_settle_86 : decode cX3_settle 86 = .ok (.iload_n 2, 1) := by decide +kernel
theorem dX3_settle_87 : decode cX3_settle 87 = .ok (.aload_n 0, 1) := by decide +kernel
theorem dX3_settle_88 : decode cX3_settle 88 = .ok (.getfield 53, 3) := by decide +kernel
theorem dX3_settle_91 : decode cX3_settle 91 = .ok (.if_icmp .ge 38, 3) := by decide +kernel
theorem dX3_settle_94 : decode cX3_settle 94 = .ok (.iload_n 2, 1) := by decide +kernel
theorem dX3_settle_95 : decode cX3_settle 95 = .ok (.iload_n 1, 1) := by decide +kernel
theorem dX3_settle_96 : decode cX3_settle 96 = .ok (.if_icmp .eq 27, 3) := by decide +kernel
theorem dX3_settle_99 : decode cX3_settle 99 = .ok (.aload_n 0, 1) := by decide +kernel
theorem dX3_settle_100 : decode cX3_settle 100 = .ok (.getfield 36, 3) := by decide +kernel
theorem dX3_settle_103 : decode cX3_settle 103 = .ok (.iload_n 1, 1) := by decide +kernel
theorem dX3_settle_104 : decode cX3_settle 104 = .ok (.iload_n 2, 1) := by decide +kernel
theorem dX3_settle_105 : decode cX3_settle 105 = .ok (.invokevirtual 142, 3) := by decide +kernel
theorem dX3_settle_108 : decode cX3_settle 108 = .ok (.ifCond .eq 15, 3) := by decide +kernel
theorem dX3_settle_111 : decode cX3_settle 111 = .ok (.aload_n 0, 1) := by decide +kernel
theorem dX3_settle_112 : decode cX3_settle 112 = .ok (.getfield 46, 3) := by decide +kernel
theorem dX3_settle_115 : decode cX3_settle 115 = .ok (.iload_n 1, 1) := by decide +kernel
theorem dX3_settle_116 : decode cX3_settle 116 = .ok (.dup2, 1) := by decide +kernel
theorem dX3_settle_117 : decode cX3_settle 117 = .ok (.iaload, 1) := by decide +kernel
theorem dX3_settle_118 : decode cX3_settle 118 = .ok (.iconst 1, 1) := by decide +kernel
theorem dX3_settle_119 : decode cX3_settle 119 = .ok (.iload_n 2, 1) := by decide +kernel
theorem dX3_settle_120 : decode cX3_settle 120 = .ok (.ishl, 1) := by decide +kernel
theorem dX3_settle_121 : decode cX3_settle 121 = .ok (.ior, 1) := by decide +kernel
theorem dX3_settle_122 : decode cX3_settle 122 = .ok (.iastore, 1) := by decide +kernel
theorem dX3_settle_123 : decode cX3_settle 123 = .ok (.iinc 2 1, 3) := by decide +kernel
theorem dX3_settle_126 : decode cX3_settle 126 = .ok (.goto (-40), 3) := by decide +kernel
theorem dX3_settle_129 : decode cX3_settle 129 = .ok (.iinc 1 1, 3) := by decide +kernel
theorem dX3_settle_132 : decode cX3_settle 132 = .ok (.goto (-130), 3) := by decide +kernel
theorem dX3_settle_135 : decode cX3_settle 135 = .ok (.return_, 1) := by decide +kernel
theorem dX3_isSkilled_0 : decode cX3_isSkilled 0 = .ok (.aload_n 0, 1) := by decide +kernel
theorem dX3_isSkilled_1 : decode cX3_isSkilled 1 = .ok (.getfield 24, 3) := by decide +kernel
theorem dX3_isSkilled_4 : decode cX3_isSkilled 4 = .ok (.iload_n 2, 1) := by decide +kernel
theorem dX3_isSkilled_5 : decode cX3_isSkilled 5 = .ok (.iaload, 1) := by decide +kernel
theorem dX3_isSkilled_6 : decode cX3_isSkilled 6 = .ok (.aload_n 0, 1) := by decide +kernel
theorem dX3_isSkilled_7 : decode cX3_isSkilled 7 = .ok (.getfield 15, 3) := by decide +kernel
theorem dX3_isSkilled_10 : decode cX3_isSkilled 10 = .ok (.iload_n 1, 1) := by decide +kernel
theorem dX3_isSkilled_11 : decode cX3_isSkilled 11 = .ok (.iaload, 1) := by decide +kernel
theorem dX3_isSkilled_12 : decode cX3_isSkilled 12 = .ok (.iconst (-1), 1) := by decide +kernel
theorem dX3_isSkilled_13 : decode cX3_isSkilled 13 = .ok (.ixor, 1) := by decide +kernel
theorem dX3_isSkilled_14 : decode cX3_isSkilled 14 = .ok (.iand, 1) := by decide +kernel
theorem dX3_isSkilled_15 : decode cX3_isSkilled 15 = .ok (.ifCond .ne 7, 3) := by decide +kernel
theorem dX3_isSkilled_18 : decode cX3_isSkilled 18 = .ok (.iconst 1, 1) := by decide +kernel
theorem dX3_isSkilled_19 : decode cX3_isSkilled 19 = .ok (.goto 4, 3) := by decide +kernel
theorem dX3_isSkilled_22 : decode cX3_isSkilled 22 = .ok (.iconst 0, 1) := by decide +kernel
theorem dX3_isSkilled_23 : decode cX3_isSkilled 23 = .ok (.ireturn, 1) := by decide +kernel
theorem dX3_hasPlayer_0 : decode cX3_hasPlayer 0 = .ok (.iload_n 1, 1) := by decide +kernel
theorem dX3_hasPlayer_1 : decode cX3_hasPlayer 1 = .ok (.ifCond .lt 15, 3) := by decide +kernel
theorem dX3_hasPlayer_4 : decode cX3_hasPlayer 4 = .ok (.iload_n 1, 1) := by decide +kernel
theorem dX3_hasPlayer_5 : decode cX3_hasPlayer 5 = .ok (.aload_n 0, 1) := by decide +kernel
theorem dX3_hasPlayer_6 : decode cX3_hasPlayer 6 = .ok (.getfield 49, 3) := by decide +kernel
theorem dX3_hasPlayer_9 : decode cX3_hasPlayer 9 = .ok (.if_icmp .ge 7, 3) := by decide +kernel
theorem dX3_hasPlayer_12 : decode cX3_hasPlayer 12 = .ok (.iconst 1, 1) := by decide +kernel
theorem dX3_hasPlayer_13 : decode cX3_hasPlayer 13 = .ok (.goto 4, 3) := by decide +kernel
theorem dX3_hasPlayer_16 : decode cX3_hasPlayer 16 = .ok (.iconst 0, 1) := by decide +kernel
theorem dX3_hasPlayer_17 : decode cX3_hasPlayer 17 = .ok (.ireturn, 1) := by decide +kernel
theorem dX3_hasPart_0 : decode cX3_hasPart 0 = .ok (.iload_n 1, 1) := by decide +kernel
theorem dX3_hasPart_1 : decode cX3_hasPart 1 = .ok (.ifCond .lt 15, 3) := by decide +kernel
theorem dX3_hasPart_4 : decode cX3_hasPart 4 = .ok (.iload_n 1, 1) := by decide +kernel
theorem dX3_hasPart_5 : decode cX3_hasPart 5 = .ok (.aload_n 0, 1) := by decide +kernel
theorem dX3_hasPart_6 : decode cX3_hasPart 6 = .ok (.getfield 53, 3) := by decide +kernel
theorem dX3_hasPart_9 : decode cX3_hasPart 9 = .ok (.if_icmp .ge 7, 3) := by decide +kernel
theorem dX3_hasPart_12 : decode cX3_hasPart 12 = .ok (.iconst 1, 1) := by decide +kernel
theorem dX3_hasPart_13 : decode cX3_hasPart 13 = .ok (.goto 4, 3) := by decide +kernel
theorem dX3_hasPart_16 : decode cX3_hasPart 16 = .ok (.iconst 0, 1) := by decide +kernel
theorem dX3_hasPart_17 : decode cX3_hasPart 17 = .ok (.ireturn, 1) := by decide +kernel
theorem dX3_hasPlayers_0 : decode cX3_hasPlayers 0 = .ok (.iload_n 1, 1) := by decide +kernel
theorem dX3_hasPlayers_1 : decode cX3_hasPlayers 1 = .ok (.ifCond .lt 17, 3) := by decide +kernel
theorem dX3_hasPlayers_4 : decode cX3_hasPlayers 4 = .ok (.iload_n 1, 1) := by decide +kernel
theorem dX3_hasPlayers_5 : decode cX3_hasPlayers 5 = .ok (.iconst 1, 1) := by decide +kernel
theorem dX3_hasPlayers_6 : decode cX3_hasPlayers 6 = .ok (.aload_n 0, 1) := by decide +kernel
theorem dX3_hasPlayers_7 : decode cX3_hasPlayers 7 = .ok (.getfield 49, 3) := by decide +kernel
theorem dX3_hasPlayers_10 : decode cX3_hasPlayers 10 = .ok (.ishl, 1) := by decide +kernel
theorem dX3_hasPlayers_11 : decode cX3_hasPlayers 11 = .ok (.if_icmp .ge 7, 3) := by decide +kernel
theorem dX3_hasPlayers_14 : decode cX3_hasPlayers 14 = .ok (.iconst 1, 1) := by decide +kernel
theorem dX3_hasPlayers_15 : decode cX3_hasPlayers 15 = .ok (.goto 4, 3) := by decide +kernel
theorem dX3_hasPlayers_18 : decode cX3_hasPlayers 18 = .ok (.iconst 0, 1) := by decide +kernel
theorem dX3_hasPlayers_19 : decode cX3_hasPlayers 19 = .ok (.ireturn, 1) := by decide +kernel
theorem dX3_hasParts_0 : decode cX3_hasParts 0 = .ok (.iload_n 1, 1) := by decide +kernel
theorem dX3_hasParts_1 : decode cX3_hasParts 1 = .ok (.ifCond .lt 17, 3) := by decide +kernel
theorem dX3_hasParts_4 : decode cX3_hasParts 4 = .ok (.iload_n 1, 1) := by decide +kernel
theorem dX3_hasParts_5 : decode cX3_hasParts 5 = .ok (.iconst 1, 1) := by decide +kernel
theorem dX3_hasParts_6 : decode cX3_hasParts 6 = .ok (.aload_n 0, 1) := by decide +kernel
theorem dX3_hasParts_7 : decode cX3_hasParts 7 = .ok (.getfield 53, 3) := by decide +kernel
theorem dX3_hasParts_10 : decode cX3_hasParts 10 = .ok (.ishl, 1) := by decide +kernel
theorem dX3_hasParts_11 : decode cX3_hasParts 11 = .ok (.if_icmp .ge 7, 3) := by decide +kernel
theorem dX3_hasParts_14 : decode cX3_hasParts 14 = .ok (.iconst 1, 1) := by decide +kernel
theorem dX3_hasParts_15 : decode cX3_hasParts 15 = .ok (.goto 4, 3) := by decide +kernel
theorem dX3_hasParts_18 : decode cX3_hasParts 18 = .ok (.iconst 0, 1) := by decide +kernel
theorem dX3_hasParts_19 : decode cX3_hasParts 19 = .ok (.ireturn, 1) := by decide +kernel
theorem dX3_mayPlay_0 : decode cX3_mayPlay 0 = .ok (.aload_n 0, 1) := by decide +kernel
theorem dX3_mayPlay_1 : decode cX3_mayPlay 1 = .ok (.getfield 43, 3) := by decide +kernel
theorem dX3_mayPlay_4 : decode cX3_mayPlay 4 = .ok (.iload_n 2, 1) := by decide +kernel
theorem dX3_mayPlay_5 : decode cX3_mayPlay 5 = .ok (.iaload, 1) := by decide +kernel
theorem dX3_mayPlay_6 : decode cX3_mayPlay 6 = .ok (.iload_n 1, 1) := by decide +kernel
theorem dX3_mayPlay_7 : decode cX3_mayPlay 7 = .ok (.invokestatic 136, 3) := by decide +kernel
theorem dX3_mayPlay_10 : decode cX3_mayPlay 10 = .ok (.ireturn, 1) := by decide +kernel
theorem dX3_ownParts_0 : decode cX3_ownParts 0 = .ok (.iconst 0, 1) := by decide +kernel
theorem dX3_ownParts_1 : decode cX3_ownParts 1 = .ok (.istore_n 2, 1) := by decide +kernel
theorem dX3_ownParts_2 : decode cX3_ownParts 2 = .ok (.iconst 0, 1) := by decide +kernel
theorem dX3_ownParts_3 : decode cX3_ownParts 3 = .ok (.istore_n 3, 1) := by decide +kernel
theorem dX3_ownParts_4 : decode cX3_ownParts 4 = .ok (.iload_n 3, 1) := by decide +kernel
theorem dX3_ownParts_5 : decode cX3_ownParts 5 = .ok (.aload_n 0, 1) := by decide +kernel
theorem dX3_ownParts_6 : decode cX3_ownParts 6 = .ok (.getfield 53, 3) := by decide +kernel
theorem dX3_ownParts_9 : decode cX3_ownParts 9 = .ok (.if_icmp .ge 25, 3) := by decide +kernel
theorem dX3_ownParts_12 : decode cX3_ownParts 12 = .ok (.aload_n 0, 1) := by decide +kernel
theorem dX3_ownParts_13 : decode cX3_ownParts 13 = .ok (.getfield 30, 3) := by decide +kernel
theorem dX3_ownParts_16 : decode cX3_ownParts 16 = .ok (.iload_n 3, 1) := by decide +kernel
theorem dX3_ownParts_17 : decode cX3_ownParts 17 = .ok (.iaload, 1) := by decide +kernel
theorem dX3_ownParts_18 : decode cX3_ownParts 18 = .ok (.iload_n 1, 1) := by decide +kernel
theorem dX3_ownParts_19 : decode cX3_ownParts 19 = .ok (.if_icmp .ne 9, 3) := by decide +kernel
theorem dX3_ownParts_22 : decode cX3_ownParts 22 = .ok (.iload_n 2, 1) := by decide +kernel
theorem dX3_ownParts_23 : decode cX3_ownParts 23 = .ok (.iconst 1, 1) := by decide +kernel
theorem dX3_ownParts_24 : decode cX3_ownParts 24 = .ok (.iload_n 3, 1) := by decide +kernel
theorem dX3_ownParts_25 : decode cX3_ownParts 25 = .ok (.ishl, 1) := by decide +kernel
theorem dX3_ownParts_26 : decode cX3_ownParts 26 = .ok (.ior, 1) := by decide +kernel
theorem dX3_ownParts_27 : decode cX3_ownParts 27 = .ok (.istore_n 2, 1) := by decide +kernel
theorem dX3_ownParts_28 : decode cX3_ownParts 28 = .ok (.iinc 3 1, 3) := by decide +kernel
theorem dX3_ownParts_31 : decode cX3_ownParts 31 = .ok (.goto (-27), 3) := by decide +kernel
theorem dX3_ownParts_34 : decode cX3_ownParts 34 = .ok (.iload_n 2, 1) := by decide +kernel
theorem dX3_ownParts_35 : decode cX3_ownParts 35 = .ok (.ireturn, 1) := by decide +kernel
theorem dX3_playable_0 : decode cX3_playable 0 = .ok (.iconst 0, 1) := by decide +kernel
theorem dX3_playable_1 : decode cX3_playable 1 = .ok (.istore_n 2, 1) := by decide +kernel
theorem dX3_playable_2 : decode cX3_playable 2 = .ok (.iconst 0, 1) := by decide +kernel
theorem dX3_playable_3 : decode cX3_playable 3 = .ok (.istore_n 3, 1) := by decide +kernel
theorem dX3_playable_4 : decode cX3_playable 4 = .ok (.iload_n 3, 1) := by decide +kernel
theorem dX3_playable_5 : decode cX3_playable 5 = .ok (.aload_n 0, 1) := by decide +kernel
theorem dX3_playable_6 : decode cX3_playable 6 = .ok (.getfield 53, 3) := by decide +kernel
theorem dX3_playable_9 : decode cX3_playable 9 = .ok (.if_icmp .ge 24, 3) := by decide +kernel
theorem dX3_playable_12 : decode cX3_playable 12 = .ok (.aload_n 0, 1) := by decide +kernel
theorem dX3_playable_13 : decode cX3_playable 13 = .ok (.iload_n 1, 1) := by decide +kernel
theorem dX3_playable_14 : decode cX3_playable 14 = .ok (.iload_n 3, 1) := by decide +kernel
theorem dX3_playable_15 : decode cX3_playable 15 = .ok (.invokevirtual 145, 3) := by decide +kernel
theorem dX3_playable_18 : decode cX3_playable 18 = .ok (.ifCond .eq 9, 3) := by decide +kernel
theorem dX3_playable_21 : decode cX3_playable 21 = .ok (.iload_n 2, 1) := by decide +kernel
theorem dX3_playable_22 : decode cX3_playable 22 = .ok (.iconst 1, 1) := by decide +kernel
theorem dX3_playable_23 : decode cX3_playable 23 = .ok (.iload_n 3, 1) := by decide +kernel
theorem dX3_playable_24 : decode cX3_playable 24 = .ok (.ishl, 1) := by decide +kernel
theorem dX3_playable_25 : decode cX3_playable 25 = .ok (.ior, 1) := by decide +kernel
theorem dX3_playable_26 : decode cX3_playable 26 = .ok (.istore_n 2, 1) := by decide +kernel
theorem dX3_playable_27 : decode cX3_playable 27 = .ok (.iinc 3 1, 3) := by decide +kernel
theorem dX3_playable_30 : decode cX3_playable 30 = .ok (.goto (-26), 3) := by decide +kernel
theorem dX3_playable_33 : decode cX3_playable 33 = .ok (.iload_n 2, 1) := by decide +kernel
theorem dX3_playable_34 : decode cX3_playable 34 = .ok (.ireturn, 1) := by decide +kernel
theorem dX3_linesTogether_0 : decode cX3_linesTogether 0 = .ok (.iconst 0, 1) := by decide +kernel
theorem dX3_linesTogether_1 : decode cX3_linesTogether 1 = .ok (.istore_n 2, 1) := by decide +kernel
theorem dX3_linesTogether_2 : decode cX3_linesTogether 2 = .ok (.iconst 0, 1) := by decide +kernel
theorem dX3_linesTogether_3 : decode cX3_linesTogether 3 = .ok (.istore_n 3, 1) := by decide +kernel
theorem dX3_linesTogether_4 : decode cX3_linesTogether 4 = .ok (.iload_n 3, 1) := by decide +kernel
theorem dX3_linesTogether_5 : decode cX3_linesTogether 5 = .ok (.aload_n 0, 1) := by decide +kernel
theorem dX3_linesTogether_6 : decode cX3_linesTogether 6 = .ok (.getfield 53, 3) := by decide +kernel
theorem dX3_linesTogether_9 : decode cX3_linesTogether 9 = .ok (.if_icmp .ge 26, 3) := by decide +kernel
theorem dX3_linesTogether_12 : decode cX3_linesTogether 12 = .ok (.iload_n 1, 1) := by decide +kernel
theorem dX3_linesTogether_13 : decode cX3_linesTogether 13 = .ok (.iload_n 3, 1) := by decide +kernel
theorem dX3_linesTogether_14 : decode cX3_linesTogether 14 = .ok (.invokestatic 136, 3) := by decide +kernel
theorem dX3_linesTogether_17 : decode cX3_linesTogether 17 = .ok (.ifCond .eq 12, 3) := by decide +kernel
theorem dX3_linesTogether_20 : decode cX3_linesTogether 20 = .ok (.iload_n 2, 1) := by decide +kernel
theorem dX3_linesTogether_21 : decode cX3_linesTogether 21 = .ok (.aload_n 0, 1) := by decide +kernel
theorem dX3_linesTogether_22 : decode cX3_linesTogether 22 = .ok (.getfield 27, 3) := by decide +kernel
theorem dX3_linesTogether_25 : decode cX3_linesTogether 25 = .ok (.iload_n 3, 1) := by decide +kernel
theorem dX3_linesTogether_26 : decode cX3_linesTogether 26 = .ok (.iaload, 1) := by decide +kernel
theorem dX3_linesTogether_27 : decode cX3_linesTogether 27 = .ok (.iadd, 1) := by decide +kernel
theorem dX3_linesTogether_28 : decode cX3_linesTogether 28 = .ok (.istore_n 2, 1) := by decide +kernel
theorem dX3_linesTogether_29 : decode cX3_linesTogether 29 = .ok (.iinc 3 1, 3) := by decide +kernel
theorem dX3_linesTogether_32 : decode cX3_linesTogether 32 = .ok (.goto (-28), 3) := by decide +kernel
theorem dX3_linesTogether_35 : decode cX3_linesTogether 35 = .ok (.iload_n 2, 1) := by decide +kernel
theorem dX3_linesTogether_36 : decode cX3_linesTogether 36 = .ok (.ireturn, 1) := by decide +kernel
theorem dX3_hours_0 : decode cX3_hours 0 = .ok (.aload_n 0, 1) := by decide +kernel
theorem dX3_hours_1 : decode cX3_hours 1 = .ok (.getfield 27, 3) := by decide +kernel
theorem dX3_hours_4 : decode cX3_hours 4 = .ok (.iload_n 1, 1) := by decide +kernel
theorem dX3_hours_5 : decode cX3_hours 5 = .ok (.iaload, 1) := by decide +kernel
theorem dX3_hours_6 : decode cX3_hours 6 = .ok (.bipush 99, 2) := by decide +kernel
theorem dX3_hours_8 : decode cX3_hours 8 = .ok (.iadd, 1) := by decide +kernel
theorem dX3_hours_9 : decode cX3_hours 9 = .ok (.bipush 100, 2) := by decide +kernel
theorem dX3_hours_11 : decode cX3_hours 11 = .ok (.idiv, 1) := by decide +kernel
theorem dX3_hours_12 : decode cX3_hours 12 = .ok (.ireturn, 1) := by decide +kernel
theorem dX4_init_0 : decode cX4_init 0 = .ok (.aload_n 0, 1) := by decide +kernel
theorem dX4_init_1 : decode cX4_init 1 = .ok (.invokespecial 3, 3) := by decide +kernel
theorem dX4_init_4 : decode cX4_init 4 = .ok (.aload_n 0, 1) := by decide +kernel
theorem dX4_init_5 : decode cX4_init 5 = .ok (.bipush 10, 2) := by decide +kernel
theorem dX4_init_7 : decode cX4_init 7 = .ok (.newarray .int, 2) := by decide +kernel
theorem dX4_init_9 : decode cX4_init 9 = .ok (.putfield 9, 3) := by decide +kernel
theorem dX4_init_12 : decode cX4_init 12 = .ok (.aload_n 0, 1) := by decide +kernel
theorem dX4_init_13 : decode cX4_init 13 = .ok (.bipush 80, 2) := by decide +kernel
theorem dX4_init_15 : decode cX4_init 15 = .ok (.newarray .int, 2) := by decide +kernel
theorem dX4_init_17 : decode cX4_init 17 = .ok (.putfield 15, 3) := by decide +kernel
theorem dX4_init_20 : decode cX4_init 20 = .ok (.return_, 1) := by decide +kernel
theorem dX4_clear_0 : decode cX4_clear 0 = .ok (.aload_n 0, 1) := by decide +kernel
theorem dX4_clear_1 : decode cX4_clear 1 = .ok (.iconst 0, 1) := by decide +kernel
theorem dX4_clear_2 : decode cX4_clear 2 = .ok (.putfield 18, 3) := by decide +kernel
theorem dX4_clear_5 : decode cX4_clear 5 = .ok (.aload_n 0, 1) := by decide +kernel
theorem dX4_clear_6 : decode cX4_clear 6 = .ok (.getfield 9, 3) := by decide +kernel
theorem dX4_clear_9 : decode cX4_clear 9 = .ok (.iconst 0, 1) := by decide +kernel
theorem dX4_clear_10 : decode cX4_clear 10 = .ok (.invokestatic 22, 3) := by decide +kernel
theorem dX4_clear_13 : decode cX4_clear 13 = .ok (.aload_n 0, 1) := by decide +kernel
theorem dX4_clear_14 : decode cX4_clear 14 = .ok (.getfield 15, 3) := by decide +kernel
theorem dX4_clear_17 : decode cX4_clear 17 = .ok (.iconst 0, 1) := by decide +kernel
theorem dX4_clear_18 : decode cX4_clear 18 = .ok (.invokestatic 22, 3) := by decide +kernel
theorem dX4_clear_21 : decode cX4_clear 21 = .ok (.return_, 1) := by decide +kernel
theorem dX4_copy_0 : decode cX4_copy 0 = .ok (.aload_n 0, 1) := by decide +kernel
theorem dX4_copy_1 : decode cX4_copy 1 = .ok (.aload_n 1, 1) := by decide +kernel
theorem dX4_copy_2 : decode cX4_copy 2 = .ok (.getfield 18, 3) := by decide +kernel
theorem dX4_copy_5 : decode cX4_copy 5 = .ok (.putfield 18, 3) := by decide +kernel
theorem dX4_copy_8 : decode cX4_copy 8 = .ok (.aload_n 1, 1) := by decide +kernel
theorem dX4_copy_9 : decode cX4_copy 9 = .ok (.getfield 9, 3) := by decide +kernel
theorem dX4_copy_12 : decode cX4_copy 12 = .ok (.iconst 0, 1) := by decide +kernel
theorem dX4_copy_13 : decode cX4_copy 13 = .ok (.aload_n 0, 1) := by decide +kernel
theorem dX4_copy_14 : decode cX4_copy 14 = .ok (.getfield 9, 3) := by decide +kernel
theorem dX4_copy_17 : decode cX4_copy 17 = .ok (.iconst 0, 1) := by decide +kernel
theorem dX4_copy_18 : decode cX4_copy 18 = .ok (.bipush 10, 2) := by decide +kernel
theorem dX4_copy_20 : decode cX4_copy 20 = .ok (.invokestatic 28, 3) := by decide +kernel
theorem dX4_copy_23 : decode cX4_copy 23 = .ok (.aload_n 1, 1) := by decide +kernel
theorem dX4_copy_24 : decode cX4_copy 24 = .ok (.getfield 15, 3) := by decide +kernel
theorem dX4_copy_27 : decode cX4_copy 27 = .ok (.iconst 0, 1) := by decide +kernel
theorem dX4_copy_28 : decode cX4_copy 28 = .ok (.aload_n 0, 1) := by decide +kernel
theorem dX4_copy_29 : decode cX4_copy 29 = .ok (.getfield 15, 3) := by decide +kernel
theorem dX4_copy_32 : decode cX4_copy 32 = .ok (.iconst 0, 1) := by decide +kernel
theorem dX4_copy_33 : decode cX4_copy 33 = .ok (.bipush 80, 2) := by decide +kernel
theorem dX4_copy_35 : decode cX4_copy 35 = .ok (.invokestatic 28, 3) := by decide +kernel
theorem dX4_copy_38 : decode cX4_copy 38 = .ok (.return_, 1) := by decide +kernel
theorem dX4_sayToday_0 : decode cX4_sayToday 0 = .ok (.aload_n 0, 1) := by decide +kernel
theorem dX4_sayToday_1 : decode cX4_sayToday 1 = .ok (.getfield 15, 3) := by decide +kernel
theorem dX4_sayToday_4 : decode cX4_sayToday 4 = .ok (.iload_n 1, 1) := by decide +kernel
theorem dX4_sayToday_5 : decode cX4_sayToday 5 = .ok (.bipush 8, 2) := by decide +kernel
theorem dX4_sayToday_7 : decode cX4_sayToday 7 = .ok (.imul, 1) := by decide +kernel
theorem dX4_sayToday_8 : decode cX4_sayToday 8 = .ok (.iload_n 2, 1) := by decide +kernel
theorem dX4_sayToday_9 : decode cX4_sayToday 9 = .ok (.iadd, 1) := by decide +kernel
theorem dX4_sayToday_10 : decode cX4_sayToday 10 = .ok (.aload_n 0, 1) := by decide +kernel
theorem dX4_sayToday_11 : decode cX4_sayToday 11 = .ok (.getfield 18, 3) := by decide +kernel
theorem dX4_sayToday_14 : decode cX4_sayToday 14 = .ok (.iastore, 1) := by decide +kernel
theorem dX4_sayToday_15 : decode cX4_sayToday 15 = .ok (.return_, 1) := by decide +kernel
theorem dX4_keptLines_0 : decode cX4_keptLines 0 = .ok (.aload_n 0, 1) := by decide +kernel
theorem dX4_keptLines_1 : decode cX4_keptLines 1 = .ok (.getfield 18, 3) := by decide +kernel
theorem dX4_keptLines_4 : decode cX4_keptLines 4 = .ok (.aload_n 0, 1) := by decide +kernel
theorem dX4_keptLines_5 : decode cX4_keptLines 5 = .ok (.getfield 15, 3) := by decide +kernel
theorem dX4_keptLines_8 : decode cX4_keptLines 8 = .ok (.iload_n 2, 1) := by decide +kernel
theorem dX4_keptLines_9 : decode cX4_keptLines 9 = .ok (.bipush 8, 2) := by decide +kernel
theorem dX4_keptLines_11 : decode cX4_keptLines 11 = .ok (.imul, 1) := by decide +kernel
theorem dX4_keptLines_12 : decode cX4_keptLines 12 = .ok (.iload_n 3, 1) := by decide +kernel
theorem dX4_keptLines_13 : decode cX4_keptLines 13 = .ok (.iadd, 1) := by decide +kernel
theorem dX4_keptLines_14 : decode cX4_keptLines 14 = .ok (.iaload, 1) := by decide +kernel
theorem dX4_keptLines_15 : decode cX4_keptLines 15 = .ok (.isub, 1) := by decide +kernel
theorem dX4_keptLines_16 : decode cX4_keptLines 16 = .ok (.istore 4, 2) := by decide +kernel
theorem dX4_keptLines_18 : decode cX4_keptLines 18 = .ok (.iconst 0, 1) := by decide +kernel
theorem dX4_keptLines_19 : decode cX4_keptLines 19 = .ok (.bipush 100, 2) := by decide +kernel
theorem dX4_keptLines_21 : decode cX4_keptLines 21 = .ok (.aload_n 1, 1) := by decide +kernel
theorem dX4_keptLines_22 : decode cX4_keptLines 22 = .ok (.getfield 34, 3) := by decide +kernel
theorem dX4_keptLines_25 : decode cX4_keptLines 25 = .ok (.iload 4, 2) := by decide +kernel
theorem dX4_keptLines_27 : decode cX4_keptLines 27 = .ok (.imul, 1) := by decide +kernel
theorem dX4_keptLines_28 : decode cX4_keptLines 28 = .ok (.isub, 1) := by decide +kernel
theorem dX4_keptLines_29 : decode cX4_keptLines 29 = .ok (.invokestatic 39, 3) := by decide +kernel
theorem dX4_keptLines_32 : decode cX4_keptLines 32 = .ok (.istore 5, 2) := by decide +kernel
theorem dX4_keptLines_34 : decode cX4_keptLines 34 = .ok (.aload_n 1, 1) := by decide +kernel
theorem dX4_keptLines_35 : decode cX4_keptLines 35 = .ok (.getfield 45, 3) := by decide +kernel
theorem dX4_keptLines_38 : decode cX4_keptLines 38 = .ok (.iload_n 3, 1) := by decide +kernel
theorem dX4_keptLines_39 : decode cX4_keptLines 39 = .ok (.iaload, 1) := by decide +kernel
theorem dX4_keptLines_40 : decode cX4_keptLines 40 = .ok (.iload 5, 2) := by decide +kernel
theorem dX4_keptLines_42 : decode cX4_keptLines 42 = .ok (.imul, 1) := by decide +kernel
theorem dX4_keptLines_43 : decode cX4_keptLines 43 = .ok (.bipush 100, 2) := by decide +kernel
theorem dX4_keptLines_45 : decode cX4_keptLines 45 = .ok (.idiv, 1) := by decide +kernel
theorem dX4_keptLines_46 : decode cX4_keptLines 46 = .ok (.ireturn, 1) := by decide +kernel
theorem dX4_lostLines_0 : decode cX4_lostLines 0 = .ok (.aload_n 1, 1) := by decide +kernel
theorem dX4_lostLines_1 : decode cX4_lostLines 1 = .ok (.getfield 45, 3) := by decide +kernel
theorem dX4_lostLines_4 : decode cX4_lostLines 4 = .ok (.iload_n 3, 1) := by decide +kernel
theorem dX4_lostLines_5 : decode cX4_lostLines 5 = .ok (.iaload, 1) := by decide +kernel
theorem dX4_lostLines_6 : decode cX4_lostLines 6 = .ok (.aload_n 0, 1) := by decide +kernel
theorem dX4_lostLines_7 : decode cX4_lostLines 7 = .ok (.aload_n 1, 1) := by decide +kernel
theorem dX4_lostLines_8 : decode cX4_lostLines 8 = .ok (.iload_n 2, 1) := by decide +kernel
theorem dX4_lostLines_9 : decode cX4_lostLines 9 = .ok (.iload_n 3, 1) := by decide +kernel
theorem dX4_lostLines_10 : decode cX4_lostLines 10 = .ok (.invokevirtual 48, 3) := by decide +kernel
theorem dX4_lostLines_13 : decode cX4_lostLines 13 = .ok (.isub, 1) := by decide +kernel
theorem dX4_lostLines_14 : decode cX4_lostLines 14 = .ok (.ireturn, 1) := by decide +kernel
theorem dX4_playNight_0 : decode cX4_playNight 0 = .ok (.iload_n 3, 1) := by decide +kernel
theorem dX4_playNight_1 : decode cX4_playNight 1 = .ok (.ifCond .ne 4, 3) := by decide +kernel
theorem dX4_playNight_4 : decode cX4_playNight 4 = .ok (.return_, 1) := by decide +kernel
theorem dX4_playNight_5 : decode cX4_playNight 5 = .ok (.aload_n 1, 1) := by decide +kernel
theorem dX4_playNight_6 : decode cX4_playNight 6 = .ok (.iload_n 3, 1) := by decide +kernel
theorem dX4_playNight_7 : decode cX4_playNight 7 = .ok (.aload_n 1, 1) := by decide +kernel
theorem dX4_playNight_8 : decode cX4_playNight 8 = .ok (.iload_n 2, 1) := by decide +kernel
theorem dX4_playNight_9 : decode cX4_playNight 9 = .ok (.invokevirtual 52, 3) := by decide +kernel
theorem dX4_playNight_12 : decode cX4_playNight 12 = .ok (.iconst (-1), 1) := by decide +kernel
theorem dX4_playNight_13 : decode cX4_playNight 13 = .ok (.ixor, 1) := by decide +kernel
theorem dX4_playNight_14 : decode cX4_playNight 14 = .ok (.iand, 1) := by decide +kernel
theorem dX4_playNight_15 : decode cX4_playNight 15 = .ok (.invokevirtual 56, 3) := by decide +kernel
theorem dX4_playNight_18 : decode cX4_playNight 18 = .ok (.istore 4, 2) := by decide +kernel
theorem dX4_playNight_20 : decode cX4_playNight 20 = .ok (.aload_n 0, 1) := by decide +kernel
theorem dX4_playNight_21 : decode cX4_playNight 21 = .ok (.getfield 9, 3) := by decide +kernel
theorem dX4_playNight_24 : decode cX4_playNight 24 = .ok (.iload_n 2, 1) := by decide +kernel
theorem dX4_playNight_25 : decode cX4_playNight 25 = .ok (.dup2, 1) := by decide +kernel
theorem dX4_playNight_26 : decode cX4_playNight 26 = .ok (.iaload, 1) := by decide +kernel
theorem dX4_playNight_27 : decode cX4_playNight 27 = .ok (.aload_n 1, 1) := by decide +kernel
theorem dX4_playNight_28 : decode cX4_playNight 28 = .ok (.getfield 59, 3) := by decide +kernel
theorem dX4_playNight_31 : decode cX4_playNight 31 = .ok (.aload_n 1, 1) := by decide +kernel
theorem dX4_playNight_32 : decode cX4_playNight 32 = .ok (.getfield 62, 3) := by decide +kernel
theorem dX4_playNight_35 : decode cX4_playNight 35 = .ok (.iload 4, 2) := by decide +kernel
theorem dX4_playNight_37 : decode cX4_playNight 37 = .ok (.imul, 1) := by decide +kernel
theorem dX4_playNight_38 : decode cX4_playNight 38 = .ok (.bipush 10, 2) := by decide +kernel
theorem dX4_playNight_40 : decode cX4_playNight 40 = .ok (.idiv, 1) := by decide +kernel
theorem dX4_playNight_41 : decode cX4_playNight 41 = .ok (.iadd, 1) := by decide +kernel
theorem dX4_playNight_42 : decode cX4_playNight 42 = .ok (.iadd, 1) := by decide +kernel
theorem dX4_playNight_43 : decode cX4_playNight 43 = .ok (.iastore, 1) := by decide +kernel
theorem dX4_playNight_44 : decode cX4_playNight 44 = .ok (.iconst 0, 1) := by decide +kernel
theorem dX4_playNight_45 : decode cX4_playNight 45 = .ok (.istore 5, 2) := by decide +kernel
theorem dX4_playNight_47 : decode cX4_playNight 47 = .ok (.iload 5, 2) := by decide +kernel
theorem dX4_playNight_49 : decode cX4_playNight 49 = .ok (.aload_n 1, 1) := by decide +kernel
theorem dX4_playNight_50 : decode cX4_playNight 50 = .ok (.getfield 65, 3) := by decide +kernel
theorem dX4_playNight_53 : decode cX4_playNight 53 = .ok (.if_icmp .ge 25, 3) := by decide +kernel
theorem dX4_playNight_56 : decode cX4_playNight 56 = .ok (.iload_n 3, 1) := by decide +kernel
theorem dX4_playNight_57 : decode cX4_playNight 57 = .ok (.iload 5, 2) := by decide +kernel
theorem dX4_playNight_59 : decode cX4_playNight 59 = .ok (.invokestatic 68, 3) := by decide +kernel
theorem dX4_playNight_62 : decode cX4_playNight 62 = .ok (.ifCond .eq 10, 3) := by decide +kernel
theorem dX4_playNight_65 : decode cX4_playNight 65 = .ok (.aload_n 0, 1) := by decide +kernel
theorem dX4_playNight_66 : decode cX4_playNight 66 = .ok (.iload_n 2, 1) := by decide +kernel
theorem dX4_playNight_67 : decode cX4_playNight 67 = .ok (.iload 5, 2) := by decide +kernel
theorem dX4_playNight_69 : decode cX4_playNight 69 = .ok (.invokevirtual 72, 3) := by decide +kernel
theorem dX4_playNight_72 : decode cX4_playNight 72 = .ok (.iinc 5 1, 3) := by decide +kernel
theorem dX4_playNight_75 : decode cX4_playNight 75 = .ok (.goto (-28), 3) := by decide +kernel
theorem dX4_playNight_78 : decode cX4_playNight 78 = .ok (.return_, 1) := by decide +kernel
theorem dX5_init_0 : decode cX5_init 0 = .ok (.aload_n 0, 1) := by decide +kernel
theorem dX5_init_1 : decode cX5_init 1 = .ok (.invokespecial 3, 3) := by decide +kernel
theorem dX5_init_4 : decode cX5_init 4 = .ok (.aload_n 0, 1) := by decide +kernel
theorem dX5_init_5 : decode cX5_init 5 = .ok (.bipush 10, 2) := by decide +kernel
theorem dX5_init_7 : decode cX5_init 7 = .ok (.newarray .int, 2) := by decide +kernel
theorem dX5_init_9 : decode cX5_init 9 = .ok (.putfield 9, 3) := by decide +kernel
theorem dX5_init_12 : decode cX5_init 12 = .ok (.aload_n 0, 1) := by decide +kernel
theorem dX5_init_13 : decode cX5_init 13 = .ok (.bipush 10, 2) := by decide +kernel
theorem dX5_init_15 : decode cX5_init 15 = .ok (.newarray .int, 2) := by decide +kernel
theorem dX5_init_17 : decode cX5_init 17 = .ok (.putfield 15, 3) := by decide +kernel
theorem dX5_init_20 : decode cX5_init 20 = .ok (.return_, 1) := by decide +kernel
theorem dX5_clear_0 : decode cX5_clear 0 = .ok (.aload_n 0, 1) := by decide +kernel
theorem dX5_clear_1 : decode cX5_clear 1 = .ok (.iconst 0, 1) := by decide +kernel
theorem dX5_clear_2 : decode cX5_clear 2 = .ok (.putfield 18, 3) := by decide +kernel
theorem dX5_clear_5 : decode cX5_clear 5 = .ok (.aload_n 0, 1) := by decide +kernel
theorem dX5_clear_6 : decode cX5_clear 6 = .ok (.iconst 0, 1) := by decide +kernel
theorem dX5_clear_7 : decode cX5_clear 7 = .ok (.putfield 22, 3) := by decide +kernel
theorem dX5_clear_10 : decode cX5_clear 10 = .ok (.return_, 1) := by decide +kernel
theorem dX5_addScene_0 : decode cX5_addScene 0 = .ok (.aload_n 0, 1) := by decide +kernel
theorem dX5_addScene_1 : decode cX5_addScene 1 = .ok (.getfield 9, 3) := by decide +kernel
theorem dX5_addScene_4 : decode cX5_addScene 4 = .ok (.aload_n 0, 1) := by decide +kernel
theorem dX5_addScene_5 : decode cX5_addScene 5 = .ok (.getfield 18, 3) := by decide +kernel
theorem dX5_addScene_8 : decode cX5_addScene 8 = .ok (.iload_n 1, 1) := by decide +kernel
theorem dX5_addScene_9 : decode cX5_addScene 9 = .ok (.iastore, 1) := by decide +kernel
theorem dX5_addScene_10 : decode cX5_addScene 10 = .ok (.aload_n 0, 1) := by decide +kernel
theorem dX5_addScene_11 : decode cX5_addScene 11 = .ok (.getfield 15, 3) := by decide +kernel
theorem dX5_addScene_14 : decode cX5_addScene 14 = .ok (.aload_n 0, 1) := by decide +kernel
theorem dX5_addScene_15 : decode cX5_addScene 15 = .ok (.getfield 18, 3) := by decide +kernel
theorem dX5_addScene_18 : decode cX5_addScene 18 = .ok (.iload_n 2, 1) := by decide +kernel
theorem dX5_addScene_19 : decode cX5_addScene 19 = .ok (.iastore, 1) := by decide +kernel
theorem dX5_addScene_20 : decode cX5_addScene 20 = .ok (.aload_n 0, 1) := by decide +kernel
theorem dX5_addScene_21 : decode cX5_addScene 21 = .ok (.dup, 1) := by decide +kernel
theorem dX5_addScene_22 : decode cX5_addScene 22 = .ok (.getfield 18, 3) := by decide +kernel
theorem dX5_addScene_25 : decode cX5_addScene 25 = .ok (.iconst 1, 1) := by decide +kernel
theorem dX5_addScene_26 : decode cX5_addScene 26 = .ok (.iadd, 1) := by decide +kernel
theorem dX5_addScene_27 : decode cX5_addScene 27 = .ok (.putfield 18, 3) := by decide +kernel
theorem dX5_addScene_30 : decode cX5_addScene 30 = .ok (.return_, 1) := by decide +kernel
theorem dX5_scenesOf_0 : decode cX5_scenesOf 0 = .ok (.iconst 0, 1) := by decide +kernel
theorem dX5_scenesOf_1 : decode cX5_scenesOf 1 = .ok (.istore_n 2, 1) := by decide +kernel
theorem dX5_scenesOf_2 : decode cX5_scenesOf 2 = .ok (.iconst 0, 1) := by decide +kernel
theorem dX5_scenesOf_3 : decode cX5_scenesOf 3 = .ok (.istore_n 3, 1) := by decide +kernel
theorem dX5_scenesOf_4 : decode cX5_scenesOf 4 = .ok (.iload_n 3, 1) := by decide +kernel
theorem dX5_scenesOf_5 : decode cX5_scenesOf 5 = .ok (.aload_n 0, 1) := by decide +kernel
theorem dX5_scenesOf_6 : decode cX5_scenesOf 6 = .ok (.getfield 18, 3) := by decide +kernel
theorem dX5_scenesOf_9 : decode cX5_scenesOf 9 = .ok (.if_icmp .ge 28, 3) := by decide +kernel
theorem dX5_scenesOf_12 : decode cX5_scenesOf 12 = .ok (.aload_n 0, 1) := by decide +kernel
theorem dX5_scenesOf_13 : decode cX5_scenesOf 13 = .ok (.getfield 9, 3) := by decide +kernel
theorem dX5_scenesOf_16 : decode cX5_scenesOf 16 = .ok (.iload_n 3, 1) := by decide +kernel
theorem dX5_scenesOf_17 : decode cX5_scenesOf 17 = .ok (.iaload, 1) := by decide +kernel
theorem dX5_scenesOf_18 : decode cX5_scenesOf 18 = .ok (.iload_n 1, 1) := by decide +kernel
theorem dX5_scenesOf_19 : decode cX5_scenesOf 19 = .ok (.invokestatic 25, 3) := by decide +kernel
theorem dX5_scenesOf_22 : decode cX5_scenesOf 22 = .ok (.ifCond .eq 9, 3) := by decide +kernel
theorem dX5_scenesOf_25 : decode cX5_scenesOf 25 = .ok (.iload_n 2, 1) := by decide +kernel
theorem dX5_scenesOf_26 : decode cX5_scenesOf 26 = .ok (.iconst 1, 1) := by decide +kernel
theorem dX5_scenesOf_27 : decode cX5_scenesOf 27 = .ok (.iload_n 3, 1) := by decide +kernel
theorem dX5_scenesOf_28 : decode cX5_scenesOf 28 = .ok (.ishl, 1) := by decide +kernel
theorem dX5_scenesOf_29 : decode cX5_scenesOf 29 = .ok (.ior, 1) := by decide +kernel
theorem dX5_scenesOf_30 : decode cX5_scenesOf 30 = .ok (.istore_n 2, 1) := by decide +kernel
theorem dX5_scenesOf_31 : decode cX5_scenesOf 31 = .ok (.iinc 3 1, 3) := by decide +kernel
theorem dX5_scenesOf_34 : decode cX5_scenesOf 34 = .ok (.goto (-30), 3) := by decide +kernel
theorem dX5_scenesOf_37 : decode cX5_scenesOf 37 = .ok (.iload_n 2, 1) := by decide +kernel
theorem dX5_scenesOf_38 : decode cX5_scenesOf 38 = .ok (.ireturn, 1) := by decide +kernel
theorem dX5_clashes_0 : decode cX5_clashes 0 = .ok (.bipush (-4), 2) := by decide +kernel
theorem dX5_clashes_2 : decode cX5_clashes 2 = .ok (.istore_n 3, 1) := by decide +kernel
theorem dX5_clashes_3 : decode cX5_clashes 3 = .ok (.iconst 0, 1) := by decide +kernel
theorem dX5_clashes_4 : decode cX5_clashes 4 = .ok (.istore 4, 2) := by decide +kernel
theorem dX5_clashes_6 : decode cX5_clashes 6 = .ok (.iconst 0, 1) := by decide +kernel
theorem dX5_clashes_7 : decode cX5_clashes 7 = .ok (.istore 5, 2) := by decide +kernel
theorem dX5_clashes_9 : decode cX5_clashes 9 = .ok (.iload 5, 2) := by decide +kernel
theorem dX5_clashes_11 : decode cX5_clashes 11 = .ok (.aload_n 0, 1) := by decide +kernel
theorem dX5_clashes_12 : decode cX5_clashes 12 = .ok (.getfield 18, 3) := by decide +kernel
theorem dX5_clashes_15 : decode cX5_clashes 15 = .ok (.if_icmp .ge 123, 3) := by decide +kernel
theorem dX5_clashes_18 : decode cX5_clashes 18 = .ok (.aload_n 0, 1) := by decide +kernel
theorem dX5_clashes_19 : decode cX5_clashes 19 = .ok (.getfield 9, 3) := by decide +kernel
theorem dX5_clashes_22 : decode cX5_clashes 22 = .ok (.iload 5, 2) := by decide +kernel
theorem dX5_clashes_24 : decode cX5_clashes 24 = .ok (.iaload, 1) := by decide +kernel
theorem dX5_clashes_25 : decode cX5_clashes 25 = .ok (.iload_n 1, 1) := by decide +kernel
theorem dX5_clashes_26 : decode cX5_clashes 26 = .ok (.invokestatic 25, 3) := by decide +kernel
theorem dX5_clashes_29 : decode cX5_clashes 29 = .ok (.istore 6, 2) := by decide +kernel
theorem dX5_clashes_31 : decode cX5_clashes 31 = .ok (.aload_n 0, 1) := by decide +kernel
theorem dX5_clashes_32 : decode cX5_clashes 32 = .ok (.getfield 9, 3) := by decide +kernel
theorem dX5_clashes_35 : decode cX5_clashes 35 = .ok (.iload 5, 2) := by decide +kernel
theorem dX5_clashes_37 : decode cX5_clashes 37 = .ok (.iaload, 1) := by decide +kernel
theorem dX5_clashes_38 : decode cX5_clashes 38 = .ok (.iload_n 2, 1) := by decide +kernel
theorem dX5_clashes_39 : decode cX5_clashes 39 = .ok (.invokestatic 25, 3) := by decide +kernel
theorem dX5_clashes_42 : decode cX5_clashes 42 = .ok (.istore 7, 2) := by decide +kernel
theorem dX5_clashes_44 : decode cX5_clashes 44 = .ok (.iload 6, 2) := by decide +kernel
theorem dX5_clashes_46 : decode cX5_clashes 46 = .ok (.ifCond .ne 23, 3) := by decide +kernel
theorem dX5_clashes_49 : decode cX5_clashes 49 = .ok (.iload 7, 2) := by decide +kernel
theorem dX5_clashes_51 : decode cX5_clashes 51 = .ok (.ifCond .ne 18, 3) := by decide +kernel
theorem dX5_clashes_54 : decode cX5_clashes 54 = .ok (.iload 4, 2) := by decide +kernel
theorem dX5_clashes_56 : decode cX5_clashes 56 = .ok (.aload_n 0, 1) := by decide +kernel
theorem dX5_clashes_57 : decode cX5_clashes 57 = .ok (.getfield 15, 3) := by decide +kernel
theorem dX5_clashes_60 : decode cX5_clashes 60 = .ok (.iload 5, 2) := by decide +kernel
theorem dX5_clashes_62 : decode cX5_clashes 62 = .ok (.iaload, 1) := by decide +kernel
theorem dX5_clashes_63 : decode cX5_clashes 63 = .ok (.iadd, 1) := by decide +kernel
theorem dX5_clashes_64 : decode cX5_clashes 64 = .ok (.istore 4, 2) := by decide +kernel
theorem dX5_clashes_66 : decode cX5_clashes 66 = .ok (.goto 66, 3) := by decide +kernel
theorem dX5_clashes_69 : decode cX5_clashes 69 = .ok (.iload 6, 2) := by decide +kernel
theorem dX5_clashes_71 : decode cX5_clashes 71 = .ok (.ifCond .eq 7, 3) := by decide +kernel
theorem dX5_clashes_74 : decode cX5_clashes 74 = .ok (.iload_n 1, 1) := by decide +kernel
theorem dX5_clashes_75 : decode cX5_clashes 75 = .ok (.goto 4, 3) := by decide +kernel
theorem dX5_clashes_78 : decode cX5_clashes 78 = .ok (.iload_n 2, 1) := by decide +kernel
theorem dX5_clashes_79 : decode cX5_clashes 79 = .ok (.istore 8, 2) := by decide +kernel
theorem dX5_clashes_81 : decode cX5_clashes 81 = .ok (.iload_n 3, 1) := by decide +kernel
theorem dX5_clashes_82 : decode cX5_clashes 82 = .ok (.bipush (-4), 2) := by decide +kernel
theorem dX5_clashes_84 : decode cX5_clashes 84 = .ok (.if_icmp .eq 13, 3) := by decide +kernel
theorem dX5_clashes_87 : decode cX5_clashes 87 = .ok (.iload_n 3, 1) := by decide +kernel
theorem dX5_clashes_88 : decode cX5_clashes 88 = .ok (.iload 8, 2) := by decide +kernel
theorem dX5_clashes_90 : decode cX5_clashes 90 = .ok (.if_icmp .eq 7, 3) := by decide +kernel
theorem dX5_clashes_93 : decode cX5_clashes 93 = .ok (.iconst 1, 1) := by decide +kernel
theorem dX5_clashes_94 : decode cX5_clashes 94 = .ok (.goto 4, 3) := by decide +kernel
theorem dX5_clashes_97 : decode cX5_clashes 97 = .ok (.iconst 0, 1) := by decide +kernel
theorem dX5_clashes_98 : decode cX5_clashes 98 = .ok (.istore 9, 2) := by decide +kernel
theorem dX5_clashes_100 : decode cX5_clashes 100 = .ok (.iload 6, 2) := by decide +kernel
theorem dX5_clashes_102 : decode cX5_clashes 102 = .ok (.ifCond .eq 8, 3) := by decide +kernel
theorem dX5_clashes_105 : decode cX5_clashes 105 = .ok (.iload 7, 2) := by decide +kernel
theorem dX5_clashes_107 : decode cX5_clashes 107 = .ok (.ifCond .ne 17, 3) := by decide +kernel
theorem dX5_clashes_110 : decode cX5_clashes 110 = .ok (.iload 9, 2) := by decide +kernel
theorem dX5_clashes_112 : decode cX5_clashes 112 = .ok (.ifCond .eq 14, 3) := by decide +kernel
theorem dX5_clashes_115 : decode cX5_clashes 115 = .ok (.iload 4, 2) := by decide +kernel
theorem dX5_clashes_117 : decode cX5_clashes 117 = .ok (.aload_n 0, 1) := by decide +kernel
theorem dX5_clashes_118 : decode cX5_clashes 118 = .ok (.getfield 22, 3) := by decide +kernel
theorem dX5_clashes_121 : decode cX5_clashes 121 = .ok (.if_icmp .ge 5, 3) := by decide +kernel
theorem dX5_clashes_124 : decode cX5_clashes 124 = .ok (.iconst 1, 1) := by decide +kernel
theorem dX5_clashes_125 : decode cX5_clashes 125 = .ok (.ireturn, 1) := by decide +kernel
theorem dX5_clashes_126 : decode cX5_clashes 126 = .ok (.iload 8, 2) := by decide +kernel
theorem dX5_clashes_128 : decode cX5_clashes 128 = .ok (.istore_n 3, 1) := by decide +kernel
theorem dX5_clashes_129 : decode cX5_clashes 129 = .ok (.iconst 0, 1) := by decide +kernel
theorem dX5_clashes_130 : decode cX5_clashes 130 = .ok (.istore 4, 2) := by decide +kernel
theorem dX5_clashes_132 : decode cX5_clashes 132 = .ok (.iinc 5 1, 3) := by decide +kernel
theorem dX5_clashes_135 : decode cX5_clashes 135 = .ok (.goto (-126), 3) := by decide +kernel
theorem dX5_clashes_138 : decode cX5_clashes 138 = .ok (.iconst 0, 1) := by decide +kernel
theorem dX5_clashes_139 : decode cX5_clashes 139 = .ok (.ireturn, 1) := by decide +kernel
theorem dX6_init_0 : decode cX6_init 0 = .ok (.aload_n 0, 1) := by decide +kernel
theorem dX6_init_1 : decode cX6_init 1 = .ok (.invokespecial 3, 3) := by decide +kernel
theorem dX6_init_4 : decode cX6_init 4 = .ok (.aload_n 0, 1) := by decide +kernel
theorem dX6_init_5 : decode cX6_init 5 = .ok (.iconst 4, 1) := by decide +kernel
theorem dX6_init_6 : decode cX6_init 6 = .ok (.newarray .int, 2) := by decide +kernel
theorem dX6_init_8 : decode cX6_init 8 = .ok (.putfield 9, 3) := by decide +kernel
theorem dX6_init_11 : decode cX6_init 11 = .ok (.return_, 1) := by decide +kernel
theorem dX6_firstFault_0 : decode cX6_firstFault 0 = .ok (.aload_n 3, 1) := by decide +kernel
theorem dX6_firstFault_1 : decode cX6_firstFault 1 = .ok (.invokevirtual 15, 3) := by decide +kernel
theorem dX6_firstFault_4 : decode cX6_firstFault 4 = .ok (.iconst 0, 1) := by decide +kernel
theorem dX6_firstFault_5 : decode cX6_firstFault 5 = .ok (.istore 4, 2) := by decide +kernel
theorem dX6_firstFault_7 : decode cX6_firstFault 7 = .ok (.iload 4, 2) := by decide +kernel
theorem dX6_firstFault_9 : decode cX6_firstFault 9 = .ok (.iload_n 2, 1) := by decide +kernel
theorem dX6_firstFault_10 : decode cX6_firstFault 10 = .ok (.if_icmp .ge 49, 3) := by decide +kernel
theorem dX6_firstFault_13 : decode cX6_firstFault 13 = .ok (.aload_n 0, 1) := by decide +kernel
theorem dX6_firstFault_14 : decode cX6_firstFault 14 = .ok (.aload_n 1, 1) := by decide +kernel
theorem dX6_firstFault_15 : decode cX6_firstFault 15 = .ok (.iload_n 2, 1) := by decide +kernel
theorem dX6_firstFault_16 : decode cX6_firstFault 16 = .ok (.iload 4, 2) := by decide +kernel
theorem dX6_firstFault_18 : decode cX6_firstFault 18 = .ok (.invokevirtual 20, 3) := by decide +kernel
theorem dX6_firstFault_21 : decode cX6_firstFault 21 = .ok (.istore 5, 2) := by decide +kernel
theorem dX6_firstFault_23 : decode cX6_firstFault 23 = .ok (.iload 5, 2) := by decide +kernel
theorem dX6_firstFault_25 : decode cX6_firstFault 25 = .ok (.iload 4, 2) := by decide +kernel
theorem dX6_firstFault_27 : decode cX6_firstFault 27 = .ok (.if_icmp .le 22, 3) := by decide +kernel
theorem dX6_firstFault_30 : decode cX6_firstFault 30 = .ok (.aload_n 3, 1) := by decide +kernel
theorem dX6_firstFault_31 : decode cX6_firstFault 31 = .ok (.aload_n 1, 1) := by decide +kernel
theorem dX6_firstFault_32 : decode cX6_firstFault 32 = .ok (.iload 4, 2) := by decide +kernel
theorem dX6_firstFault_34 : decode cX6_firstFault 34 = .ok (.baload, 1) := by decide +kernel
theorem dX6_firstFault_35 : decode cX6_firstFault 35 = .ok (.aload_n 0, 1) := by decide +kernel
theorem dX6_firstFault_36 : decode cX6_firstFault 36 = .ok (.getfield 9, 3) := by decide +kernel
theorem dX6_firstFault_39 : decode cX6_firstFault 39 = .ok (.aload_n 0, 1) := by decide +kernel
theorem dX6_firstFault_40 : decode cX6_firstFault 40 = .ok (.getfield 24, 3) := by decide +kernel
theorem dX6_firstFault_43 : decode cX6_firstFault 43 = .ok (.invokevirtual 28, 3) := by decide +kernel
theorem dX6_firstFault_46 : decode cX6_firstFault 46 = .ok (.ifCond .ne 6, 3) := by decide +kernel
theorem dX6_firstFault_49 : decode cX6_firstFault 49 = .ok (.iload 4, 2) := by decide +kernel
theorem dX6_firstFault_51 : decode cX6_firstFault 51 = .ok (.ireturn, 1) := by decide +kernel
theorem dX6_firstFault_52 : decode cX6_firstFault 52 = .ok (.iload 5, 2) := by decide +kernel
theorem dX6_firstFault_54 : decode cX6_firstFault 54 = .ok (.istore 4, 2) := by decide +kernel
theorem dX6_firstFault_56 : decode cX6_firstFault 56 = .ok (.goto (-49), 3) := by decide +kernel
theorem dX6_firstFault_59 : decode cX6_firstFault 59 = .ok (.bipush (-4), 2) := by decide +kernel
theorem dX6_firstFault_61 : decode cX6_firstFault 61 = .ok (.ireturn, 1) := by decide +kernel
theorem dX6_endOfItem_0 : decode cX6_endOfItem 0 = .ok (.iload_n 3, 1) := by decide +kernel
theorem dX6_endOfItem_1 : decode cX6_endOfItem 1 = .ok (.iconst 1, 1) := by decide +kernel
theorem dX6_endOfItem_2 : decode cX6_endOfItem 2 = .ok (.iadd, 1) := by decide +kernel
theorem dX6_endOfItem_3 : decode cX6_endOfItem 3 = .ok (.istore 4, 2) := by decide +kernel
theorem dX6_endOfItem_5 : decode cX6_endOfItem 5 = .ok (.iconst 0, 1) := by decide +kernel
theorem dX6_endOfItem_6 : decode cX6_endOfItem 6 = .ok (.istore 5, 2) := by decide +kernel
theorem dX6_endOfItem_8 : decode cX6_endOfItem 8 = .ok (.iload 5, 2) := by decide +kernel
theorem dX6_endOfItem_10 : decode cX6_endOfItem 10 = .ok (.aload_n 0, 1) := by decide +kernel
theorem dX6_endOfItem_11 : decode cX6_endOfItem 11 = .ok (.getfield 9, 3) := by decide +kernel
theorem dX6_endOfItem_14 : decode cX6_endOfItem 14 = .ok (.arraylength, 1) := by decide +kernel
theorem dX6_endOfItem_15 : decode cX6_endOfItem 15 = .ok (.if_icmp .ge 85, 3) := by decide +kernel
theorem dX6_endOfItem_18 : decode cX6_endOfItem 18 = .ok (.aload_n 1, 1) := by decide +kernel
theorem dX6_endOfItem_19 : decode cX6_endOfItem 19 = .ok (.iload_n 2, 1) := by decide +kernel
theorem dX6_endOfItem_20 : decode cX6_endOfItem 20 = .ok (.iload 4, 2) := by decide +kernel
theorem dX6_endOfItem_22 : decode cX6_endOfItem 22 = .ok (.invokestatic 32, 3) := by decide +kernel
theorem dX6_endOfItem_25 : decode cX6_endOfItem 25 = .ok (.istore 6, 2) := by decide +kernel
theorem dX6_endOfItem_27 : decode cX6_endOfItem 27 = .ok (.iload 6, 2) := by decide +kernel
theorem dX6_endOfItem_29 : decode cX6_endOfItem 29 = .ok (.iload 4, 2) := by decide +kernel
theorem dX6_endOfItem_31 : decode cX6_endOfItem 31 = .ok (.if_icmp .eq 9, 3) := by decide +kernel
theorem dX6_endOfItem_34 : decode cX6_endOfItem 34 = .ok (.iload 6, 2) := by decide +kernel
theorem dX6_endOfItem_36 : decode cX6_endOfItem 36 = .ok (.iload_n 2, 1) := by decide +kernel
theorem dX6_endOfItem_37 : decode cX6_endOfItem 37 = .ok (.if_icmp .lt 5, 3) := by decide +kernel
theorem dX6_endOfItem_40 : decode cX6_endOfItem 40 = .ok (.iconst 0, 1) := by decide +kernel
theorem dX6_endOfItem_41 : decode cX6_endOfItem 41 = .ok (.ireturn, 1) := by decide +kernel
theorem dX6_endOfItem_42 : decode cX6_endOfItem 42 = .ok (.aload_n 0, 1) := by decide +kernel
theorem dX6_endOfItem_43 : decode cX6_endOfItem 43 = .ok (.getfield 9, 3) := by decide +kernel
theorem dX6_endOfItem_46 : decode cX6_endOfItem 46 = .ok (.iload 5, 2) := by decide +kernel
theorem dX6_endOfItem_48 : decode cX6_endOfItem 48 = .ok (.aload_n 1, 1) := by decide +kernel
theorem dX6_endOfItem_49 : decode cX6_endOfItem 49 = .ok (.iload 4, 2) := by decide +kernel
theorem dX6_endOfItem_51 : decode cX6_endOfItem 51 = .ok (.iload 6, 2) := by decide +kernel
theorem dX6_endOfItem_53 : decode cX6_endOfItem 53 = .ok (.invokestatic 35, 3) := by decide +kernel
theorem dX6_endOfItem_56 : decode cX6_endOfItem 56 = .ok (.iastore, 1) := by decide +kernel
theorem dX6_endOfItem_57 : decode cX6_endOfItem 57 = .ok (.iload 6, 2) := by decide +kernel
theorem dX6_endOfItem_59 : decode cX6_endOfItem 59 = .ok (.iconst 1, 1) := by decide +kernel
theorem dX6_endOfItem_60 : decode cX6_endOfItem 60 = .ok (.iadd, 1) := by decide +kernel
theorem dX6_endOfItem_61 : decode cX6_endOfItem 61 = .ok (.istore 4, 2) := by decide +kernel
theorem dX6_endOfItem_63 : decode cX6_endOfItem 63 = .ok (.aload_n 1, 1) := by decide +kernel
theorem dX6_endOfItem_64 : decode cX6_endOfItem 64 = .ok (.iload 6, 2) := by decide +kernel
theorem dX6_endOfItem_66 : decode cX6_endOfItem 66 = .ok (.baload, 1) := by decide +kernel
theorem dX6_endOfItem_67 : decode cX6_endOfItem 67 = .ok (.bipush 59, 2) := by decide +kernel
theorem dX6_endOfItem_69 : decode cX6_endOfItem 69 = .ok (.if_icmp .ne 14, 3) := by decide +kernel
theorem dX6_endOfItem_72 : decode cX6_endOfItem 72 = .ok (.aload_n 0, 1) := by decide +kernel
theorem dX6_endOfItem_73 : decode cX6_endOfItem 73 = .ok (.iload 5, 2) := by decide +kernel
theorem dX6_endOfItem_75 : decode cX6_endOfItem 75 = .ok (.iconst 1, 1) := by decide +kernel
theorem dX6_endOfItem_76 : decode cX6_endOfItem 76 = .ok (.iadd, 1) := by decide +kernel
theorem dX6_endOfItem_77 : decode cX6_endOfItem 77 = .ok (.putfield 24, 3) := by decide +kernel
theorem dX6_endOfItem_80 : decode cX6_endOfItem 80 = .ok (.iload 4, 2) := by decide +kernel
theorem dX6_endOfItem_82 : decode cX6_endOfItem 82 = .ok (.ireturn, 1) := by decide +kernel
theorem dX6_endOfItem_83 : decode cX6_endOfItem 83 = .ok (.aload_n 1, 1) := by decide +kernel
theorem dX6_endOfItem_84 : decode cX6_endOfItem 84 = .ok (.iload 6, 2) := by decide +kernel
theorem dX6_endOfItem_86 : decode cX6_endOfItem 86 = .ok (.baload, 1) := by decide +kernel
theorem dX6_endOfItem_87 : decode cX6_endOfItem 87 = .ok (.bipush 44, 2) := by decide +kernel
theorem dX6_endOfItem_89 : decode cX6_endOfItem 89 = .ok (.if_icmp .eq 5, 3) := by decide +kernel
theorem dX6_endOfItem_92 : decode cX6_endOfItem 92 = .ok (.iconst 0, 1) := by decide +kernel
theorem dX6_endOfItem_93 : decode cX6_endOfItem 93 = .ok (.ireturn, 1) := by decide +kernel
theorem dX6_endOfItem_94 : decode cX6_endOfItem 94 = .ok (.iinc 5 1, 3) := by decide +kernel
theorem dX6_endOfItem_97 : decode cX6_endOfItem 97 = .ok (.goto (-89), 3) := by decide +kernel
theorem dX6_endOfItem_100 : decode cX6_endOfItem 100 = .ok (.iconst 0, 1) := by decide +kernel
theorem dX6_endOfItem_101 : decode cX6_endOfItem 101 = .ok (.ireturn, 1) := by decide +kernel
theorem dX6_endOfFigures_0 : decode cX6_endOfFigures 0 = .ok (.iload_n 2, 1) := by decide +kernel
theorem dX6_endOfFigures_1 : decode cX6_endOfFigures 1 = .ok (.istore_n 3, 1) := by decide +kernel
theorem dX6_endOfFigures_2 : decode cX6_endOfFigures 2 = .ok (.iload_n 3, 1) := by decide +kernel
theorem dX6_endOfFigures_3 : decode cX6_endOfFigures 3 = .ok (.iload_n 1, 1) := by decide +kernel
theorem dX6_endOfFigures_4 : decode cX6_endOfFigures 4 = .ok (.if_icmp .ge 32, 3) := by decide +kernel
theorem dX6_endOfFigures_7 : decode cX6_endOfFigures 7 = .ok (.iload_n 3, 1) := by decide +kernel
theorem dX6_endOfFigures_8 : decode cX6_endOfFigures 8 = .ok (.iload_n 2, 1) := by decide +kernel
theorem dX6_endOfFigures_9 : decode cX6_endOfFigures 9 = .ok (.iconst 3, 1) := by decide +kernel
theorem dX6_endOfFigures_10 : decode cX6_endOfFigures 10 = .ok (.iadd, 1) := by decide +kernel
theorem dX6_endOfFigures_11 : decode cX6_endOfFigures 11 = .ok (.if_icmp .ge 25, 3) := by decide +kernel
theorem dX6_endOfFigures_14 : decode cX6_endOfFigures 14 = .ok (.aload_n 0, 1) := by decide +kernel
theorem dX6_endOfFigures_15 : decode cX6_endOfFigures 15 = .ok (.iload_n 3, 1) := by decide +kernel
theorem dX6_endOfFigures_16 : decode cX6_endOfFigures 16 = .ok (.baload, 1) := by decide +kernel
theorem dX6_endOfFigures_17 : decode cX6_endOfFigures 17 = .ok (.bipush 48, 2) := by decide +kernel
theorem dX6_endOfFigures_19 : decode cX6_endOfFigures 19 = .ok (.if_icmp .lt 17, 3) := by decide +kernel
theorem dX6_endOfFigures_22 : decode cX6_endOfFigures 22 = .ok (.aload_n 0, 1) := by decide +kernel
theorem dX6_endOfFigures_23 : decode cX6_endOfFigures 23 = .ok (.iload_n 3, 1) := by decide +kernel
theorem dX6_endOfFigures_24 : decode cX6_endOfFigures 24 = .ok (.baload, 1) := by decide +kernel
theorem dX6_endOfFigures_25 : decode cX6_endOfFigures 25 = .ok (.bipush 57, 2) := by decide +kernel
theorem dX6_endOfFigures_27 : decode cX6_endOfFigures 27 = .ok (.if_icmp .gt 9, 3) := by decide +kernel
theorem dX6_endOfFigures_30 : decode cX6_endOfFigures 30 = .ok (.iinc 3 1, 3) := by decide +kernel
theorem dX6_endOfFigures_33 : decode cX6_endOfFigures 33 = .ok (.goto (-31), 3) := by decide +kernel
theorem dX6_endOfFigures_36 : decode cX6_endOfFigures 36 = .ok (.iload_n 3, 1) := by decide +kernel
theorem dX6_endOfFigures_37 : decode cX6_endOfFigures 37 = .ok (.ireturn, 1) := by decide +kernel
theorem dX6_numberOf_0 : decode cX6_numberOf 0 = .ok (.iconst 0, 1) := by decide +kernel
theorem dX6_numberOf_1 : decode cX6_numberOf 1 = .ok (.istore_n 3, 1) := by decide +kernel
theorem dX6_numberOf_2 : decode cX6_numberOf 2 = .ok (.iload_n 1, 1) := by decide +kernel
theorem dX6_numberOf_3 : decode cX6_numberOf 3 = .ok (.istore 4, 2) := by decide +kernel
theorem dX6_numberOf_5 : decode cX6_numberOf 5 = .ok (.iload 4, 2) := by decide +kernel
theorem dX6_numberOf_7 : decode cX6_numberOf 7 = .ok (.iload_n 2, 1) := by decide +kernel
theorem dX6_numberOf_8 : decode cX6_numberOf 8 = .ok (.if_icmp .ge 22, 3) := by decide +kernel
theorem dX6_numberOf_11 : decode cX6_numberOf 11 = .ok (.iload_n 3, 1) := by decide +kernel
theorem dX6_numberOf_12 : decode cX6_numberOf 12 = .ok (.bipush 10, 2) := by decide +kernel
theorem dX6_numberOf_14 : decode cX6_numberOf 14 = .ok (.imul, 1) := by decide +kernel
theorem dX6_numberOf_15 : decode cX6_numberOf 15 = .ok (.aload_n 0, 1) := by decide +kernel
theorem dX6_numberOf_16 : decode cX6_numberOf 16 = .ok (.iload 4, 2) := by decide +kernel
theorem dX6_numberOf_18 : decode cX6_numberOf 18 = .ok (.baload, 1) := by decide +kernel
theorem dX6_numberOf_19 : decode cX6_numberOf 19 = .ok (.iadd, 1) := by decide +kernel
theorem dX6_numberOf_20 : decode cX6_numberOf 20 = .ok (.bipush 48, 2) := by decide +kernel
theorem dX6_numberOf_22 : decode cX6_numberOf 22 = .ok (.isub, 1) := by decide +kernel
theorem dX6_numberOf_23 : decode cX6_numberOf 23 = .ok (.istore_n 3, 1) := by decide +kernel
theorem dX6_numberOf_24 : decode cX6_numberOf 24 = .ok (.iinc 4 1, 3) := by decide +kernel
theorem dX6_numberOf_27 : decode cX6_numberOf 27 = .ok (.goto (-22), 3) := by decide +kernel
theorem dX6_numberOf_30 : decode cX6_numberOf 30 = .ok (.iload_n 3, 1) := by decide +kernel
theorem dX6_numberOf_31 : decode cX6_numberOf 31 = .ok (.ireturn, 1) := by decide +kernel
theorem dX7_init_0 : decode cX7_init 0 = .ok (.aload_n 0, 1) := by decide +kernel
theorem dX7_init_1 : decode cX7_init 1 = .ok (.invokespecial 3, 3) := by decide +kernel
theorem dX7_init_4 : decode cX7_init 4 = .ok (.aload_n 0, 1) := by decide +kernel
theorem dX7_init_5 : decode cX7_init 5 = .ok (.sipush 1024, 3) := by decide +kernel
theorem dX7_init_8 : decode cX7_init 8 = .ok (.newarray .int, 2) := by decide +kernel
theorem dX7_init_10 : decode cX7_init 10 = .ok (.putfield 9, 3) := by decide +kernel
theorem dX7_init_13 : decode cX7_init 13 = .ok (.aload_n 0, 1) := by decide +kernel
theorem dX7_init_14 : decode cX7_init 14 = .ok (.sipush 1024, 3) := by decide +kernel
theorem dX7_init_17 : decode cX7_init 17 = .ok (.newarray .int, 2) := by decide +kernel
theorem dX7_init_19 : decode cX7_init 19 = .ok (.putfield 15, 3) := by decide +kernel
theorem dX7_init_22 : decode cX7_init 22 = .ok (.aload_n 0, 1) := by decide +kernel
theorem dX7_init_23 : decode cX7_init 23 = .ok (.sipush 1024, 3) := by decide +kernel
theorem dX7_init_26 : decode cX7_init 26 = .ok (.newarray .int, 2) := by decide +kernel
theorem dX7_init_28 : decode cX7_init 28 = .ok (.putfield 18, 3) := by decide +kernel
theorem dX7_init_31 : decode cX7_init 31 = .ok (.aload_n 0, 1) := by decide +kernel
theorem dX7_init_32 : decode cX7_init 32 = .ok (.sipush 1024, 3) := by decide +kernel
theorem dX7_init_35 : decode cX7_init 35 = .ok (.newarray .int, 2) := by decide +kernel
theorem dX7_init_37 : decode cX7_init 37 = .ok (.putfield 21, 3) := by decide +kernel
theorem dX7_init_40 : decode cX7_init 40 = .ok (.return_, 1) := by decide +kernel
theorem dX7_forget_0 : decode cX7_forget 0 = .ok (.aload_n 0, 1) := by decide +kernel
theorem dX7_forget_1 : decode cX7_forget 1 = .ok (.bipush (-4), 2) := by decide +kernel
theorem dX7_forget_3 : decode cX7_forget 3 = .ok (.putfield 24, 3) := by decide +kernel
theorem dX7_forget_6 : decode cX7_forget 6 = .ok (.return_, 1) := by decide +kernel
theorem dX7_goOn_0 : decode cX7_goOn 0 = .ok (.iload_n 2, 1) := by decide +kernel
theorem dX7_goOn_1 : decode cX7_goOn 1 = .ok (.aload_n 0, 1) := by decide +kernel
theorem dX7_goOn_2 : decode cX7_goOn 2 = .ok (.getfield 24, 3) := by decide +kernel
theorem dX7_goOn_5 : decode cX7_goOn 5 = .ok (.if_icmp .ne 11, 3) := by decide +kernel
theorem dX7_goOn_8 : decode cX7_goOn 8 = .ok (.iload_n 3, 1) := by decide +kernel
theorem dX7_goOn_9 : decode cX7_goOn 9 = .ok (.aload_n 0, 1) := by decide +kernel
theorem dX7_goOn_10 : decode cX7_goOn 10 = .ok (.getfield 28, 3) := by decide +kernel
theorem dX7_goOn_13 : decode cX7_goOn 13 = .ok (.if_icmp .ge 29, 3) := by decide +kernel
theorem dX7_goOn_16 : decode cX7_goOn 16 = .ok (.aload_n 0, 1) := by decide +kernel
theorem dX7_goOn_17 : decode cX7_goOn 17 = .ok (.getfield 9, 3) := by decide +kernel
theorem dX7_goOn_20 : decode cX7_goOn 20 = .ok (.iconst 0, 1) := by decide +kernel
theorem dX7_goOn_21 : decode cX7_goOn 21 = .ok (.invokestatic 31, 3) := by decide +kernel
theorem dX7_goOn_24 : decode cX7_goOn 24 = .ok (.aload_n 0, 1) := by decide +kernel
theorem dX7_goOn_25 : decode cX7_goOn 25 = .ok (.getfield 9, 3) := by decide +kernel
theorem dX7_goOn_28 : decode cX7_goOn 28 = .ok (.iload_n 2, 1) := by decide +kernel
theorem dX7_goOn_29 : decode cX7_goOn 29 = .ok (.ldc 37, 2) := by decide +kernel
theorem dX7_goOn_31 : decode cX7_goOn 31 = .ok (.iastore, 1) := by decide +kernel
theorem dX7_goOn_32 : decode cX7_goOn 32 = .ok (.aload_n 0, 1) := by decide +kernel
theorem dX7_goOn_33 : decode cX7_goOn 33 = .ok (.iload_n 2, 1) := by decide +kernel
theorem dX7_goOn_34 : decode cX7_goOn 34 = .ok (.putfield 24, 3) := by decide +kernel
theorem dX7_goOn_37 : decode cX7_goOn 37 = .ok (.aload_n 0, 1) := by decide +kernel
theorem dX7_goOn_38 : decode cX7_goOn 38 = .ok (.iconst 0, 1) := by decide +kernel
theorem dX7_goOn_39 : decode cX7_goOn 39 = .ok (.putfield 28, 3) := by decide +kernel
theorem dX7_goOn_42 : decode cX7_goOn 42 = .ok (.aload_n 0, 1) := by decide +kernel
theorem dX7_goOn_43 : decode cX7_goOn 43 = .ok (.getfield 28, 3) := by decide +kernel
theorem dX7_goOn_46 : decode cX7_goOn 46 = .ok (.iload_n 3, 1) := by decide +kernel
theorem dX7_goOn_47 : decode cX7_goOn 47 = .ok (.if_icmp .ge 21, 3) := by decide +kernel
theorem dX7_goOn_50 : decode cX7_goOn 50 = .ok (.aload_n 0, 1) := by decide +kernel
theorem dX7_goOn_51 : decode cX7_goOn 51 = .ok (.aload_n 1, 1) := by decide +kernel
theorem dX7_goOn_52 : decode cX7_goOn 52 = .ok (.invokevirtual 38, 3) := by decide +kernel
theorem dX7_goOn_55 : decode cX7_goOn 55 = .ok (.aload_n 0, 1) := by decide +kernel
theorem dX7_goOn_56 : decode cX7_goOn 56 = .ok (.dup, 1) := by decide +kernel
theorem dX7_goOn_57 : decode cX7_goOn 57 = .ok (.getfield 28, 3) := by decide +kernel
theorem dX7_goOn_60 : decode cX7_goOn 60 = .ok (.iconst 1, 1) := by decide +kernel
theorem dX7_goOn_61 : decode cX7_goOn 61 = .ok (.iadd, 1) := by decide +kernel
theorem dX7_goOn_62 : decode cX7_goOn 62 = .ok (.putfield 28, 3) := by decide +kernel
theorem dX7_goOn_65 : decode cX7_goOn 65 = .ok (.goto (-23), 3) := by decide +kernel
theorem dX7_goOn_68 : decode cX7_goOn 68 = .ok (.return_, 1) := by decide +kernel
theorem dX7_passDay_0 : decode cX7_passDay 0 = .ok (.iconst 1, 1) := by decide +kernel
theorem dX7_passDay_1 : decode cX7_passDay 1 = .ok (.aload_n 1, 1) := by decide +kernel
theorem dX7_passDay_2 : decode cX7_passDay 2 = .ok (.getfield 42, 3) := by decide +kernel
theorem dX7_passDay_5 : decode cX7_passDay 5 = .ok (.ishl, 1) := by decide +kernel
theorem dX7_passDay_6 : decode cX7_passDay 6 = .ok (.istore_n 2, 1) := by decide +kernel
theorem dX7_passDay_7 : decode cX7_passDay 7 = .ok (.aload_n 0, 1) := by decide +kernel
theorem dX7_passDay_8 : decode cX7_passDay 8 = .ok (.getfield 15, 3) := by decide +kernel
theorem dX7_passDay_11 : decode cX7_passDay 11 = .ok (.iconst 0, 1) := by decide +kernel
theorem dX7_passDay_12 : decode cX7_passDay 12 = .ok (.iload_n 2, 1) := by decide +kernel
theorem dX7_passDay_13 : decode cX7_passDay 13 = .ok (.iconst 0, 1) := by decide +kernel
theorem dX7_passDay_14 : decode cX7_passDay 14 = .ok (.invokestatic 47, 3) := by decide +kernel
theorem dX7_passDay_17 : decode cX7_passDay 17 = .ok (.iconst 0, 1) := by decide +kernel
theorem dX7_passDay_18 : decode cX7_passDay 18 = .ok (.istore_n 3, 1) := by decide +kernel
theorem dX7_passDay_19 : decode cX7_passDay 19 = .ok (.iload_n 3, 1) := by decide +kernel
theorem dX7_passDay_20 : decode cX7_passDay 20 = .ok (.iload_n 2, 1) := by decide +kernel
theorem dX7_passDay_21 : decode cX7_passDay 21 = .ok (.if_icmp .ge 24, 3) := by decide +kernel
theorem dX7_passDay_24 : decode cX7_passDay 24 = .ok (.aload_n 0, 1) := by decide +kernel
theorem dX7_passDay_25 : decode cX7_passDay 25 = .ok (.getfield 9, 3) := by decide +kernel
theorem dX7_passDay_28 : decode cX7_passDay 28 = .ok (.iload_n 3, 1) := by decide +kernel
theorem dX7_passDay_29 : decode cX7_passDay 29 = .ok (.iaload, 1) := by decide +kernel
theorem dX7_passDay_30 : decode cX7_passDay 30 = .ok (.ifCond .le 9, 3) := by decide +kernel
theorem dX7_passDay_33 : decode cX7_passDay 33 = .ok (.aload_n 0, 1) := by decide +kernel
theorem dX7_passDay_34 : decode cX7_passDay 34 = .ok (.aload_n 1, 1) := by decide +kernel
theorem dX7_passDay_35 : decode cX7_passDay 35 = .ok (.iload_n 3, 1) := by decide +kernel
theorem dX7_passDay_36 : decode cX7_passDay 36 = .ok (.invokevirtual 50, 3) := by decide +kernel
theorem dX7_passDay_39 : decode cX7_passDay 39 = .ok (.iinc 3 1, 3) := by decide +kernel
theorem dX7_passDay_42 : decode cX7_passDay 42 = .ok (.goto (-23), 3) := by decide +kernel
theorem dX7_passDay_45 : decode cX7_passDay 45 = .ok (.aload_n 0, 1) := by decide +kernel
theorem dX7_passDay_46 : decode cX7_passDay 46 = .ok (.getfield 15, 3) := by decide +kernel
theorem dX7_passDay_49 : decode cX7_passDay 49 = .ok (.iconst 0, 1) := by decide +kernel
theorem dX7_passDay_50 : decode cX7_passDay 50 = .ok (.aload_n 0, 1) := by decide +kernel
theorem dX7_passDay_51 : decode cX7_passDay 51 = .ok (.getfield 9, 3) := by decide +kernel
theorem dX7_passDay_54 : decode cX7_passDay 54 = .ok (.iconst 0, 1) := by decide +kernel
theorem dX7_passDay_55 : decode cX7_passDay 55 = .ok (.iload_n 2, 1) := by decide +kernel
theorem dX7_passDay_56 : decode cX7_passDay 56 = .ok (.invokestatic 54, 3) := by decide +kernel
theorem dX7_passDay_59 : decode cX7_passDay 59 = .ok (.return_, 1) := by decide +kernel
theorem dX7_spread_0 : decode cX7_spread 0 = .ok (.aload_n 0, 1) := by decide +kernel
theorem dX7_spread_1 : decode cX7_spread 1 = .ok (.getfield 18, 3) := by decide +kernel
theorem dX7_spread_4 : decode cX7_spread 4 = .ok (.iconst 0, 1) := by decide +kernel
theorem dX7_spread_5 : decode cX7_spread 5 = .ok (.iload_n 2, 1) := by decide +kernel
theorem dX7_spread_6 : decode cX7_spread 6 = .ok (.iastore, 1) := by decide +kernel
theorem dX7_spread_7 : decode cX7_spread 7 = .ok (.aload_n 0, 1) := by decide +kernel
theorem dX7_spread_8 : decode cX7_spread 8 = .ok (.getfield 21, 3) := by decide +kernel
theorem dX7_spread_11 : decode cX7_spread 11 = .ok (.iconst 0, 1) := by decide +kernel
theorem dX7_spread_12 : decode cX7_spread 12 = .ok (.aload_n 0, 1) := by decide +kernel
theorem dX7_spread_13 : decode cX7_spread 13 = .ok (.getfield 9, 3) := by decide +kernel
theorem dX7_spread_16 : decode cX7_spread 16 = .ok (.iload_n 2, 1) := by decide +kernel
theorem dX7_spread_17 : decode cX7_spread 17 = .ok (.iaload, 1) := by decide +kernel
theorem dX7_spread_18 : decode cX7_spread 18 = .ok (.iastore, 1) := by decide +kernel
theorem dX7_spread_19 : decode cX7_spread 19 = .ok (.aload_n 0, 1) := by decide +kernel
theorem dX7_spread_20 : decode cX7_spread 20 = .ok (.iconst 1, 1) := by decide +kernel
theorem dX7_spread_21 : decode cX7_spread 21 = .ok (.putfield 60, 3) := by decide +kernel
theorem dX7_spread_24 : decode cX7_spread 24 = .ok (.iconst 0, 1) := by decide +kernel
theorem dX7_spread_25 : decode cX7_spread 25 = .ok (.istore_n 3, 1) := by decide +kernel
theorem dX7_spread_26 : decode cX7_spread 26 = .ok (.iload_n 3, 1) := by decide +kernel
theorem dX7_spread_27 : decode cX7_spread 27 = .ok (.aload_n 1, 1) := by decide +kernel
theorem dX7_spread_28 : decode cX7_spread 28 = .ok (.getfield 42, 3) := by decide +kernel
theorem dX7_spread_31 : decode cX7_spread 31 = .ok (.if_icmp .ge 29, 3) := by decide +kernel
theorem dX7_spread_34 : decode cX7_spread 34 = .ok (.iload_n 2, 1) := by decide +kernel
theorem dX7_spread_35 : decode cX7_spread 35 = .ok (.iload_n 3, 1) := by decide +kernel
theorem dX7_spread_36 : decode cX7_spread 36 = .ok (.invokestatic 63, 3) := by decide +kernel
theorem dX7_spread_39 : decode cX7_spread 39 = .ok (.ifCond .ne 15, 3) := by decide +kernel
theorem dX7_spread_42 : decode cX7_spread 42 = .ok (.aload_n 0, 1) := by decide +kernel
theorem dX7_spread_43 : decode cX7_spread 43 = .ok (.iload_n 3, 1) := by decide +kernel
theorem dX7_spread_44 : decode cX7_spread 44 = .ok (.aload_n 0, 1) := by decide +kernel
theorem dX7_spread_45 : decode cX7_spread 45 = .ok (.aload_n 1, 1) := by decide +kernel
theorem dX7_spread_46 : decode cX7_spread 46 = .ok (.iload_n 2, 1) := by decide +kernel
theorem dX7_spread_47 : decode cX7_spread 47 = .ok (.iload_n 3, 1) := by decide +kernel
theorem dX7_spread_48 : decode cX7_spread 48 = .ok (.invokevirtual 67, 3) := by decide +kernel
theorem dX7_spread_51 : decode cX7_spread 51 = .ok (.invokevirtual 71, 3) := by decide +kernel
theorem dX7_spread_54 : decode cX7_spread 54 = .ok (.iinc 3 1, 3) := by decide +kernel
theorem dX7_spread_57 : decode cX7_spread 57 = .ok (.goto (-31), 3) := by decide +kernel
theorem dX7_spread_60 : decode cX7_spread 60 = .ok (.iconst 0, 1) := by decide +kernel
end
section
theorem dX7_spread_61 : decode cX7_spread 61 = .ok (.istore_n 3, 1) := by decide +kernel
theorem dX7_spread_62 : decode cX7_spread 62 = .ok (.iload_n 3, 1) := by decide +kernel
theorem dX7_spread_63 : decode cX7_spread 63 = .ok (.aload_n 0, 1) := by decide +kernel
theorem dX7_spread_64 : decode cX7_spread 64 = .ok (.getfield 60, 3) := by decide +kernel
theorem dX7_spread_67 : decode cX7_spread 67 = .ok (.if_icmp .ge 29, 3) := by decide +kernel
theorem dX7_spread_70 : decode cX7_spread 70 = .ok (.aload_n 0, 1) := by decide +kernel
theorem dX7_spread_71 : decode cX7_spread 71 = .ok (.getfield 15, 3) := by decide +kernel
theorem dX7_spread_74 : decode cX7_spread 74 = .ok (.aload_n 0, 1) := by decide +kernel
theorem dX7_spread_75 : decode cX7_spread 75 = .ok (.getfield 18, 3) := by decide +kernel
theorem dX7_spread_78 : decode cX7_spread 78 = .ok (.iload_n 3, 1) := by decide +kernel
theorem dX7_spread_79 : decode cX7_spread 79 = .ok (.iaload, 1) := by decide +kernel
theorem dX7_spread_80 : decode cX7_spread 80 = .ok (.dup2, 1) := by decide +kernel
theorem dX7_spread_81 : decode cX7_spread 81 = .ok (.iaload, 1) := by decide +kernel
theorem dX7_spread_82 : decode cX7_spread 82 = .ok (.aload_n 0, 1) := by decide +kernel
theorem dX7_spread_83 : decode cX7_spread 83 = .ok (.getfield 21, 3) := by decide +kernel
theorem dX7_spread_86 : decode cX7_spread 86 = .ok (.iload_n 3, 1) := by decide +kernel
theorem dX7_spread_87 : decode cX7_spread 87 = .ok (.iaload, 1) := by decide +kernel
theorem dX7_spread_88 : decode cX7_spread 88 = .ok (.iadd, 1) := by decide +kernel
theorem dX7_spread_89 : decode cX7_spread 89 = .ok (.iastore, 1) := by decide +kernel
theorem dX7_spread_90 : decode cX7_spread 90 = .ok (.iinc 3 1, 3) := by decide +kernel
theorem dX7_spread_93 : decode cX7_spread 93 = .ok (.goto (-31), 3) := by decide +kernel
theorem dX7_spread_96 : decode cX7_spread 96 = .ok (.return_, 1) := by decide +kernel
theorem dX7_staysWell_0 : decode cX7_staysWell 0 = .ok (.ldc 37, 2) := by decide +kernel
theorem dX7_staysWell_2 : decode cX7_staysWell 2 = .ok (.istore 4, 2) := by decide +kernel
theorem dX7_staysWell_4 : decode cX7_staysWell 4 = .ok (.iconst 0, 1) := by decide +kernel
theorem dX7_staysWell_5 : decode cX7_staysWell 5 = .ok (.istore 5, 2) := by decide +kernel
theorem dX7_staysWell_7 : decode cX7_staysWell 7 = .ok (.iload 5, 2) := by decide +kernel
theorem dX7_staysWell_9 : decode cX7_staysWell 9 = .ok (.aload_n 1, 1) := by decide +kernel
theorem dX7_staysWell_10 : decode cX7_staysWell 10 = .ok (.getfield 42, 3) := by decide +kernel
theorem dX7_staysWell_13 : decode cX7_staysWell 13 = .ok (.if_icmp .ge 41, 3) := by decide +kernel
theorem dX7_staysWell_16 : decode cX7_staysWell 16 = .ok (.iload_n 2, 1) := by decide +kernel
theorem dX7_staysWell_17 : decode cX7_staysWell 17 = .ok (.iload 5, 2) := by decide +kernel
theorem dX7_staysWell_19 : decode cX7_staysWell 19 = .ok (.invokestatic 63, 3) := by decide +kernel
theorem dX7_staysWell_22 : decode cX7_staysWell 22 = .ok (.ifCond .eq 26, 3) := by decide +kernel
theorem dX7_staysWell_25 : decode cX7_staysWell 25 = .ok (.iload 4, 2) := by decide +kernel
theorem dX7_staysWell_27 : decode cX7_staysWell 27 = .ok (.bipush 100, 2) := by decide +kernel
theorem dX7_staysWell_29 : decode cX7_staysWell 29 = .ok (.aload_n 1, 1) := by decide +kernel
theorem dX7_staysWell_30 : decode cX7_staysWell 30 = .ok (.getfield 75, 3) := by decide +kernel
theorem dX7_staysWell_33 : decode cX7_staysWell 33 = .ok (.iload 5, 2) := by decide +kernel
theorem dX7_staysWell_35 : decode cX7_staysWell 35 = .ok (.bipush 10, 2) := by decide +kernel
theorem dX7_staysWell_37 : decode cX7_staysWell 37 = .ok (.imul, 1) := by decide +kernel
theorem dX7_staysWell_38 : decode cX7_staysWell 38 = .ok (.iload_n 3, 1) := by decide +kernel
theorem dX7_staysWell_39 : decode cX7_staysWell 39 = .ok (.iadd, 1) := by decide +kernel
theorem dX7_staysWell_40 : decode cX7_staysWell 40 = .ok (.iaload, 1) := by decide +kernel
theorem dX7_staysWell_41 : decode cX7_staysWell 41 = .ok (.isub, 1) := by decide +kernel
theorem dX7_staysWell_42 : decode cX7_staysWell 42 = .ok (.imul, 1) := by decide +kernel
theorem dX7_staysWell_43 : decode cX7_staysWell 43 = .ok (.bipush 100, 2) := by decide +kernel
theorem dX7_staysWell_45 : decode cX7_staysWell 45 = .ok (.idiv, 1) := by decide +kernel
theorem dX7_staysWell_46 : decode cX7_staysWell 46 = .ok (.istore 4, 2) := by decide +kernel
theorem dX7_staysWell_48 : decode cX7_staysWell 48 = .ok (.iinc 5 1, 3) := by decide +kernel
theorem dX7_staysWell_51 : decode cX7_staysWell 51 = .ok (.goto (-44), 3) := by decide +kernel
theorem dX7_staysWell_54 : decode cX7_staysWell 54 = .ok (.iload 4, 2) := by decide +kernel
theorem dX7_staysWell_56 : decode cX7_staysWell 56 = .ok (.ireturn, 1) := by decide +kernel
theorem dX7_divide_0 : decode cX7_divide 0 = .ok (.aload_n 0, 1) := by decide +kernel
theorem dX7_divide_1 : decode cX7_divide 1 = .ok (.getfield 60, 3) := by decide +kernel
theorem dX7_divide_4 : decode cX7_divide 4 = .ok (.istore_n 3, 1) := by decide +kernel
theorem dX7_divide_5 : decode cX7_divide 5 = .ok (.iconst 0, 1) := by decide +kernel
theorem dX7_divide_6 : decode cX7_divide 6 = .ok (.istore 4, 2) := by decide +kernel
theorem dX7_divide_8 : decode cX7_divide 8 = .ok (.iload 4, 2) := by decide +kernel
theorem dX7_divide_10 : decode cX7_divide 10 = .ok (.iload_n 3, 1) := by decide +kernel
theorem dX7_divide_11 : decode cX7_divide 11 = .ok (.if_icmp .ge 112, 3) := by decide +kernel
theorem dX7_divide_14 : decode cX7_divide 14 = .ok (.aload_n 0, 1) := by decide +kernel
theorem dX7_divide_15 : decode cX7_divide 15 = .ok (.getfield 21, 3) := by decide +kernel
theorem dX7_divide_18 : decode cX7_divide 18 = .ok (.iload 4, 2) := by decide +kernel
theorem dX7_divide_20 : decode cX7_divide 20 = .ok (.iaload, 1) := by decide +kernel
theorem dX7_divide_21 : decode cX7_divide 21 = .ok (.istore 5, 2) := by decide +kernel
theorem dX7_divide_23 : decode cX7_divide 23 = .ok (.iload 5, 2) := by decide +kernel
theorem dX7_divide_25 : decode cX7_divide 25 = .ok (.i2l, 1) := by decide +kernel
theorem dX7_divide_26 : decode cX7_divide 26 = .ok (.iload_n 2, 1) := by decide +kernel
theorem dX7_divide_27 : decode cX7_divide 27 = .ok (.i2l, 1) := by decide +kernel
theorem dX7_divide_28 : decode cX7_divide 28 = .ok (.lmul, 1) := by decide +kernel
theorem dX7_divide_29 : decode cX7_divide 29 = .ok (.ldc2_w 78, 3) := by decide +kernel
theorem dX7_divide_32 : decode cX7_divide 32 = .ok (.ldiv, 1) := by decide +kernel
theorem dX7_divide_33 : decode cX7_divide 33 = .ok (.l2i, 1) := by decide +kernel
theorem dX7_divide_34 : decode cX7_divide 34 = .ok (.istore 6, 2) := by decide +kernel
theorem dX7_divide_36 : decode cX7_divide 36 = .ok (.aload_n 0, 1) := by decide +kernel
theorem dX7_divide_37 : decode cX7_divide 37 = .ok (.getfield 18, 3) := by decide +kernel
theorem dX7_divide_40 : decode cX7_divide 40 = .ok (.iload 4, 2) := by decide +kernel
theorem dX7_divide_42 : decode cX7_divide 42 = .ok (.iaload, 1) := by decide +kernel
theorem dX7_divide_43 : decode cX7_divide 43 = .ok (.iconst 1, 1) := by decide +kernel
theorem dX7_divide_44 : decode cX7_divide 44 = .ok (.iload_n 1, 1) := by decide +kernel
theorem dX7_divide_45 : decode cX7_divide 45 = .ok (.ishl, 1) := by decide +kernel
theorem dX7_divide_46 : decode cX7_divide 46 = .ok (.ior, 1) := by decide +kernel
theorem dX7_divide_47 : decode cX7_divide 47 = .ok (.istore 7, 2) := by decide +kernel
theorem dX7_divide_49 : decode cX7_divide 49 = .ok (.iload 6, 2) := by decide +kernel
theorem dX7_divide_51 : decode cX7_divide 51 = .ok (.ifCond .ne 15, 3) := by decide +kernel
theorem dX7_divide_54 : decode cX7_divide 54 = .ok (.aload_n 0, 1) := by decide +kernel
theorem dX7_divide_55 : decode cX7_divide 55 = .ok (.getfield 18, 3) := by decide +kernel
theorem dX7_divide_58 : decode cX7_divide 58 = .ok (.iload 4, 2) := by decide +kernel
theorem dX7_divide_60 : decode cX7_divide 60 = .ok (.iload 7, 2) := by decide +kernel
theorem dX7_divide_62 : decode cX7_divide 62 = .ok (.iastore, 1) := by decide +kernel
theorem dX7_divide_63 : decode cX7_divide 63 = .ok (.goto 54, 3) := by decide +kernel
theorem dX7_divide_66 : decode cX7_divide 66 = .ok (.iload 6, 2) := by decide +kernel
theorem dX7_divide_68 : decode cX7_divide 68 = .ok (.iload 5, 2) := by decide +kernel
theorem dX7_divide_70 : decode cX7_divide 70 = .ok (.if_icmp .ge 47, 3) := by decide +kernel
theorem dX7_divide_73 : decode cX7_divide 73 = .ok (.aload_n 0, 1) := by decide +kernel
theorem dX7_divide_74 : decode cX7_divide 74 = .ok (.getfield 21, 3) := by decide +kernel
theorem dX7_divide_77 : decode cX7_divide 77 = .ok (.iload 4, 2) := by decide +kernel
theorem dX7_divide_79 : decode cX7_divide 79 = .ok (.iload 6, 2) := by decide +kernel
theorem dX7_divide_81 : decode cX7_divide 81 = .ok (.iastore, 1) := by decide +kernel
theorem dX7_divide_82 : decode cX7_divide 82 = .ok (.aload_n 0, 1) := by decide +kernel
theorem dX7_divide_83 : decode cX7_divide 83 = .ok (.getfield 18, 3) := by decide +kernel
theorem dX7_divide_86 : decode cX7_divide 86 = .ok (.aload_n 0, 1) := by decide +kernel
theorem dX7_divide_87 : decode cX7_divide 87 = .ok (.getfield 60, 3) := by decide +kernel
theorem dX7_divide_90 : decode cX7_divide 90 = .ok (.iload 7, 2) := by decide +kernel
theorem dX7_divide_92 : decode cX7_divide 92 = .ok (.iastore, 1) := by decide +kernel
theorem dX7_divide_93 : decode cX7_divide 93 = .ok (.aload_n 0, 1) := by decide +kernel
theorem dX7_divide_94 : decode cX7_divide 94 = .ok (.getfield 21, 3) := by decide +kernel
theorem dX7_divide_97 : decode cX7_divide 97 = .ok (.aload_n 0, 1) := by decide +kernel
theorem dX7_divide_98 : decode cX7_divide 98 = .ok (.getfield 60, 3) := by decide +kernel
theorem dX7_divide_101 : decode cX7_divide 101 = .ok (.iload 5, 2) := by decide +kernel
theorem dX7_divide_103 : decode cX7_divide 103 = .ok (.iload 6, 2) := by decide +kernel
theorem dX7_divide_105 : decode cX7_divide 105 = .ok (.isub, 1) := by decide +kernel
theorem dX7_divide_106 : decode cX7_divide 106 = .ok (.iastore, 1) := by decide +kernel
theorem dX7_divide_107 : decode cX7_divide 107 = .ok (.aload_n 0, 1) := by decide +kernel
theorem dX7_divide_108 : decode cX7_divide 108 = .ok (.dup, 1) := by decide +kernel
theorem dX7_divide_109 : decode cX7_divide 109 = .ok (.getfield 60, 3) := by decide +kernel
theorem dX7_divide_112 : decode cX7_divide 112 = .ok (.iconst 1, 1) := by decide +kernel
theorem dX7_divide_113 : decode cX7_divide 113 = .ok (.iadd, 1) := by decide +kernel
theorem dX7_divide_114 : decode cX7_divide 114 = .ok (.putfield 60, 3) := by decide +kernel
theorem dX7_divide_117 : decode cX7_divide 117 = .ok (.iinc 4 1, 3) := by decide +kernel
theorem dX7_divide_120 : decode cX7_divide 120 = .ok (.goto (-112), 3) := by decide +kernel
theorem dX7_divide_123 : decode cX7_divide 123 = .ok (.return_, 1) := by decide +kernel
theorem dX7_timesIll_0 : decode cX7_timesIll 0 = .ok (.iconst 0, 1) := by decide +kernel
theorem dX7_timesIll_1 : decode cX7_timesIll 1 = .ok (.istore_n 3, 1) := by decide +kernel
theorem dX7_timesIll_2 : decode cX7_timesIll 2 = .ok (.iconst 0, 1) := by decide +kernel
theorem dX7_timesIll_3 : decode cX7_timesIll 3 = .ok (.istore 4, 2) := by decide +kernel
theorem dX7_timesIll_5 : decode cX7_timesIll 5 = .ok (.iload 4, 2) := by decide +kernel
theorem dX7_timesIll_7 : decode cX7_timesIll 7 = .ok (.iconst 1, 1) := by decide +kernel
theorem dX7_timesIll_8 : decode cX7_timesIll 8 = .ok (.aload_n 1, 1) := by decide +kernel
theorem dX7_timesIll_9 : decode cX7_timesIll 9 = .ok (.getfield 42, 3) := by decide +kernel
theorem dX7_timesIll_12 : decode cX7_timesIll 12 = .ok (.ishl, 1) := by decide +kernel
theorem dX7_timesIll_13 : decode cX7_timesIll 13 = .ok (.if_icmp .ge 28, 3) := by decide +kernel
theorem dX7_timesIll_16 : decode cX7_timesIll 16 = .ok (.iload 4, 2) := by decide +kernel
theorem dX7_timesIll_18 : decode cX7_timesIll 18 = .ok (.iload_n 2, 1) := by decide +kernel
theorem dX7_timesIll_19 : decode cX7_timesIll 19 = .ok (.invokestatic 63, 3) := by decide +kernel
theorem dX7_timesIll_22 : decode cX7_timesIll 22 = .ok (.ifCond .eq 13, 3) := by decide +kernel
theorem dX7_timesIll_25 : decode cX7_timesIll 25 = .ok (.iload_n 3, 1) := by decide +kernel
theorem dX7_timesIll_26 : decode cX7_timesIll 26 = .ok (.aload_n 0, 1) := by decide +kernel
theorem dX7_timesIll_27 : decode cX7_timesIll 27 = .ok (.getfield 9, 3) := by decide +kernel
theorem dX7_timesIll_30 : decode cX7_timesIll 30 = .ok (.iload 4, 2) := by decide +kernel
theorem dX7_timesIll_32 : decode cX7_timesIll 32 = .ok (.iaload, 1) := by decide +kernel
theorem dX7_timesIll_33 : decode cX7_timesIll 33 = .ok (.iadd, 1) := by decide +kernel
theorem dX7_timesIll_34 : decode cX7_timesIll 34 = .ok (.istore_n 3, 1) := by decide +kernel
theorem dX7_timesIll_35 : decode cX7_timesIll 35 = .ok (.iinc 4 1, 3) := by decide +kernel
theorem dX7_timesIll_38 : decode cX7_timesIll 38 = .ok (.goto (-33), 3) := by decide +kernel
theorem dX7_timesIll_41 : decode cX7_timesIll 41 = .ok (.iload_n 3, 1) := by decide +kernel
theorem dX7_timesIll_42 : decode cX7_timesIll 42 = .ok (.ireturn, 1) := by decide +kernel
theorem dX7_timesMet_0 : decode cX7_timesMet 0 = .ok (.iconst 0, 1) := by decide +kernel
theorem dX7_timesMet_1 : decode cX7_timesMet 1 = .ok (.istore_n 3, 1) := by decide +kernel
theorem dX7_timesMet_2 : decode cX7_timesMet 2 = .ok (.iconst 0, 1) := by decide +kernel
theorem dX7_timesMet_3 : decode cX7_timesMet 3 = .ok (.istore 4, 2) := by decide +kernel
theorem dX7_timesMet_5 : decode cX7_timesMet 5 = .ok (.iload 4, 2) := by decide +kernel
theorem dX7_timesMet_7 : decode cX7_timesMet 7 = .ok (.iconst 1, 1) := by decide +kernel
theorem dX7_timesMet_8 : decode cX7_timesMet 8 = .ok (.aload_n 1, 1) := by decide +kernel
theorem dX7_timesMet_9 : decode cX7_timesMet 9 = .ok (.getfield 42, 3) := by decide +kernel
theorem dX7_timesMet_12 : decode cX7_timesMet 12 = .ok (.ishl, 1) := by decide +kernel
theorem dX7_timesMet_13 : decode cX7_timesMet 13 = .ok (.if_icmp .ge 39, 3) := by decide +kernel
theorem dX7_timesMet_16 : decode cX7_timesMet 16 = .ok (.aload_n 0, 1) := by decide +kernel
theorem dX7_timesMet_17 : decode cX7_timesMet 17 = .ok (.getfield 9, 3) := by decide +kernel
theorem dX7_timesMet_20 : decode cX7_timesMet 20 = .ok (.iload 4, 2) := by decide +kernel
theorem dX7_timesMet_22 : decode cX7_timesMet 22 = .ok (.iaload, 1) := by decide +kernel
theorem dX7_timesMet_23 : decode cX7_timesMet 23 = .ok (.ifCond .le 23, 3) := by decide +kernel
theorem dX7_timesMet_26 : decode cX7_timesMet 26 = .ok (.aload_n 2, 1) := by decide +kernel
theorem dX7_timesMet_27 : decode cX7_timesMet 27 = .ok (.aload_n 1, 1) := by decide +kernel
theorem dX7_timesMet_28 : decode cX7_timesMet 28 = .ok (.iload 4, 2) := by decide +kernel
theorem dX7_timesMet_30 : decode cX7_timesMet 30 = .ok (.invokevirtual 80, 3) := by decide +kernel
theorem dX7_timesMet_33 : decode cX7_timesMet 33 = .ok (.ifCond .eq 13, 3) := by decide +kernel
theorem dX7_timesMet_36 : decode cX7_timesMet 36 = .ok (.iload_n 3, 1) := by decide +kernel
theorem dX7_timesMet_37 : decode cX7_timesMet 37 = .ok (.aload_n 0, 1) := by decide +kernel
theorem dX7_timesMet_38 : decode cX7_timesMet 38 = .ok (.getfield 9, 3) := by decide +kernel
theorem dX7_timesMet_41 : decode cX7_timesMet 41 = .ok (.iload 4, 2) := by decide +kernel
theorem dX7_timesMet_43 : decode cX7_timesMet 43 = .ok (.iaload, 1) := by decide +kernel
theorem dX7_timesMet_44 : decode cX7_timesMet 44 = .ok (.iadd, 1) := by decide +kernel
theorem dX7_timesMet_45 : decode cX7_timesMet 45 = .ok (.istore_n 3, 1) := by decide +kernel
theorem dX7_timesMet_46 : decode cX7_timesMet 46 = .ok (.iinc 4 1, 3) := by decide +kernel
theorem dX7_timesMet_49 : decode cX7_timesMet 49 = .ok (.goto (-44), 3) := by decide +kernel
theorem dX7_timesMet_52 : decode cX7_timesMet 52 = .ok (.iload_n 3, 1) := by decide +kernel
theorem dX7_timesMet_53 : decode cX7_timesMet 53 = .ok (.ireturn, 1) := by decide +kernel
theorem dX7_likeliest_0 : decode cX7_likeliest 0 = .ok (.iconst 0, 1) := by decide +kernel
theorem dX7_likeliest_1 : decode cX7_likeliest 1 = .ok (.istore_n 2, 1) := by decide +kernel
theorem dX7_likeliest_2 : decode cX7_likeliest 2 = .ok (.iconst 1, 1) := by decide +kernel
theorem dX7_likeliest_3 : decode cX7_likeliest 3 = .ok (.istore_n 3, 1) := by decide +kernel
theorem dX7_likeliest_4 : decode cX7_likeliest 4 = .ok (.iload_n 3, 1) := by decide +kernel
theorem dX7_likeliest_5 : decode cX7_likeliest 5 = .ok (.iconst 1, 1) := by decide +kernel
theorem dX7_likeliest_6 : decode cX7_likeliest 6 = .ok (.aload_n 1, 1) := by decide +kernel
theorem dX7_likeliest_7 : decode cX7_likeliest 7 = .ok (.getfield 42, 3) := by decide +kernel
theorem dX7_likeliest_10 : decode cX7_likeliest 10 = .ok (.ishl, 1) := by decide +kernel
theorem dX7_likeliest_11 : decode cX7_likeliest 11 = .ok (.if_icmp .ge 26, 3) := by decide +kernel
theorem dX7_likeliest_14 : decode cX7_likeliest 14 = .ok (.aload_n 0, 1) := by decide +kernel
theorem dX7_likeliest_15 : decode cX7_likeliest 15 = .ok (.getfield 9, 3) := by decide +kernel
theorem dX7_likeliest_18 : decode cX7_likeliest 18 = .ok (.iload_n 3, 1) := by decide +kernel
theorem dX7_likeliest_19 : decode cX7_likeliest 19 = .ok (.iaload, 1) := by decide +kernel
theorem dX7_likeliest_20 : decode cX7_likeliest 20 = .ok (.aload_n 0, 1) := by decide +kernel
theorem dX7_likeliest_21 : decode cX7_likeliest 21 = .ok (.getfield 9, 3) := by decide +kernel
theorem dX7_likeliest_24 : decode cX7_likeliest 24 = .ok (.iload_n 2, 1) := by decide +kernel
theorem dX7_likeliest_25 : decode cX7_likeliest 25 = .ok (.iaload, 1) := by decide +kernel
theorem dX7_likeliest_26 : decode cX7_likeliest 26 = .ok (.if_icmp .le 5, 3) := by decide +kernel
theorem dX7_likeliest_29 : decode cX7_likeliest 29 = .ok (.iload_n 3, 1) := by decide +kernel
theorem dX7_likeliest_30 : decode cX7_likeliest 30 = .ok (.istore_n 2, 1) := by decide +kernel
theorem dX7_likeliest_31 : decode cX7_likeliest 31 = .ok (.iinc 3 1, 3) := by decide +kernel
theorem dX7_likeliest_34 : decode cX7_likeliest 34 = .ok (.goto (-30), 3) := by decide +kernel
theorem dX7_likeliest_37 : decode cX7_likeliest 37 = .ok (.iload_n 2, 1) := by decide +kernel
theorem dX7_likeliest_38 : decode cX7_likeliest 38 = .ok (.ireturn, 1) := by decide +kernel
theorem dX8_init_0 : decode cX8_init 0 = .ok (.aload_n 0, 1) := by decide +kernel
theorem dX8_init_1 : decode cX8_init 1 = .ok (.invokespecial 3, 3) := by decide +kernel
theorem dX8_init_4 : decode cX8_init 4 = .ok (.aload_n 0, 1) := by decide +kernel
theorem dX8_init_5 : decode cX8_init 5 = .ok (.bipush 32, 2) := by decide +kernel
theorem dX8_init_7 : decode cX8_init 7 = .ok (.newarray .int, 2) := by decide +kernel
theorem dX8_init_9 : decode cX8_init 9 = .ok (.putfield 11, 3) := by decide +kernel
theorem dX8_init_12 : decode cX8_init 12 = .ok (.aload_n 0, 1) := by decide +kernel
theorem dX8_init_13 : decode cX8_init 13 = .ok (.bipush 32, 2) := by decide +kernel
theorem dX8_init_15 : decode cX8_init 15 = .ok (.newarray .int, 2) := by decide +kernel
theorem dX8_init_17 : decode cX8_init 17 = .ok (.putfield 15, 3) := by decide +kernel
theorem dX8_init_20 : decode cX8_init 20 = .ok (.aload_n 0, 1) := by decide +kernel
theorem dX8_init_21 : decode cX8_init 21 = .ok (.bipush 32, 2) := by decide +kernel
theorem dX8_init_23 : decode cX8_init 23 = .ok (.newarray .int, 2) := by decide +kernel
theorem dX8_init_25 : decode cX8_init 25 = .ok (.putfield 18, 3) := by decide +kernel
theorem dX8_init_28 : decode cX8_init 28 = .ok (.aload_n 0, 1) := by decide +kernel
theorem dX8_init_29 : decode cX8_init 29 = .ok (.sipush 3300, 3) := by decide +kernel
theorem dX8_init_32 : decode cX8_init 32 = .ok (.newarray .int, 2) := by decide +kernel
theorem dX8_init_34 : decode cX8_init 34 = .ok (.putfield 21, 3) := by decide +kernel
theorem dX8_init_37 : decode cX8_init 37 = .ok (.aload_n 0, 1) := by decide +kernel
theorem dX8_init_38 : decode cX8_init 38 = .ok (.bipush 32, 2) := by decide +kernel
theorem dX8_init_40 : decode cX8_init 40 = .ok (.newarray .int, 2) := by decide +kernel
theorem dX8_init_42 : decode cX8_init 42 = .ok (.putfield 24, 3) := by decide +kernel
theorem dX8_init_45 : decode cX8_init 45 = .ok (.return_, 1) := by decide +kernel
theorem dX8_plan_0 : decode cX8_plan 0 = .ok (.aload_n 0, 1) := by decide +kernel
theorem dX8_plan_1 : decode cX8_plan 1 = .ok (.aload_n 1, 1) := by decide +kernel
theorem dX8_plan_2 : decode cX8_plan 2 = .ok (.aload_n 2, 1) := by decide +kernel
theorem dX8_plan_3 : decode cX8_plan 3 = .ok (.invokevirtual 27, 3) := by decide +kernel
theorem dX8_plan_6 : decode cX8_plan 6 = .ok (.aload_n 0, 1) := by decide +kernel
theorem dX8_plan_7 : decode cX8_plan 7 = .ok (.iload_n 3, 1) := by decide +kernel
theorem dX8_plan_8 : decode cX8_plan 8 = .ok (.invokevirtual 31, 3) := by decide +kernel
theorem dX8_plan_11 : decode cX8_plan 11 = .ok (.aload_n 0, 1) := by decide +kernel
theorem dX8_plan_12 : decode cX8_plan 12 = .ok (.iload_n 3, 1) := by decide +kernel
theorem dX8_plan_13 : decode cX8_plan 13 = .ok (.invokevirtual 35, 3) := by decide +kernel
theorem dX8_plan_16 : decode cX8_plan 16 = .ok (.return_, 1) := by decide +kernel
theorem dX8_listPairs_0 : decode cX8_listPairs 0 = .ok (.aload_n 0, 1) := by decide +kernel
theorem dX8_listPairs_1 : decode cX8_listPairs 1 = .ok (.iconst 0, 1) := by decide +kernel
theorem dX8_listPairs_2 : decode cX8_listPairs 2 = .ok (.putfield 38, 3) := by decide +kernel
theorem dX8_listPairs_5 : decode cX8_listPairs 5 = .ok (.iconst 0, 1) := by decide +kernel
theorem dX8_listPairs_6 : decode cX8_listPairs 6 = .ok (.istore_n 3, 1) := by decide +kernel
theorem dX8_listPairs_7 : decode cX8_listPairs 7 = .ok (.iload_n 3, 1) := by decide +kernel
theorem dX8_listPairs_8 : decode cX8_listPairs 8 = .ok (.aload_n 1, 1) := by decide +kernel
theorem dX8_listPairs_9 : decode cX8_listPairs 9 = .ok (.getfield 42, 3) := by decide +kernel
theorem dX8_listPairs_12 : decode cX8_listPairs 12 = .ok (.if_icmp .ge 117, 3) := by decide +kernel
theorem dX8_listPairs_15 : decode cX8_listPairs 15 = .ok (.iconst 0, 1) := by decide +kernel
theorem dX8_listPairs_16 : decode cX8_listPairs 16 = .ok (.istore 4, 2) := by decide +kernel
theorem dX8_listPairs_18 : decode cX8_listPairs 18 = .ok (.iload 4, 2) := by decide +kernel
theorem dX8_listPairs_20 : decode cX8_listPairs 20 = .ok (.aload_n 1, 1) := by decide +kernel
theorem dX8_listPairs_21 : decode cX8_listPairs 21 = .ok (.getfield 47, 3) := by decide +kernel
theorem dX8_listPairs_24 : decode cX8_listPairs 24 = .ok (.if_icmp .ge 99, 3) := by decide +kernel
theorem dX8_listPairs_27 : decode cX8_listPairs 27 = .ok (.aload_n 1, 1) := by decide +kernel
theorem dX8_listPairs_28 : decode cX8_listPairs 28 = .ok (.iload_n 3, 1) := by decide +kernel
theorem dX8_listPairs_29 : decode cX8_listPairs 29 = .ok (.iload 4, 2) := by decide +kernel
theorem dX8_listPairs_31 : decode cX8_listPairs 31 = .ok (.invokevirtual 50, 3) := by decide +kernel
theorem dX8_listPairs_34 : decode cX8_listPairs 34 = .ok (.ifCond .eq 14, 3) := by decide +kernel
theorem dX8_listPairs_37 : decode cX8_listPairs 37 = .ok (.aload_n 2, 1) := by decide +kernel
theorem dX8_listPairs_38 : decode cX8_listPairs 38 = .ok (.aload_n 1, 1) := by decide +kernel
theorem dX8_listPairs_39 : decode cX8_listPairs 39 = .ok (.iload_n 3, 1) := by decide +kernel
theorem dX8_listPairs_40 : decode cX8_listPairs 40 = .ok (.iload 4, 2) := by decide +kernel
theorem dX8_listPairs_42 : decode cX8_listPairs 42 = .ok (.invokevirtual 54, 3) := by decide +kernel
theorem dX8_listPairs_45 : decode cX8_listPairs 45 = .ok (.goto 4, 3) := by decide +kernel
theorem dX8_listPairs_48 : decode cX8_listPairs 48 = .ok (.iconst 0, 1) := by decide +kernel
theorem dX8_listPairs_49 : decode cX8_listPairs 49 = .ok (.istore 5, 2) := by decide +kernel
theorem dX8_listPairs_51 : decode cX8_listPairs 51 = .ok (.iload 5, 2) := by decide +kernel
theorem dX8_listPairs_53 : decode cX8_listPairs 53 = .ok (.ifCond .le 64, 3) := by decide +kernel
theorem dX8_listPairs_56 : decode cX8_listPairs 56 = .ok (.aload_n 0, 1) := by decide +kernel
theorem dX8_listPairs_57 : decode cX8_listPairs 57 = .ok (.getfield 38, 3) := by decide +kernel
theorem dX8_listPairs_60 : decode cX8_listPairs 60 = .ok (.bipush 32, 2) := by decide +kernel
theorem dX8_listPairs_62 : decode cX8_listPairs 62 = .ok (.if_icmp .ge 55, 3) := by decide +kernel
theorem dX8_listPairs_65 : decode cX8_listPairs 65 = .ok (.aload_n 0, 1) := by decide +kernel
theorem dX8_listPairs_66 : decode cX8_listPairs 66 = .ok (.getfield 11, 3) := by decide +kernel
theorem dX8_listPairs_69 : decode cX8_listPairs 69 = .ok (.aload_n 0, 1) := by decide +kernel
theorem dX8_listPairs_70 : decode cX8_listPairs 70 = .ok (.getfield 38, 3) := by decide +kernel
theorem dX8_listPairs_73 : decode cX8_listPairs 73 = .ok (.bipush 10, 2) := by decide +kernel
theorem dX8_listPairs_75 : decode cX8_listPairs 75 = .ok (.iload_n 3, 1) := by decide +kernel
theorem dX8_listPairs_76 : decode cX8_listPairs 76 = .ok (.imul, 1) := by decide +kernel
theorem dX8_listPairs_77 : decode cX8_listPairs 77 = .ok (.iload 4, 2) := by decide +kernel
theorem dX8_listPairs_79 : decode cX8_listPairs 79 = .ok (.iadd, 1) := by decide +kernel
theorem dX8_listPairs_80 : decode cX8_listPairs 80 = .ok (.iastore, 1) := by decide +kernel
theorem dX8_listPairs_81 : decode cX8_listPairs 81 = .ok (.aload_n 0, 1) := by decide +kernel
theorem dX8_listPairs_82 : decode cX8_listPairs 82 = .ok (.getfield 15, 3) := by decide +kernel
theorem dX8_listPairs_85 : decode cX8_listPairs 85 = .ok (.aload_n 0, 1) := by decide +kernel
theorem dX8_listPairs_86 : decode cX8_listPairs 86 = .ok (.getfield 38, 3) := by decide +kernel
theorem dX8_listPairs_89 : decode cX8_listPairs 89 = .ok (.aload_n 1, 1) := by decide +kernel
theorem dX8_listPairs_90 : decode cX8_listPairs 90 = .ok (.iload 4, 2) := by decide +kernel
theorem dX8_listPairs_92 : decode cX8_listPairs 92 = .ok (.invokevirtual 60, 3) := by decide +kernel
theorem dX8_listPairs_95 : decode cX8_listPairs 95 = .ok (.iastore, 1) := by decide +kernel
theorem dX8_listPairs_96 : decode cX8_listPairs 96 = .ok (.aload_n 0, 1) := by decide +kernel
theorem dX8_listPairs_97 : decode cX8_listPairs 97 = .ok (.getfield 18, 3) := by decide +kernel
theorem dX8_listPairs_100 : decode cX8_listPairs 100 = .ok (.aload_n 0, 1) := by decide +kernel
theorem dX8_listPairs_101 : decode cX8_listPairs 101 = .ok (.getfield 38, 3) := by decide +kernel
theorem dX8_listPairs_104 : decode cX8_listPairs 104 = .ok (.iload 5, 2) := by decide +kernel
theorem dX8_listPairs_106 : decode cX8_listPairs 106 = .ok (.iastore, 1) := by decide +kernel
theorem dX8_listPairs_107 : decode cX8_listPairs 107 = .ok (.aload_n 0, 1) := by decide +kernel
theorem dX8_listPairs_108 : decode cX8_listPairs 108 = .ok (.dup, 1) := by decide +kernel
theorem dX8_listPairs_109 : decode cX8_listPairs 109 = .ok (.getfield 38, 3) := by decide +kernel
theorem dX8_listPairs_112 : decode cX8_listPairs 112 = .ok (.iconst 1, 1) := by decide +kernel
theorem dX8_listPairs_113 : decode cX8_listPairs 113 = .ok (.iadd, 1) := by decide +kernel
theorem dX8_listPairs_114 : decode cX8_listPairs 114 = .ok (.putfield 38, 3) := by decide +kernel
theorem dX8_listPairs_117 : decode cX8_listPairs 117 = .ok (.iinc 4 1, 3) := by decide +kernel
theorem dX8_listPairs_120 : decode cX8_listPairs 120 = .ok (.goto (-102), 3) := by decide +kernel
theorem dX8_listPairs_123 : decode cX8_listPairs 123 = .ok (.iinc 3 1, 3) := by decide +kernel
theorem dX8_listPairs_126 : decode cX8_listPairs 126 = .ok (.goto (-119), 3) := by decide +kernel
theorem dX8_listPairs_129 : decode cX8_listPairs 129 = .ok (.return_, 1) := by decide +kernel
theorem dX8_weighPairs_0 : decode cX8_weighPairs 0 = .ok (.aload_n 0, 1) := by decide +kernel
theorem dX8_weighPairs_1 : decode cX8_weighPairs 1 = .ok (.getfield 21, 3) := by decide +kernel
theorem dX8_weighPairs_4 : decode cX8_weighPairs 4 = .ok (.aload_n 0, 1) := by decide +kernel
theorem dX8_weighPairs_5 : decode cX8_weighPairs 5 = .ok (.getfield 38, 3) := by decide +kernel
theorem dX8_weighPairs_8 : decode cX8_weighPairs 8 = .ok (.bipush 100, 2) := by decide +kernel
theorem dX8_weighPairs_10 : decode cX8_weighPairs 10 = .ok (.imul, 1) := by decide +kernel
theorem dX8_weighPairs_11 : decode cX8_weighPairs 11 = .ok (.aload_n 0, 1) := by decide +kernel
theorem dX8_weighPairs_12 : decode cX8_weighPairs 12 = .ok (.getfield 38, 3) := by decide +kernel
theorem dX8_weighPairs_15 : decode cX8_weighPairs 15 = .ok (.bipush 100, 2) := by decide +kernel
theorem dX8_weighPairs_17 : decode cX8_weighPairs 17 = .ok (.imul, 1) := by decide +kernel
theorem dX8_weighPairs_18 : decode cX8_weighPairs 18 = .ok (.bipush 100, 2) := by decide +kernel
theorem dX8_weighPairs_20 : decode cX8_weighPairs 20 = .ok (.iadd, 1) := by decide +kernel
theorem dX8_weighPairs_21 : decode cX8_weighPairs 21 = .ok (.iconst 0, 1) := by decide +kernel
theorem dX8_weighPairs_22 : decode cX8_weighPairs 22 = .ok (.invokestatic 64, 3) := by decide +kernel
theorem dX8_weighPairs_25 : decode cX8_weighPairs 25 = .ok (.aload_n 0, 1) := by decide +kernel
theorem dX8_weighPairs_26 : decode cX8_weighPairs 26 = .ok (.getfield 38, 3) := by decide +kernel
theorem dX8_weighPairs_29 : decode cX8_weighPairs 29 = .ok (.iconst 1, 1) := by decide +kernel
theorem dX8_weighPairs_30 : decode cX8_weighPairs 30 = .ok (.isub, 1) := by decide +kernel
theorem dX8_weighPairs_31 : decode cX8_weighPairs 31 = .ok (.istore_n 2, 1) := by decide +kernel
theorem dX8_weighPairs_32 : decode cX8_weighPairs 32 = .ok (.iload_n 2, 1) := by decide +kernel
theorem dX8_weighPairs_33 : decode cX8_weighPairs 33 = .ok (.ifCond .lt 59, 3) := by decide +kernel
theorem dX8_weighPairs_36 : decode cX8_weighPairs 36 = .ok (.iconst 0, 1) := by decide +kernel
theorem dX8_weighPairs_37 : decode cX8_weighPairs 37 = .ok (.istore_n 3, 1) := by decide +kernel
theorem dX8_weighPairs_38 : decode cX8_weighPairs 38 = .ok (.iload_n 3, 1) := by decide +kernel
theorem dX8_weighPairs_39 : decode cX8_weighPairs 39 = .ok (.iload_n 1, 1) := by decide +kernel
theorem dX8_weighPairs_40 : decode cX8_weighPairs 40 = .ok (.if_icmp .gt 46, 3) := by decide +kernel
theorem dX8_weighPairs_43 : decode cX8_weighPairs 43 = .ok (.aload_n 0, 1) := by decide +kernel
theorem dX8_weighPairs_44 : decode cX8_weighPairs 44 = .ok (.getfield 21, 3) := by decide +kernel
theorem dX8_weighPairs_47 : decode cX8_weighPairs 47 = .ok (.iload_n 2, 1) := by decide +kernel
theorem dX8_weighPairs_48 : decode cX8_weighPairs 48 = .ok (.iconst 1, 1) := by decide +kernel
theorem dX8_weighPairs_49 : decode cX8_weighPairs 49 = .ok (.iadd, 1) := by decide +kernel
theorem dX8_weighPairs_50 : decode cX8_weighPairs 50 = .ok (.bipush 100, 2) := by decide +kernel
theorem dX8_weighPairs_52 : decode cX8_weighPairs 52 = .ok (.imul, 1) := by decide +kernel
theorem dX8_weighPairs_53 : decode cX8_weighPairs 53 = .ok (.iload_n 3, 1) := by decide +kernel
theorem dX8_weighPairs_54 : decode cX8_weighPairs 54 = .ok (.iadd, 1) := by decide +kernel
theorem dX8_weighPairs_55 : decode cX8_weighPairs 55 = .ok (.iaload, 1) := by decide +kernel
theorem dX8_weighPairs_56 : decode cX8_weighPairs 56 = .ok (.istore 4, 2) := by decide +kernel
theorem dX8_weighPairs_58 : decode cX8_weighPairs 58 = .ok (.aload_n 0, 1) := by decide +kernel
theorem dX8_weighPairs_59 : decode cX8_weighPairs 59 = .ok (.getfield 21, 3) := by decide +kernel
theorem dX8_weighPairs_62 : decode cX8_weighPairs 62 = .ok (.iload_n 2, 1) := by decide +kernel
theorem dX8_weighPairs_63 : decode cX8_weighPairs 63 = .ok (.bipush 100, 2) := by decide +kernel
theorem dX8_weighPairs_65 : decode cX8_weighPairs 65 = .ok (.imul, 1) := by decide +kernel
theorem dX8_weighPairs_66 : decode cX8_weighPairs 66 = .ok (.iload_n 3, 1) := by decide +kernel
theorem dX8_weighPairs_67 : decode cX8_weighPairs 67 = .ok (.iadd, 1) := by decide +kernel
theorem dX8_weighPairs_68 : decode cX8_weighPairs 68 = .ok (.iload 4, 2) := by decide +kernel
theorem dX8_weighPairs_70 : decode cX8_weighPairs 70 = .ok (.aload_n 0, 1) := by decide +kernel
theorem dX8_weighPairs_71 : decode cX8_weighPairs 71 = .ok (.iload_n 2, 1) := by decide +kernel
theorem dX8_weighPairs_72 : decode cX8_weighPairs 72 = .ok (.iload_n 3, 1) := by decide +kernel
theorem dX8_weighPairs_73 : decode cX8_weighPairs 73 = .ok (.invokevirtual 70, 3) := by decide +kernel
theorem dX8_weighPairs_76 : decode cX8_weighPairs 76 = .ok (.invokestatic 74, 3) := by decide +kernel
theorem dX8_weighPairs_79 : decode cX8_weighPairs 79 = .ok (.iastore, 1) := by decide +kernel
theorem dX8_weighPairs_80 : decode cX8_weighPairs 80 = .ok (.iinc 3 1, 3) := by decide +kernel
theorem dX8_weighPairs_83 : decode cX8_weighPairs 83 = .ok (.goto (-45), 3) := by decide +kernel
theorem dX8_weighPairs_86 : decode cX8_weighPairs 86 = .ok (.iinc 2 (-1), 3) := by decide +kernel
theorem dX8_weighPairs_89 : decode cX8_weighPairs 89 = .ok (.goto (-57), 3) := by decide +kernel
theorem dX8_weighPairs_92 : decode cX8_weighPairs 92 = .ok (.return_, 1) := by decide +kernel
theorem dX8_worthWith_0 : decode cX8_worthWith 0 = .ok (.iload_n 2, 1) := by decide +kernel
theorem dX8_worthWith_1 : decode cX8_worthWith 1 = .ok (.aload_n 0, 1) := by decide +kernel
theorem dX8_worthWith_2 : decode cX8_worthWith 2 = .ok (.getfield 15, 3) := by decide +kernel
theorem dX8_worthWith_5 : decode cX8_worthWith 5 = .ok (.iload_n 1, 1) := by decide +kernel
theorem dX8_worthWith_6 : decode cX8_worthWith 6 = .ok (.iaload, 1) := by decide +kernel
theorem dX8_worthWith_7 : decode cX8_worthWith 7 = .ok (.isub, 1) := by decide +kernel
theorem dX8_worthWith_8 : decode cX8_worthWith 8 = .ok (.istore_n 3, 1) := by decide +kernel
theorem dX8_worthWith_9 : decode cX8_worthWith 9 = .ok (.iload_n 3, 1) := by decide +kernel
theorem dX8_worthWith_10 : decode cX8_worthWith 10 = .ok (.ifCond .ge 5, 3) := by decide +kernel
theorem dX8_worthWith_13 : decode cX8_worthWith 13 = .ok (.iconst (-1), 1) := by decide +kernel
theorem dX8_worthWith_14 : decode cX8_worthWith 14 = .ok (.ireturn, 1) := by decide +kernel
theorem dX8_worthWith_15 : decode cX8_worthWith 15 = .ok (.aload_n 0, 1) := by decide +kernel
theorem dX8_worthWith_16 : decode cX8_worthWith 16 = .ok (.getfield 18, 3) := by decide +kernel
theorem dX8_worthWith_19 : decode cX8_worthWith 19 = .ok (.iload_n 1, 1) := by decide +kernel
theorem dX8_worthWith_20 : decode cX8_worthWith 20 = .ok (.iaload, 1) := by decide +kernel
theorem dX8_worthWith_21 : decode cX8_worthWith 21 = .ok (.sipush 128, 3) := by decide +kernel
theorem dX8_worthWith_24 : decode cX8_worthWith 24 = .ok (.imul, 1) := by decide +kernel
theorem dX8_worthWith_25 : decode cX8_worthWith 25 = .ok (.aload_n 0, 1) := by decide +kernel
theorem dX8_worthWith_26 : decode cX8_worthWith 26 = .ok (.getfield 15, 3) := by decide +kernel
theorem dX8_worthWith_29 : decode cX8_worthWith 29 = .ok (.iload_n 1, 1) := by decide +kernel
theorem dX8_worthWith_30 : decode cX8_worthWith 30 = .ok (.iaload, 1) := by decide +kernel
theorem dX8_worthWith_31 : decode cX8_worthWith 31 = .ok (.isub, 1) := by decide +kernel
theorem dX8_worthWith_32 : decode cX8_worthWith 32 = .ok (.aload_n 0, 1) := by decide +kernel
theorem dX8_worthWith_33 : decode cX8_worthWith 33 = .ok (.getfield 21, 3) := by decide +kernel
theorem dX8_worthWith_36 : decode cX8_worthWith 36 = .ok (.iload_n 1, 1) := by decide +kernel
theorem dX8_worthWith_37 : decode cX8_worthWith 37 = .ok (.iconst 1, 1) := by decide +kernel
theorem dX8_worthWith_38 : decode cX8_worthWith 38 = .ok (.iadd, 1) := by decide +kernel
theorem dX8_worthWith_39 : decode cX8_worthWith 39 = .ok (.bipush 100, 2) := by decide +kernel
theorem dX8_worthWith_41 : decode cX8_worthWith 41 = .ok (.imul, 1) := by decide +kernel
theorem dX8_worthWith_42 : decode cX8_worthWith 42 = .ok (.iload_n 3, 1) := by decide +kernel
theorem dX8_worthWith_43 : decode cX8_worthWith 43 = .ok (.iadd, 1) := by decide +kernel
theorem dX8_worthWith_44 : decode cX8_worthWith 44 = .ok (.iaload, 1) := by decide +kernel
theorem dX8_worthWith_45 : decode cX8_worthWith 45 = .ok (.iadd, 1) := by decide +kernel
theorem dX8_worthWith_46 : decode cX8_worthWith 46 = .ok (.ireturn, 1) := by decide +kernel
theorem dX8_choosePairs_0 : decode cX8_choosePairs 0 = .ok (.aload_n 0, 1) := by decide +kernel
theorem dX8_choosePairs_1 : decode cX8_choosePairs 1 = .ok (.iconst 0, 1) := by decide +kernel
theorem dX8_choosePairs_2 : decode cX8_choosePairs 2 = .ok (.putfield 79, 3) := by decide +kernel
theorem dX8_choosePairs_5 : decode cX8_choosePairs 5 = .ok (.aload_n 0, 1) := by decide +kernel
theorem dX8_choosePairs_6 : decode cX8_choosePairs 6 = .ok (.iconst 0, 1) := by decide +kernel
theorem dX8_choosePairs_7 : decode cX8_choosePairs 7 = .ok (.putfield 82, 3) := by decide +kernel
theorem dX8_choosePairs_10 : decode cX8_choosePairs 10 = .ok (.aload_n 0, 1) := by decide +kernel
theorem dX8_choosePairs_11 : decode cX8_choosePairs 11 = .ok (.iconst 0, 1) := by decide +kernel
theorem dX8_choosePairs_12 : decode cX8_choosePairs 12 = .ok (.putfield 85, 3) := by decide +kernel
theorem dX8_choosePairs_15 : decode cX8_choosePairs 15 = .ok (.iconst 0, 1) := by decide +kernel
theorem dX8_choosePairs_16 : decode cX8_choosePairs 16 = .ok (.istore_n 2, 1) := by decide +kernel
theorem dX8_choosePairs_17 : decode cX8_choosePairs 17 = .ok (.iload_n 2, 1) := by decide +kernel
theorem dX8_choosePairs_18 : decode cX8_choosePairs 18 = .ok (.aload_n 0, 1) := by decide +kernel
theorem dX8_choosePairs_19 : decode cX8_choosePairs 19 = .ok (.getfield 38, 3) := by decide +kernel
theorem dX8_choosePairs_22 : decode cX8_choosePairs 22 = .ok (.if_icmp .ge 93, 3) := by decide +kernel
theorem dX8_choosePairs_25 : decode cX8_choosePairs 25 = .ok (.iload_n 1, 1) := by decide +kernel
theorem dX8_choosePairs_26 : decode cX8_choosePairs 26 = .ok (.aload_n 0, 1) := by decide +kernel
theorem dX8_choosePairs_27 : decode cX8_choosePairs 27 = .ok (.getfield 85, 3) := by decide +kernel
theorem dX8_choosePairs_30 : decode cX8_choosePairs 30 = .ok (.isub, 1) := by decide +kernel
theorem dX8_choosePairs_31 : decode cX8_choosePairs 31 = .ok (.istore_n 3, 1) := by decide +kernel
theorem dX8_choosePairs_32 : decode cX8_choosePairs 32 = .ok (.aload_n 0, 1) := by decide +kernel
theorem dX8_choosePairs_33 : decode cX8_choosePairs 33 = .ok (.iload_n 2, 1) := by decide +kernel
theorem dX8_choosePairs_34 : decode cX8_choosePairs 34 = .ok (.iload_n 3, 1) := by decide +kernel
theorem dX8_choosePairs_35 : decode cX8_choosePairs 35 = .ok (.invokevirtual 70, 3) := by decide +kernel
theorem dX8_choosePairs_38 : decode cX8_choosePairs 38 = .ok (.aload_n 0, 1) := by decide +kernel
theorem dX8_choosePairs_39 : decode cX8_choosePairs 39 = .ok (.getfield 21, 3) := by decide +kernel
theorem dX8_choosePairs_42 : decode cX8_choosePairs 42 = .ok (.iload_n 2, 1) := by decide +kernel
theorem dX8_choosePairs_43 : decode cX8_choosePairs 43 = .ok (.iconst 1, 1) := by decide +kernel
theorem dX8_choosePairs_44 : decode cX8_choosePairs 44 = .ok (.iadd, 1) := by decide +kernel
theorem dX8_choosePairs_45 : decode cX8_choosePairs 45 = .ok (.bipush 100, 2) := by decide +kernel
theorem dX8_choosePairs_47 : decode cX8_choosePairs 47 = .ok (.imul, 1) := by decide +kernel
theorem dX8_choosePairs_48 : decode cX8_choosePairs 48 = .ok (.iload_n 3, 1) := by decide +kernel
theorem dX8_choosePairs_49 : decode cX8_choosePairs 49 = .ok (.iadd, 1) := by decide +kernel
theorem dX8_choosePairs_50 : decode cX8_choosePairs 50 = .ok (.iaload, 1) := by decide +kernel
theorem dX8_choosePairs_51 : decode cX8_choosePairs 51 = .ok (.if_icmp .lt 58, 3) := by decide +kernel
theorem dX8_choosePairs_54 : decode cX8_choosePairs 54 = .ok (.aload_n 0, 1) := by decide +kernel
theorem dX8_choosePairs_55 : decode cX8_choosePairs 55 = .ok (.getfield 24, 3) := by decide +kernel
theorem dX8_choosePairs_58 : decode cX8_choosePairs 58 = .ok (.aload_n 0, 1) := by decide +kernel
theorem dX8_choosePairs_59 : decode cX8_choosePairs 59 = .ok (.getfield 79, 3) := by decide +kernel
theorem dX8_choosePairs_62 : decode cX8_choosePairs 62 = .ok (.aload_n 0, 1) := by decide +kernel
theorem dX8_choosePairs_63 : decode cX8_choosePairs 63 = .ok (.getfield 11, 3) := by decide +kernel
theorem dX8_choosePairs_66 : decode cX8_choosePairs 66 = .ok (.iload_n 2, 1) := by decide +kernel
theorem dX8_choosePairs_67 : decode cX8_choosePairs 67 = .ok (.iaload, 1) := by decide +kernel
theorem dX8_choosePairs_68 : decode cX8_choosePairs 68 = .ok (.iastore, 1) := by decide +kernel
theorem dX8_choosePairs_69 : decode cX8_choosePairs 69 = .ok (.aload_n 0, 1) := by decide +kernel
theorem dX8_choosePairs_70 : decode cX8_choosePairs 70 = .ok (.dup, 1) := by decide +kernel
theorem dX8_choosePairs_71 : decode cX8_choosePairs 71 = .ok (.getfield 79, 3) := by decide +kernel
theorem dX8_choosePairs_74 : decode cX8_choosePairs 74 = .ok (.iconst 1, 1) := by decide +kernel
theorem dX8_choosePairs_75 : decode cX8_choosePairs 75 = .ok (.iadd, 1) := by decide +kernel
theorem dX8_choosePairs_76 : decode cX8_choosePairs 76 = .ok (.putfield 79, 3) := by decide +kernel
theorem dX8_choosePairs_79 : decode cX8_choosePairs 79 = .ok (.aload_n 0, 1) := by decide +kernel
theorem dX8_choosePairs_80 : decode cX8_choosePairs 80 = .ok (.dup, 1) := by decide +kernel
theorem dX8_choosePairs_81 : decode cX8_choosePairs 81 = .ok (.getfield 82, 3) := by decide +kernel
theorem dX8_choosePairs_84 : decode cX8_choosePairs 84 = .ok (.aload_n 0, 1) := by decide +kernel
theorem dX8_choosePairs_85 : decode cX8_choosePairs 85 = .ok (.getfield 18, 3) := by decide +kernel
theorem dX8_choosePairs_88 : decode cX8_choosePairs 88 = .ok (.iload_n 2, 1) := by decide +kernel
theorem dX8_choosePairs_89 : decode cX8_choosePairs 89 = .ok (.iaload, 1) := by decide +kernel
theorem dX8_choosePairs_90 : decode cX8_choosePairs 90 = .ok (.iadd, 1) := by decide +kernel
theorem dX8_choosePairs_91 : decode cX8_choosePairs 91 = .ok (.putfield 82, 3) := by decide +kernel
theorem dX8_choosePairs_94 : decode cX8_choosePairs 94 = .ok (.aload_n 0, 1) := by decide +kernel
theorem dX8_choosePairs_95 : decode cX8_choosePairs 95 = .ok (.dup, 1) := by decide +kernel
theorem dX8_choosePairs_96 : decode cX8_choosePairs 96 = .ok (.getfield 85, 3) := by decide +kernel
theorem dX8_choosePairs_99 : decode cX8_choosePairs 99 = .ok (.aload_n 0, 1) := by decide +kernel
theorem dX8_choosePairs_100 : decode cX8_choosePairs 100 = .ok (.getfield 15, 3) := by decide +kernel
theorem dX8_choosePairs_103 : decode cX8_choosePairs 103 = .ok (.iload_n 2, 1) := by decide +kernel
theorem dX8_choosePairs_104 : decode cX8_choosePairs 104 = .ok (.iaload, 1) := by decide +kernel
theorem dX8_choosePairs_105 : decode cX8_choosePairs 105 = .ok (.iadd, 1) := by decide +kernel
theorem dX8_choosePairs_106 : decode cX8_choosePairs 106 = .ok (.putfield 85, 3) := by decide +kernel
theorem dX8_choosePairs_109 : decode cX8_choosePairs 109 = .ok (.iinc 2 1, 3) := by decide +kernel
theorem dX8_choosePairs_112 : decode cX8_choosePairs 112 = .ok (.goto (-95), 3) := by decide +kernel
theorem dX8_choosePairs_115 : decode cX8_choosePairs 115 = .ok (.return_, 1) := by decide +kernel
theorem dX9_init_0 : decode cX9_init 0 = .ok (.aload_n 0, 1) := by decide +kernel
theorem dX9_init_1 : decode cX9_init 1 = .ok (.invokespecial 3, 3) := by decide +kernel
theorem dX9_init_4 : decode cX9_init 4 = .ok (.aload_n 0, 1) := by decide +kernel
theorem dX9_init_5 : decode cX9_init 5 = .ok (.new 9, 3) := by decide +kernel
theorem dX9_init_8 : decode cX9_init 8 = .ok (.dup, 1) := by decide +kernel
theorem dX9_init_9 : decode cX9_init 9 = .ok (.invokespecial 11, 3) := by decide +kernel
theorem dX9_init_12 : decode cX9_init 12 = .ok (.putfield 12, 3) := by decide +kernel
theorem dX9_init_15 : decode cX9_init 15 = .ok (.aload_n 0, 1) := by decide +kernel
theorem dX9_init_16 : decode cX9_init 16 = .ok (.bipush 80, 2) := by decide +kernel
theorem dX9_init_18 : decode cX9_init 18 = .ok (.newarray .int, 2) := by decide +kernel
theorem dX9_init_20 : decode cX9_init 20 = .ok (.putfield 18, 3) := by decide +kernel
theorem dX9_init_23 : decode cX9_init 23 = .ok (.aload_n 0, 1) := by decide +kernel
theorem dX9_init_24 : decode cX9_init 24 = .ok (.bipush 80, 2) := by decide +kernel
theorem dX9_init_26 : decode cX9_init 26 = .ok (.newarray .int, 2) := by decide +kernel
theorem dX9_init_28 : decode cX9_init 28 = .ok (.putfield 22, 3) := by decide +kernel
theorem dX9_init_31 : decode cX9_init 31 = .ok (.aload_n 0, 1) := by decide +kernel
theorem dX9_init_32 : decode cX9_init 32 = .ok (.sipush 240, 3) := by decide +kernel
theorem dX9_init_35 : decode cX9_init 35 = .ok (.newarray .long, 2) := by decide +kernel
theorem dX9_init_37 : decode cX9_init 37 = .ok (.putfield 25, 3) := by decide +kernel
theorem dX9_init_40 : decode cX9_init 40 = .ok (.return_, 1) := by decide +kernel
theorem dX9_forget_0 : decode cX9_forget 0 = .ok (.aload_n 0, 1) := by decide +kernel
theorem dX9_forget_1 : decode cX9_forget 1 = .ok (.iconst 0, 1) := by decide +kernel
theorem dX9_forget_2 : decode cX9_forget 2 = .ok (.putfield 29, 3) := by decide +kernel
theorem dX9_forget_5 : decode cX9_forget 5 = .ok (.aload_n 0, 1) := by decide +kernel
theorem dX9_forget_6 : decode cX9_forget 6 = .ok (.iconst 0, 1) := by decide +kernel
theorem dX9_forget_7 : decode cX9_forget 7 = .ok (.putfield 33, 3) := by decide +kernel
theorem dX9_forget_10 : decode cX9_forget 10 = .ok (.return_, 1) := by decide +kernel
theorem dX9_survey_0 : decode cX9_survey 0 = .ok (.aload_n 2, 1) := by decide +kernel
theorem dX9_survey_1 : decode cX9_survey 1 = .ok (.aload_n 1, 1) := by decide +kernel
theorem dX9_survey_2 : decode cX9_survey 2 = .ok (.iload_n 3, 1) := by decide +kernel
theorem dX9_survey_3 : decode cX9_survey 3 = .ok (.invokevirtual 37, 3) := by decide +kernel
theorem dX9_survey_6 : decode cX9_survey 6 = .ok (.aload_n 0, 1) := by decide +kernel
theorem dX9_survey_7 : decode cX9_survey 7 = .ok (.aload_n 1, 1) := by decide +kernel
theorem dX9_survey_8 : decode cX9_survey 8 = .ok (.invokevirtual 43, 3) := by decide +kernel
theorem dX9_survey_11 : decode cX9_survey 11 = .ok (.aload_n 0, 1) := by decide +kernel
theorem dX9_survey_12 : decode cX9_survey 12 = .ok (.getfield 29, 3) := by decide +kernel
theorem dX9_survey_15 : decode cX9_survey 15 = .ok (.iload_n 3, 1) := by decide +kernel
theorem dX9_survey_16 : decode cX9_survey 16 = .ok (.invokestatic 47, 3) := by decide +kernel
theorem dX9_survey_19 : decode cX9_survey 19 = .ok (.ifCond .eq 4, 3) := by decide +kernel
theorem dX9_survey_22 : decode cX9_survey 22 = .ok (.return_, 1) := by decide +kernel
theorem dX9_survey_23 : decode cX9_survey 23 = .ok (.aload_n 0, 1) := by decide +kernel
theorem dX9_survey_24 : decode cX9_survey 24 = .ok (.dup, 1) := by decide +kernel
theorem dX9_survey_25 : decode cX9_survey 25 = .ok (.getfield 29, 3) := by decide +kernel
theorem dX9_survey_28 : decode cX9_survey 28 = .ok (.iconst 1, 1) := by decide +kernel
theorem dX9_survey_29 : decode cX9_survey 29 = .ok (.iload_n 3, 1) := by decide +kernel
theorem dX9_survey_30 : decode cX9_survey 30 = .ok (.ishl, 1) := by decide +kernel
theorem dX9_survey_31 : decode cX9_survey 31 = .ok (.ior, 1) := by decide +kernel
theorem dX9_survey_32 : decode cX9_survey 32 = .ok (.putfield 29, 3) := by decide +kernel
theorem dX9_survey_35 : decode cX9_survey 35 = .ok (.iconst 0, 1) := by decide +kernel
theorem dX9_survey_36 : decode cX9_survey 36 = .ok (.istore 4, 2) := by decide +kernel
theorem dX9_survey_38 : decode cX9_survey 38 = .ok (.iload 4, 2) := by decide +kernel
theorem dX9_survey_40 : decode cX9_survey 40 = .ok (.aload_n 0, 1) := by decide +kernel
theorem dX9_survey_41 : decode cX9_survey 41 = .ok (.getfield 51, 3) := by decide +kernel
theorem dX9_survey_44 : decode cX9_survey 44 = .ok (.if_icmp .ge 70, 3) := by decide +kernel
theorem dX9_survey_47 : decode cX9_survey 47 = .ok (.lconst 0, 1) := by decide +kernel
theorem dX9_survey_48 : decode cX9_survey 48 = .ok (.lstore 5, 2) := by decide +kernel
theorem dX9_survey_50 : decode cX9_survey 50 = .ok (.iconst 0, 1) := by decide +kernel
theorem dX9_survey_51 : decode cX9_survey 51 = .ok (.istore 7, 2) := by decide +kernel
theorem dX9_survey_53 : decode cX9_survey 53 = .ok (.iload 7, 2) := by decide +kernel
theorem dX9_survey_55 : decode cX9_survey 55 = .ok (.aload_n 2, 1) := by decide +kernel
theorem dX9_survey_56 : decode cX9_survey 56 = .ok (.getfield 54, 3) := by decide +kernel
theorem dX9_survey_59 : decode cX9_survey 59 = .ok (.if_icmp .ge 35, 3) := by decide +kernel
theorem dX9_survey_62 : decode cX9_survey 62 = .ok (.aload_n 0, 1) := by decide +kernel
theorem dX9_survey_63 : decode cX9_survey 63 = .ok (.aload_n 1, 1) := by decide +kernel
theorem dX9_survey_64 : decode cX9_survey 64 = .ok (.aload_n 2, 1) := by decide +kernel
theorem dX9_survey_65 : decode cX9_survey 65 = .ok (.getfield 57, 3) := by decide +kernel
theorem dX9_survey_68 : decode cX9_survey 68 = .ok (.iload 7, 2) := by decide +kernel
theorem dX9_survey_70 : decode cX9_survey 70 = .ok (.iaload, 1) := by decide +kernel
theorem dX9_survey_71 : decode cX9_survey 71 = .ok (.iload 4, 2) := by decide +kernel
theorem dX9_survey_73 : decode cX9_survey 73 = .ok (.invokevirtual 60, 3) := by decide +kernel
theorem dX9_survey_76 : decode cX9_survey 76 = .ok (.ifCond .eq 12, 3) := by decide +kernel
theorem dX9_survey_79 : decode cX9_survey 79 = .ok (.lload 5, 2) := by decide +kernel
theorem dX9_survey_81 : decode cX9_survey 81 = .ok (.lconst 1, 1) := by decide +kernel
theorem dX9_survey_82 : decode cX9_survey 82 = .ok (.iload 7, 2) := by decide +kernel
theorem dX9_survey_84 : decode cX9_survey 84 = .ok (.lshl, 1) := by decide +kernel
theorem dX9_survey_85 : decode cX9_survey 85 = .ok (.lor, 1) := by decide +kernel
theorem dX9_survey_86 : decode cX9_survey 86 = .ok (.lstore 5, 2) := by decide +kernel
theorem dX9_survey_88 : decode cX9_survey 88 = .ok (.iinc 7 1, 3) := by decide +kernel
theorem dX9_survey_91 : decode cX9_survey 91 = .ok (.goto (-38), 3) := by decide +kernel
theorem dX9_survey_94 : decode cX9_survey 94 = .ok (.aload_n 0, 1) := by decide +kernel
theorem dX9_survey_95 : decode cX9_survey 95 = .ok (.getfield 25, 3) := by decide +kernel
theorem dX9_survey_98 : decode cX9_survey 98 = .ok (.iload_n 3, 1) := by decide +kernel
theorem dX9_survey_99 : decode cX9_survey 99 = .ok (.bipush 80, 2) := by decide +kernel
theorem dX9_survey_101 : decode cX9_survey 101 = .ok (.imul, 1) := by decide +kernel
theorem dX9_survey_102 : decode cX9_survey 102 = .ok (.iload 4, 2) := by decide +kernel
theorem dX9_survey_104 : decode cX9_survey 104 = .ok (.iadd, 1) := by decide +kernel
theorem dX9_survey_105 : decode cX9_survey 105 = .ok (.lload 5, 2) := by decide +kernel
theorem dX9_survey_107 : decode cX9_survey 107 = .ok (.lastore, 1) := by decide +kernel
theorem dX9_survey_108 : decode cX9_survey 108 = .ok (.iinc 4 1, 3) := by decide +kernel
theorem dX9_survey_111 : decode cX9_survey 111 = .ok (.goto (-73), 3) := by decide +kernel
theorem dX9_survey_114 : decode cX9_survey 114 = .ok (.return_, 1) := by decide +kernel
theorem dX9_listCovers_0 : decode cX9_listCovers 0 = .ok (.aload_n 0, 1) := by decide +kernel
theorem dX9_listCovers_1 : decode cX9_listCovers 1 = .ok (.iconst 0, 1) := by decide +kernel
theorem dX9_listCovers_2 : decode cX9_listCovers 2 = .ok (.putfield 51, 3) := by decide +kernel
theorem dX9_listCovers_5 : decode cX9_listCovers 5 = .ok (.iconst 0, 1) := by decide +kernel
theorem dX9_listCovers_6 : decode cX9_listCovers 6 = .ok (.istore_n 2, 1) := by decide +kernel
theorem dX9_listCovers_7 : decode cX9_listCovers 7 = .ok (.iload_n 2, 1) := by decide +kernel
theorem dX9_listCovers_8 : decode cX9_listCovers 8 = .ok (.aload_n 1, 1) := by decide +kernel
theorem dX9_listCovers_9 : decode cX9_listCovers 9 = .ok (.getfield 64, 3) := by decide +kernel
theorem dX9_listCovers_12 : decode cX9_listCovers 12 = .ok (.if_icmp .ge 73, 3) := by decide +kernel
theorem dX9_listCovers_15 : decode cX9_listCovers 15 = .ok (.iconst 0, 1) := by decide +kernel
theorem dX9_listCovers_16 : decode cX9_listCovers 16 = .ok (.istore_n 3, 1) := by decide +kernel
theorem dX9_listCovers_17 : decode cX9_listCovers 17 = .ok (.iload_n 3, 1) := by decide +kernel
theorem dX9_listCovers_18 : decode cX9_listCovers 18 = .ok (.aload_n 1, 1) := by decide +kernel
theorem dX9_listCovers_19 : decode cX9_listCovers 19 = .ok (.getfield 69, 3) := by decide +kernel
theorem dX9_listCovers_22 : decode cX9_listCovers 22 = .ok (.if_icmp .ge 57, 3) := by decide +kernel
theorem dX9_listCovers_25 : decode cX9_listCovers 25 = .ok (.aload_n 1, 1) := by decide +kernel
theorem dX9_listCovers_26 : decode cX9_listCovers 26 = .ok (.iload_n 2, 1) := by decide +kernel
theorem dX9_listCovers_27 : decode cX9_listCovers 27 = .ok (.iload_n 3, 1) := by decide +kernel
theorem dX9_listCovers_28 : decode cX9_listCovers 28 = .ok (.invokevirtual 72, 3) := by decide +kernel
theorem dX9_listCovers_31 : decode cX9_listCovers 31 = .ok (.ifCond .eq 42, 3) := by decide +kernel
theorem dX9_listCovers_34 : decode cX9_listCovers 34 = .ok (.aload_n 1, 1) := by decide +kernel
theorem dX9_listCovers_35 : decode cX9_listCovers 35 = .ok (.iload_n 2, 1) := by decide +kernel
theorem dX9_listCovers_36 : decode cX9_listCovers 36 = .ok (.iload_n 3, 1) := by decide +kernel
theorem dX9_listCovers_37 : decode cX9_listCovers 37 = .ok (.invokevirtual 75, 3) := by decide +kernel
theorem dX9_listCovers_40 : decode cX9_listCovers 40 = .ok (.ifCond .ne 33, 3) := by decide +kernel
theorem dX9_listCovers_43 : decode cX9_listCovers 43 = .ok (.aload_n 0, 1) := by decide +kernel
theorem dX9_listCovers_44 : decode cX9_listCovers 44 = .ok (.getfield 18, 3) := by decide +kernel
theorem dX9_listCovers_47 : decode cX9_listCovers 47 = .ok (.aload_n 0, 1) := by decide +kernel
theorem dX9_listCovers_48 : decode cX9_listCovers 48 = .ok (.getfield 51, 3) := by decide +kernel
theorem dX9_listCovers_51 : decode cX9_listCovers 51 = .ok (.iload_n 2, 1) := by decide +kernel
theorem dX9_listCovers_52 : decode cX9_listCovers 52 = .ok (.iastore, 1) := by decide +kernel
theorem dX9_listCovers_53 : decode cX9_listCovers 53 = .ok (.aload_n 0, 1) := by decide +kernel
theorem dX9_listCovers_54 : decode cX9_listCovers 54 = .ok (.getfield 22, 3) := by decide +kernel
theorem dX9_listCovers_57 : decode cX9_listCovers 57 = .ok (.aload_n 0, 1) := by decide +kernel
theorem dX9_listCovers_58 : decode cX9_listCovers 58 = .ok (.getfield 51, 3) := by decide +kernel
theorem dX9_listCovers_61 : decode cX9_listCovers 61 = .ok (.iload_n 3, 1) := by decide +kernel
theorem dX9_listCovers_62 : decode cX9_listCovers 62 = .ok (.iastore, 1) := by decide +kernel
theorem dX9_listCovers_63 : decode cX9_listCovers 63 = .ok (.aload_n 0, 1) := by decide +kernel
theorem dX9_listCovers_64 : decode cX9_listCovers 64 = .ok (.dup, 1) := by decide +kernel
theorem dX9_listCovers_65 : decode cX9_listCovers 65 = .ok (.getfield 51, 3) := by decide +kernel
theorem dX9_listCovers_68 : decode cX9_listCovers 68 = .ok (.iconst 1, 1) := by decide +kernel
theorem dX9_listCovers_69 : decode cX9_listCovers 69 = .ok (.iadd, 1) := by decide +kernel
theorem dX9_listCovers_70 : decode cX9_listCovers 70 = .ok (.putfield 51, 3) := by decide +kernel
theorem dX9_listCovers_73 : decode cX9_listCovers 73 = .ok (.iinc 3 1, 3) := by decide +kernel
theorem dX9_listCovers_76 : decode cX9_listCovers 76 = .ok (.goto (-59), 3) := by decide +kernel
theorem dX9_listCovers_79 : decode cX9_listCovers 79 = .ok (.iinc 2 1, 3) := by decide +kernel
theorem dX9_listCovers_82 : decode cX9_listCovers 82 = .ok (.goto (-75), 3) := by decide +kernel
theorem dX9_listCovers_85 : decode cX9_listCovers 85 = .ok (.return_, 1) := by decide +kernel
theorem dX9_helps_0 : decode cX9_helps 0 = .ok (.iload_n 2, 1) := by decide +kernel
theorem dX9_helps_1 : decode cX9_helps 1 = .ok (.aload_n 0, 1) := by decide +kernel
theorem dX9_helps_2 : decode cX9_helps 2 = .ok (.getfield 18, 3) := by decide +kernel
theorem dX9_helps_5 : decode cX9_helps 5 = .ok (.iload_n 3, 1) := by decide +kernel
theorem dX9_helps_6 : decode cX9_helps 6 = .ok (.iaload, 1) := by decide +kernel
theorem dX9_helps_7 : decode cX9_helps 7 = .ok (.invokestatic 47, 3) := by decide +kernel
theorem dX9_helps_10 : decode cX9_helps 10 = .ok (.ifCond .eq 5, 3) := by decide +kernel
theorem dX9_helps_13 : decode cX9_helps 13 = .ok (.iconst 0, 1) := by decide +kernel
theorem dX9_helps_14 : decode cX9_helps 14 = .ok (.ireturn, 1) := by decide +kernel
theorem dX9_helps_15 : decode cX9_helps 15 = .ok (.aload_n 0, 1) := by decide +kernel
theorem dX9_helps_16 : decode cX9_helps 16 = .ok (.getfield 12, 3) := by decide +kernel
theorem dX9_helps_19 : decode cX9_helps 19 = .ok (.aload_n 1, 1) := by decide +kernel
theorem dX9_helps_20 : decode cX9_helps 20 = .ok (.iload_n 2, 1) := by decide +kernel
theorem dX9_helps_21 : decode cX9_helps 21 = .ok (.iconst 0, 1) := by decide +kernel
theorem dX9_helps_22 : decode cX9_helps 22 = .ok (.invokevirtual 78, 3) := by decide +kernel
theorem dX9_helps_25 : decode cX9_helps 25 = .ok (.aload_n 0, 1) := by decide +kernel
theorem dX9_helps_26 : decode cX9_helps 26 = .ok (.getfield 12, 3) := by decide +kernel
theorem dX9_helps_29 : decode cX9_helps 29 = .ok (.aload_n 0, 1) := by decide +kernel
theorem dX9_helps_30 : decode cX9_helps 30 = .ok (.getfield 18, 3) := by decide +kernel
theorem dX9_helps_33 : decode cX9_helps 33 = .ok (.iload_n 3, 1) := by decide +kernel
theorem dX9_helps_34 : decode cX9_helps 34 = .ok (.iaload, 1) := by decide +kernel
theorem dX9_helps_35 : decode cX9_helps 35 = .ok (.aload_n 0, 1) := by decide +kernel
theorem dX9_helps_36 : decode cX9_helps 36 = .ok (.getfield 22, 3) := by decide +kernel
theorem dX9_helps_39 : decode cX9_helps 39 = .ok (.iload_n 3, 1) := by decide +kernel
theorem dX9_helps_40 : decode cX9_helps 40 = .ok (.iaload, 1) := by decide +kernel
theorem dX9_helps_41 : decode cX9_helps 41 = .ok (.invokevirtual 82, 3) := by decide +kernel
theorem dX9_helps_44 : decode cX9_helps 44 = .ok (.aload_n 0, 1) := by decide +kernel
theorem dX9_helps_45 : decode cX9_helps 45 = .ok (.getfield 12, 3) := by decide +kernel
theorem dX9_helps_48 : decode cX9_helps 48 = .ok (.invokevirtual 86, 3) := by decide +kernel
theorem dX9_helps_51 : decode cX9_helps 51 = .ok (.ireturn, 1) := by decide +kernel
theorem dX9_helpTogether_0 : decode cX9_helpTogether 0 = .ok (.aload_n 0, 1) := by decide +kernel
theorem dX9_helpTogether_1 : decode cX9_helpTogether 1 = .ok (.getfield 18, 3) := by decide +kernel
theorem dX9_helpTogether_4 : decode cX9_helpTogether 4 = .ok (.iload_n 3, 1) := by decide +kernel
theorem dX9_helpTogether_5 : decode cX9_helpTogether 5 = .ok (.iaload, 1) := by decide +kernel
theorem dX9_helpTogether_6 : decode cX9_helpTogether 6 = .ok (.istore 5, 2) := by decide +kernel
theorem dX9_helpTogether_8 : decode cX9_helpTogether 8 = .ok (.aload_n 0, 1) := by decide +kernel
theorem dX9_helpTogether_9 : decode cX9_helpTogether 9 = .ok (.getfield 18, 3) := by decide +kernel
theorem dX9_helpTogether_12 : decode cX9_helpTogether 12 = .ok (.iload 4, 2) := by decide +kernel
theorem dX9_helpTogether_14 : decode cX9_helpTogether 14 = .ok (.iaload, 1) := by decide +kernel
theorem dX9_helpTogether_15 : decode cX9_helpTogether 15 = .ok (.istore 6, 2) := by decide +kernel
theorem dX9_helpTogether_17 : decode cX9_helpTogether 17 = .ok (.aload_n 0, 1) := by decide +kernel
theorem dX9_helpTogether_18 : decode cX9_helpTogether 18 = .ok (.getfield 22, 3) := by decide +kernel
theorem dX9_helpTogether_21 : decode cX9_helpTogether 21 = .ok (.iload_n 3, 1) := by decide +kernel
theorem dX9_helpTogether_22 : decode cX9_helpTogether 22 = .ok (.iaload, 1) := by decide +kernel
theorem dX9_helpTogether_23 : decode cX9_helpTogether 23 = .ok (.istore 7, 2) := by decide +kernel
theorem dX9_helpTogether_25 : decode cX9_helpTogether 25 = .ok (.aload_n 0, 1) := by decide +kernel
theorem dX9_helpTogether_26 : decode cX9_helpTogether 26 = .ok (.getfield 22, 3) := by decide +kernel
theorem dX9_helpTogether_29 : decode cX9_helpTogether 29 = .ok (.iload 4, 2) := by decide +kernel
theorem dX9_helpTogether_31 : decode cX9_helpTogether 31 = .ok (.iaload, 1) := by decide +kernel
theorem dX9_helpTogether_32 : decode cX9_helpTogether 32 = .ok (.istore 8, 2) := by decide +kernel
theorem dX9_helpTogether_34 : decode cX9_helpTogether 34 = .ok (.iload_n 2, 1) := by decide +kernel
theorem dX9_helpTogether_35 : decode cX9_helpTogether 35 = .ok (.iload 5, 2) := by decide +kernel
theorem dX9_helpTogether_37 : decode cX9_helpTogether 37 = .ok (.invokestatic 47, 3) := by decide +kernel
theorem dX9_helpTogether_40 : decode cX9_helpTogether 40 = .ok (.ifCond .ne 41, 3) := by decide +kernel
theorem dX9_helpTogether_43 : decode cX9_helpTogether 43 = .ok (.iload_n 2, 1) := by decide +kernel
theorem dX9_helpTogether_44 : decode cX9_helpTogether 44 = .ok (.iload 6, 2) := by decide +kernel
theorem dX9_helpTogether_46 : decode cX9_helpTogether 46 = .ok (.invokestatic 47, 3) := by decide +kernel
theorem dX9_helpTogether_49 : decode cX9_helpTogether 49 = .ok (.ifCond .ne 32, 3) := by decide +kernel
theorem dX9_helpTogether_52 : decode cX9_helpTogether 52 = .ok (.iload 7, 2) := by decide +kernel
theorem dX9_helpTogether_54 : decode cX9_helpTogether 54 = .ok (.iload 8, 2) := by decide +kernel
theorem dX9_helpTogether_56 : decode cX9_helpTogether 56 = .ok (.if_icmp .eq 25, 3) := by decide +kernel
theorem dX9_helpTogether_59 : decode cX9_helpTogether 59 = .ok (.iload 5, 2) := by decide +kernel
theorem dX9_helpTogether_61 : decode cX9_helpTogether 61 = .ok (.iload 6, 2) := by decide +kernel
theorem dX9_helpTogether_63 : decode cX9_helpTogether 63 = .ok (.if_icmp .ne 20, 3) := by decide +kernel
theorem dX9_helpTogether_66 : decode cX9_helpTogether 66 = .ok (.aload_n 1, 1) := by decide +kernel
theorem dX9_helpTogether_67 : decode cX9_helpTogether 67 = .ok (.getfield 90, 3) := by decide +kernel
theorem dX9_helpTogether_70 : decode cX9_helpTogether 70 = .ok (.iload 7, 2) := by decide +kernel
theorem dX9_helpTogether_72 : decode cX9_helpTogether 72 = .ok (.iaload, 1) := by decide +kernel
theorem dX9_helpTogether_73 : decode cX9_helpTogether 73 = .ok (.iload 8, 2) := by decide +kernel
theorem dX9_helpTogether_75 : decode cX9_helpTogether 75 = .ok (.invokestatic 47, 3) := by decide +kernel
theorem dX9_helpTogether_78 : decode cX9_helpTogether 78 = .ok (.ifCond .eq 5, 3) := by decide +kernel
theorem dX9_helpTogether_81 : decode cX9_helpTogether 81 = .ok (.iconst 0, 1) := by decide +kernel
theorem dX9_helpTogether_82 : decode cX9_helpTogether 82 = .ok (.ireturn, 1) := by decide +kernel
theorem dX9_helpTogether_83 : decode cX9_helpTogether 83 = .ok (.aload_n 0, 1) := by decide +kernel
theorem dX9_helpTogether_84 : decode cX9_helpTogether 84 = .ok (.getfield 12, 3) := by decide +kernel
theorem dX9_helpTogether_87 : decode cX9_helpTogether 87 = .ok (.aload_n 1, 1) := by decide +kernel
theorem dX9_helpTogether_88 : decode cX9_helpTogether 88 = .ok (.iload_n 2, 1) := by decide +kernel
theorem dX9_helpTogether_89 : decode cX9_helpTogether 89 = .ok (.iconst 0, 1) := by decide +kernel
theorem dX9_helpTogether_90 : decode cX9_helpTogether 90 = .ok (.invokevirtual 78, 3) := by decide +kernel
theorem dX9_helpTogether_93 : decode cX9_helpTogether 93 = .ok (.aload_n 0, 1) := by decide +kernel
theorem dX9_helpTogether_94 : decode cX9_helpTogether 94 = .ok (.getfield 12, 3) := by decide +kernel
theorem dX9_helpTogether_97 : decode cX9_helpTogether 97 = .ok (.iload 5, 2) := by decide +kernel
theorem dX9_helpTogether_99 : decode cX9_helpTogether 99 = .ok (.iload 7, 2) := by decide +kernel
theorem dX9_helpTogether_101 : decode cX9_helpTogether 101 = .ok (.invokevirtual 82, 3) := by decide +kernel
theorem dX9_helpTogether_104 : decode cX9_helpTogether 104 = .ok (.aload_n 0, 1) := by decide +kernel
theorem dX9_helpTogether_105 : decode cX9_helpTogether 105 = .ok (.getfield 12, 3) := by decide +kernel
theorem dX9_helpTogether_108 : decode cX9_helpTogether 108 = .ok (.iload 6, 2) := by decide +kernel
theorem dX9_helpTogether_110 : decode cX9_helpTogether 110 = .ok (.iload 8, 2) := by decide +kernel
theorem dX9_helpTogether_112 : decode cX9_helpTogether 112 = .ok (.invokevirtual 82, 3) := by decide +kernel
theorem dX9_helpTogether_115 : decode cX9_helpTogether 115 = .ok (.aload_n 0, 1) := by decide +kernel
theorem dX9_helpTogether_116 : decode cX9_helpTogether 116 = .ok (.getfield 12, 3) := by decide +kernel
theorem dX9_helpTogether_119 : decode cX9_helpTogether 119 = .ok (.invokevirtual 86, 3) := by decide +kernel
theorem dX9_helpTogether_122 : decode cX9_helpTogether 122 = .ok (.ireturn, 1) := by decide +kernel
theorem dX9_findBest_0 : decode cX9_findBest 0 = .ok (.aload_n 0, 1) := by decide +kernel
theorem dX9_findBest_1 : decode cX9_findBest 1 = .ok (.bipush (-4), 2) := by decide +kernel
theorem dX9_findBest_3 : decode cX9_findBest 3 = .ok (.putfield 93, 3) := by decide +kernel
theorem dX9_findBest_6 : decode cX9_findBest 6 = .ok (.iconst 0, 1) := by decide +kernel
theorem dX9_findBest_7 : decode cX9_findBest 7 = .ok (.istore_n 3, 1) := by decide +kernel
theorem dX9_findBest_8 : decode cX9_findBest 8 = .ok (.iload_n 3, 1) := by decide +kernel
theorem dX9_findBest_9 : decode cX9_findBest 9 = .ok (.aload_n 0, 1) := by decide +kernel
theorem dX9_findBest_10 : decode cX9_findBest 10 = .ok (.getfield 51, 3) := by decide +kernel
theorem dX9_findBest_13 : decode cX9_findBest 13 = .ok (.if_icmp .ge 71, 3) := by decide +kernel
theorem dX9_findBest_16 : decode cX9_findBest 16 = .ok (.iload_n 2, 1) := by decide +kernel
theorem dX9_findBest_17 : decode cX9_findBest 17 = .ok (.aload_n 0, 1) := by decide +kernel
theorem dX9_findBest_18 : decode cX9_findBest 18 = .ok (.getfield 25, 3) := by decide +kernel
theorem dX9_findBest_21 : decode cX9_findBest 21 = .ok (.iload_n 1, 1) := by decide +kernel
theorem dX9_findBest_22 : decode cX9_findBest 22 = .ok (.bipush 80, 2) := by decide +kernel
theorem dX9_findBest_24 : decode cX9_findBest 24 = .ok (.imul, 1) := by decide +kernel
theorem dX9_findBest_25 : decode cX9_findBest 25 = .ok (.iload_n 3, 1) := by decide +kernel
theorem dX9_findBest_26 : decode cX9_findBest 26 = .ok (.iadd, 1) := by decide +kernel
theorem dX9_findBest_27 : decode cX9_findBest 27 = .ok (.laload, 1) := by decide +kernel
theorem dX9_findBest_28 : decode cX9_findBest 28 = .ok (.invokestatic 96, 3) := by decide +kernel
theorem dX9_findBest_31 : decode cX9_findBest 31 = .ok (.isub, 1) := by decide +kernel
theorem dX9_findBest_32 : decode cX9_findBest 32 = .ok (.istore 4, 2) := by decide +kernel
theorem dX9_findBest_34 : decode cX9_findBest 34 = .ok (.aload_n 0, 1) := by decide +kernel
theorem dX9_findBest_35 : decode cX9_findBest 35 = .ok (.getfield 93, 3) := by decide +kernel
theorem dX9_findBest_38 : decode cX9_findBest 38 = .ok (.bipush (-4), 2) := by decide +kernel
theorem dX9_findBest_40 : decode cX9_findBest 40 = .ok (.if_icmp .eq 12, 3) := by decide +kernel
theorem dX9_findBest_43 : decode cX9_findBest 43 = .ok (.iload 4, 2) := by decide +kernel
theorem dX9_findBest_45 : decode cX9_findBest 45 = .ok (.aload_n 0, 1) := by decide +kernel
theorem dX9_findBest_46 : decode cX9_findBest 46 = .ok (.getfield 102, 3) := by decide +kernel
theorem dX9_findBest_49 : decode cX9_findBest 49 = .ok (.if_icmp .ge 29, 3) := by decide +kernel
theorem dX9_findBest_52 : decode cX9_findBest 52 = .ok (.aload_n 0, 1) := by decide +kernel
theorem dX9_findBest_53 : decode cX9_findBest 53 = .ok (.bipush 10, 2) := by decide +kernel
theorem dX9_findBest_55 : decode cX9_findBest 55 = .ok (.aload_n 0, 1) := by decide +kernel
theorem dX9_findBest_56 : decode cX9_findBest 56 = .ok (.getfield 18, 3) := by decide +kernel
theorem dX9_findBest_59 : decode cX9_findBest 59 = .ok (.iload_n 3, 1) := by decide +kernel
theorem dX9_findBest_60 : decode cX9_findBest 60 = .ok (.iaload, 1) := by decide +kernel
theorem dX9_findBest_61 : decode cX9_findBest 61 = .ok (.imul, 1) := by decide +kernel
theorem dX9_findBest_62 : decode cX9_findBest 62 = .ok (.aload_n 0, 1) := by decide +kernel
theorem dX9_findBest_63 : decode cX9_findBest 63 = .ok (.getfield 22, 3) := by decide +kernel
theorem dX9_findBest_66 : decode cX9_findBest 66 = .ok (.iload_n 3, 1) := by decide +kernel
theorem dX9_findBest_67 : decode cX9_findBest 67 = .ok (.iaload, 1) := by decide +kernel
theorem dX9_findBest_68 : decode cX9_findBest 68 = .ok (.iadd, 1) := by decide +kernel
theorem dX9_findBest_69 : decode cX9_findBest 69 = .ok (.putfield 93, 3) := by decide +kernel
theorem dX9_findBest_72 : decode cX9_findBest 72 = .ok (.aload_n 0, 1) := by decide +kernel
theorem dX9_findBest_73 : decode cX9_findBest 73 = .ok (.iload 4, 2) := by decide +kernel
theorem dX9_findBest_75 : decode cX9_findBest 75 = .ok (.putfield 102, 3) := by decide +kernel
theorem dX9_findBest_78 : decode cX9_findBest 78 = .ok (.iinc 3 1, 3) := by decide +kernel
theorem dX9_findBest_81 : decode cX9_findBest 81 = .ok (.goto (-73), 3) := by decide +kernel
theorem dX9_findBest_84 : decode cX9_findBest 84 = .ok (.return_, 1) := by decide +kernel
theorem dX9_fewestForPairs_0 : decode cX9_fewestForPairs 0 = .ok (.aload_n 2, 1) := by decide +kernel
theorem dX9_fewestForPairs_1 : decode cX9_fewestForPairs 1 = .ok (.getfield 54, 3) := by decide +kernel
theorem dX9_fewestForPairs_4 : decode cX9_fewestForPairs 4 = .ok (.ifCond .ne 5, 3) := by decide +kernel
theorem dX9_fewestForPairs_7 : decode cX9_fewestForPairs 7 = .ok (.iconst 0, 1) := by decide +kernel
theorem dX9_fewestForPairs_8 : decode cX9_fewestForPairs 8 = .ok (.ireturn, 1) := by decide +kernel
theorem dX9_fewestForPairs_9 : decode cX9_fewestForPairs 9 = .ok (.lconst 1, 1) := by decide +kernel
theorem dX9_fewestForPairs_10 : decode cX9_fewestForPairs 10 = .ok (.aload_n 2, 1) := by decide +kernel
theorem dX9_fewestForPairs_11 : decode cX9_fewestForPairs 11 = .ok (.getfield 54, 3) := by decide +kernel
theorem dX9_fewestForPairs_14 : decode cX9_fewestForPairs 14 = .ok (.lshl, 1) := by decide +kernel
theorem dX9_fewestForPairs_15 : decode cX9_fewestForPairs 15 = .ok (.lconst 1, 1) := by decide +kernel
theorem dX9_fewestForPairs_16 : decode cX9_fewestForPairs 16 = .ok (.lsub, 1) := by decide +kernel
theorem dX9_fewestForPairs_17 : decode cX9_fewestForPairs 17 = .ok (.lstore_n 3, 1) := by decide +kernel
theorem dX9_fewestForPairs_18 : decode cX9_fewestForPairs 18 = .ok (.iconst 0, 1) := by decide +kernel
theorem dX9_fewestForPairs_19 : decode cX9_fewestForPairs 19 = .ok (.istore 5, 2) := by decide +kernel
theorem dX9_fewestForPairs_21 : decode cX9_fewestForPairs 21 = .ok (.iload 5, 2) := by decide +kernel
theorem dX9_fewestForPairs_23 : decode cX9_fewestForPairs 23 = .ok (.aload_n 0, 1) := by decide +kernel
theorem dX9_fewestForPairs_24 : decode cX9_fewestForPairs 24 = .ok (.getfield 51, 3) := by decide +kernel
theorem dX9_fewestForPairs_27 : decode cX9_fewestForPairs 27 = .ok (.if_icmp .ge 27, 3) := by decide +kernel
theorem dX9_fewestForPairs_30 : decode cX9_fewestForPairs 30 = .ok (.aload_n 0, 1) := by decide +kernel
theorem dX9_fewestForPairs_31 : decode cX9_fewestForPairs 31 = .ok (.getfield 25, 3) := by decide +kernel
theorem dX9_fewestForPairs_34 : decode cX9_fewestForPairs 34 = .ok (.sipush 160, 3) := by decide +kernel
theorem dX9_fewestForPairs_37 : decode cX9_fewestForPairs 37 = .ok (.iload 5, 2) := by decide +kernel
theorem dX9_fewestForPairs_39 : decode cX9_fewestForPairs 39 = .ok (.iadd, 1) := by decide +kernel
theorem dX9_fewestForPairs_40 : decode cX9_fewestForPairs 40 = .ok (.laload, 1) := by decide +kernel
theorem dX9_fewestForPairs_41 : decode cX9_fewestForPairs 41 = .ok (.lload_n 3, 1) := by decide +kernel
theorem dX9_fewestForPairs_42 : decode cX9_fewestForPairs 42 = .ok (.lcmp, 1) := by decide +kernel
theorem dX9_fewestForPairs_43 : decode cX9_fewestForPairs 43 = .ok (.ifCond .ne 5, 3) := by decide +kernel
theorem dX9_fewestForPairs_46 : decode cX9_fewestForPairs 46 = .ok (.iconst 1, 1) := by decide +kernel
theorem dX9_fewestForPairs_47 : decode cX9_fewestForPairs 47 = .ok (.ireturn, 1) := by decide +kernel
theorem dX9_fewestForPairs_48 : decode cX9_fewestForPairs 48 = .ok (.iinc 5 1, 3) := by decide +kernel
theorem dX9_fewestForPairs_51 : decode cX9_fewestForPairs 51 = .ok (.goto (-30), 3) := by decide +kernel
theorem dX9_fewestForPairs_54 : decode cX9_fewestForPairs 54 = .ok (.aload_n 0, 1) := by decide +kernel
theorem dX9_fewestForPairs_55 : decode cX9_fewestForPairs 55 = .ok (.getfield 33, 3) := by decide +kernel
theorem dX9_fewestForPairs_58 : decode cX9_fewestForPairs 58 = .ok (.ifCond .ne 73, 3) := by decide +kernel
theorem dX9_fewestForPairs_61 : decode cX9_fewestForPairs 61 = .ok (.aload_n 0, 1) := by decide +kernel
theorem dX9_fewestForPairs_62 : decode cX9_fewestForPairs 62 = .ok (.iconst 1, 1) := by decide +kernel
theorem dX9_fewestForPairs_63 : decode cX9_fewestForPairs 63 = .ok (.putfield 33, 3) := by decide +kernel
theorem dX9_fewestForPairs_66 : decode cX9_fewestForPairs 66 = .ok (.aload_n 0, 1) := by decide +kernel
theorem dX9_fewestForPairs_67 : decode cX9_fewestForPairs 67 = .ok (.iconst 0, 1) := by decide +kernel
theorem dX9_fewestForPairs_68 : decode cX9_fewestForPairs 68 = .ok (.putfield 105, 3) := by decide +kernel
theorem dX9_fewestForPairs_71 : decode cX9_fewestForPairs 71 = .ok (.iconst 0, 1) := by decide +kernel
theorem dX9_fewestForPairs_72 : decode cX9_fewestForPairs 72 = .ok (.istore 5, 2) := by decide +kernel
theorem dX9_fewestForPairs_74 : decode cX9_fewestForPairs 74 = .ok (.iload 5, 2) := by decide +kernel
theorem dX9_fewestForPairs_76 : decode cX9_fewestForPairs 76 = .ok (.aload_n 0, 1) := by decide +kernel
theorem dX9_fewestForPairs_77 : decode cX9_fewestForPairs 77 = .ok (.getfield 51, 3) := by decide +kernel
theorem dX9_fewestForPairs_80 : decode cX9_fewestForPairs 80 = .ok (.if_icmp .ge 51, 3) := by decide +kernel
theorem dX9_fewestForPairs_83 : decode cX9_fewestForPairs 83 = .ok (.iload 5, 2) := by decide +kernel
theorem dX9_fewestForPairs_85 : decode cX9_fewestForPairs 85 = .ok (.iconst 1, 1) := by decide +kernel
theorem dX9_fewestForPairs_86 : decode cX9_fewestForPairs 86 = .ok (.iadd, 1) := by decide +kernel
theorem dX9_fewestForPairs_87 : decode cX9_fewestForPairs 87 = .ok (.istore 6, 2) := by decide +kernel
theorem dX9_fewestForPairs_89 : decode cX9_fewestForPairs 89 = .ok (.iload 6, 2) := by decide +kernel
theorem dX9_fewestForPairs_91 : decode cX9_fewestForPairs 91 = .ok (.aload_n 0, 1) := by decide +kernel
theorem dX9_fewestForPairs_92 : decode cX9_fewestForPairs 92 = .ok (.getfield 51, 3) := by decide +kernel
theorem dX9_fewestForPairs_95 : decode cX9_fewestForPairs 95 = .ok (.if_icmp .ge 30, 3) := by decide +kernel
theorem dX9_fewestForPairs_98 : decode cX9_fewestForPairs 98 = .ok (.aload_n 0, 1) := by decide +kernel
theorem dX9_fewestForPairs_99 : decode cX9_fewestForPairs 99 = .ok (.getfield 105, 3) := by decide +kernel
theorem dX9_fewestForPairs_102 : decode cX9_fewestForPairs 102 = .ok (.ifCond .ne 23, 3) := by decide +kernel
theorem dX9_fewestForPairs_105 : decode cX9_fewestForPairs 105 = .ok (.aload_n 0, 1) := by decide +kernel
theorem dX9_fewestForPairs_106 : decode cX9_fewestForPairs 106 = .ok (.aload_n 0, 1) := by decide +kernel
theorem dX9_fewestForPairs_107 : decode cX9_fewestForPairs 107 = .ok (.aload_n 1, 1) := by decide +kernel
theorem dX9_fewestForPairs_108 : decode cX9_fewestForPairs 108 = .ok (.aload_n 2, 1) := by decide +kernel
theorem dX9_fewestForPairs_109 : decode cX9_fewestForPairs 109 = .ok (.iload 5, 2) := by decide +kernel
theorem dX9_fewestForPairs_111 : decode cX9_fewestForPairs 111 = .ok (.iload 6, 2) := by decide +kernel
theorem dX9_fewestForPairs_113 : decode cX9_fewestForPairs 113 = .ok (.invokevirtual 108, 3) := by decide +kernel
theorem dX9_fewestForPairs_116 : decode cX9_fewestForPairs 116 = .ok (.putfield 105, 3) := by decide +kernel
theorem dX9_fewestForPairs_119 : decode cX9_fewestForPairs 119 = .ok (.iinc 6 1, 3) := by decide +kernel
theorem dX9_fewestForPairs_122 : decode cX9_fewestForPairs 122 = .ok (.goto (-33), 3) := by decide +kernel
theorem dX9_fewestForPairs_125 : decode cX9_fewestForPairs 125 = .ok (.iinc 5 1, 3) := by decide +kernel
theorem dX9_fewestForPairs_128 : decode cX9_fewestForPairs 128 = .ok (.goto (-54), 3) := by decide +kernel
theorem dX9_fewestForPairs_131 : decode cX9_fewestForPairs 131 = .ok (.aload_n 0, 1) := by decide +kernel
theorem dX9_fewestForPairs_132 : decode cX9_fewestForPairs 132 = .ok (.getfield 105, 3) := by decide +kernel
theorem dX9_fewestForPairs_135 : decode cX9_fewestForPairs 135 = .ok (.ifCond .eq 7, 3) := by decide +kernel
theorem dX9_fewestForPairs_138 : decode cX9_fewestForPairs 138 = .ok (.iconst 2, 1) := by decide +kernel
theorem dX9_fewestForPairs_139 : decode cX9_fewestForPairs 139 = .ok (.goto 5, 3) := by decide +kernel
theorem dX9_fewestForPairs_142 : decode cX9_fewestForPairs 142 = .ok (.bipush (-4), 2) := by decide +kernel
theorem dX9_fewestForPairs_144 : decode cX9_fewestForPairs 144 = .ok (.ireturn, 1) := by decide +kernel
theorem dX9_areEnough_0 : decode cX9_areEnough 0 = .ok (.aload_n 0, 1) := by decide +kernel
theorem dX9_areEnough_1 : decode cX9_areEnough 1 = .ok (.getfield 25, 3) := by decide +kernel
theorem dX9_areEnough_4 : decode cX9_areEnough 4 = .ok (.sipush 160, 3) := by decide +kernel
theorem dX9_areEnough_7 : decode cX9_areEnough 7 = .ok (.iload_n 3, 1) := by decide +kernel
theorem dX9_areEnough_8 : decode cX9_areEnough 8 = .ok (.iadd, 1) := by decide +kernel
theorem dX9_areEnough_9 : decode cX9_areEnough 9 = .ok (.laload, 1) := by decide +kernel
theorem dX9_areEnough_10 : decode cX9_areEnough 10 = .ok (.aload_n 0, 1) := by decide +kernel
theorem dX9_areEnough_11 : decode cX9_areEnough 11 = .ok (.getfield 25, 3) := by decide +kernel
theorem dX9_areEnough_14 : decode cX9_areEnough 14 = .ok (.sipush 160, 3) := by decide +kernel
theorem dX9_areEnough_17 : decode cX9_areEnough 17 = .ok (.iload 4, 2) := by decide +kernel
theorem dX9_areEnough_19 : decode cX9_areEnough 19 = .ok (.iadd, 1) := by decide +kernel
theorem dX9_areEnough_20 : decode cX9_areEnough 20 = .ok (.laload, 1) := by decide +kernel
theorem dX9_areEnough_21 : decode cX9_areEnough 21 = .ok (.lor, 1) := by decide +kernel
theorem dX9_areEnough_22 : decode cX9_areEnough 22 = .ok (.lstore 5, 2) := by decide +kernel
theorem dX9_areEnough_24 : decode cX9_areEnough 24 = .ok (.iconst 0, 1) := by decide +kernel
theorem dX9_areEnough_25 : decode cX9_areEnough 25 = .ok (.istore 7, 2) := by decide +kernel
theorem dX9_areEnough_27 : decode cX9_areEnough 27 = .ok (.iload 7, 2) := by decide +kernel
theorem dX9_areEnough_29 : decode cX9_areEnough 29 = .ok (.aload_n 2, 1) := by decide +kernel
theorem dX9_areEnough_30 : decode cX9_areEnough 30 = .ok (.getfield 54, 3) := by decide +kernel
theorem dX9_areEnough_33 : decode cX9_areEnough 33 = .ok (.if_icmp .ge 41, 3) := by decide +kernel
theorem dX9_areEnough_36 : decode cX9_areEnough 36 = .ok (.lload 5, 2) := by decide +kernel
theorem dX9_areEnough_38 : decode cX9_areEnough 38 = .ok (.iload 7, 2) := by decide +kernel
theorem dX9_areEnough_40 : decode cX9_areEnough 40 = .ok (.lshr, 1) := by decide +kernel
theorem dX9_areEnough_41 : decode cX9_areEnough 41 = .ok (.lconst 1, 1) := by decide +kernel
theorem dX9_areEnough_42 : decode cX9_areEnough 42 = .ok (.land, 1) := by decide +kernel
theorem dX9_areEnough_43 : decode cX9_areEnough 43 = .ok (.lconst 0, 1) := by decide +kernel
theorem dX9_areEnough_44 : decode cX9_areEnough 44 = .ok (.lcmp, 1) := by decide +kernel
theorem dX9_areEnough_45 : decode cX9_areEnough 45 = .ok (.ifCond .ne 23, 3) := by decide +kernel
theorem dX9_areEnough_48 : decode cX9_areEnough 48 = .ok (.aload_n 0, 1) := by decide +kernel
theorem dX9_areEnough_49 : decode cX9_areEnough 49 = .ok (.aload_n 1, 1) := by decide +kernel
theorem dX9_areEnough_50 : decode cX9_areEnough 50 = .ok (.aload_n 2, 1) := by decide +kernel
theorem dX9_areEnough_51 : decode cX9_areEnough 51 = .ok (.getfield 57, 3) := by decide +kernel
theorem dX9_areEnough_54 : decode cX9_areEnough 54 = .ok (.iload 7, 2) := by decide +kernel
theorem dX9_areEnough_56 : decode cX9_areEnough 56 = .ok (.iaload, 1) := by decide +kernel
theorem dX9_areEnough_57 : decode cX9_areEnough 57 = .ok (.iload_n 3, 1) := by decide +kernel
theorem dX9_areEnough_58 : decode cX9_areEnough 58 = .ok (.iload 4, 2) := by decide +kernel
theorem dX9_areEnough_60 : decode cX9_areEnough 60 = .ok (.invokevirtual 112, 3) := by decide +kernel
theorem dX9_areEnough_63 : decode cX9_areEnough 63 = .ok (.ifCond .ne 5, 3) := by decide +kernel
theorem dX9_areEnough_66 : decode cX9_areEnough 66 = .ok (.iconst 0, 1) := by decide +kernel
theorem dX9_areEnough_67 : decode cX9_areEnough 67 = .ok (.ireturn, 1) := by decide +kernel
theorem dX9_areEnough_68 : decode cX9_areEnough 68 = .ok (.iinc 7 1, 3) := by decide +kernel
theorem dX9_areEnough_71 : decode cX9_areEnough 71 = .ok (.goto (-44), 3) := by decide +kernel
theorem dX9_areEnough_74 : decode cX9_areEnough 74 = .ok (.iconst 1, 1) := by decide +kernel
theorem dX9_areEnough_75 : decode cX9_areEnough 75 = .ok (.ireturn, 1) := by decide +kernel
theorem dX10_init_0 : decode cX10_init 0 = .ok (.aload_n 0, 1) := by decide +kernel
theorem dX10_init_1 : decode cX10_init 1 = .ok (.invokespecial 3, 3) := by decide +kernel
theorem dX10_init_4 : decode cX10_init 4 = .ok (.aload_n 0, 1) := by decide +kernel
theorem dX10_init_5 : decode cX10_init 5 = .ok (.sipush 400, 3) := by decide +kernel
theorem dX10_init_8 : decode cX10_init 8 = .ok (.newarray .byte, 2) := by decide +kernel
theorem dX10_init_10 : decode cX10_init 10 = .ok (.putfield 9, 3) := by decide +kernel
theorem dX10_init_13 : decode cX10_init 13 = .ok (.aload_n 0, 1) := by decide +kernel
theorem dX10_init_14 : decode cX10_init 14 = .ok (.new 13, 3) := by decide +kernel
theorem dX10_init_17 : decode cX10_init 17 = .ok (.dup, 1) := by decide +kernel
theorem dX10_init_18 : decode cX10_init 18 = .ok (.invokespecial 15, 3) := by decide +kernel
theorem dX10_init_21 : decode cX10_init 21 = .ok (.putfield 16, 3) := by decide +kernel
theorem dX10_init_24 : decode cX10_init 24 = .ok (.aload_n 0, 1) := by decide +kernel
theorem dX10_init_25 : decode cX10_init 25 = .ok (.new 20, 3) := by decide +kernel
theorem dX10_init_28 : decode cX10_init 28 = .ok (.dup, 1) := by decide +kernel
theorem dX10_init_29 : decode cX10_init 29 = .ok (.invokespecial 22, 3) := by decide +kernel
theorem dX10_init_32 : decode cX10_init 32 = .ok (.putfield 23, 3) := by decide +kernel
theorem dX10_init_35 : decode cX10_init 35 = .ok (.aload_n 0, 1) := by decide +kernel
theorem dX10_init_36 : decode cX10_init 36 = .ok (.new 20, 3) := by decide +kernel
theorem dX10_init_39 : decode cX10_init 39 = .ok (.dup, 1) := by decide +kernel
theorem dX10_init_40 : decode cX10_init 40 = .ok (.invokespecial 22, 3) := by decide +kernel
theorem dX10_init_43 : decode cX10_init 43 = .ok (.putfield 27, 3) := by decide +kernel
theorem dX10_init_46 : decode cX10_init 46 = .ok (.aload_n 0, 1) := by decide +kernel
theorem dX10_init_47 : decode cX10_init 47 = .ok (.new 30, 3) := by decide +kernel
theorem dX10_init_50 : decode cX10_init 50 = .ok (.dup, 1) := by decide +kernel
theorem dX10_init_51 : decode cX10_init 51 = .ok (.invokespecial 32, 3) := by decide +kernel
theorem dX10_init_54 : decode cX10_init 54 = .ok (.putfield 33, 3) := by decide +kernel
theorem dX10_init_57 : decode cX10_init 57 = .ok (.aload_n 0, 1) := by decide +kernel
theorem dX10_init_58 : decode cX10_init 58 = .ok (.new 30, 3) := by decide +kernel
theorem dX10_init_61 : decode cX10_init 61 = .ok (.dup, 1) := by decide +kernel
theorem dX10_init_62 : decode cX10_init 62 = .ok (.invokespecial 32, 3) := by decide +kernel
theorem dX10_init_65 : decode cX10_init 65 = .ok (.putfield 37, 3) := by decide +kernel
theorem dX10_init_68 : decode cX10_init 68 = .ok (.aload_n 0, 1) := by decide +kernel
theorem dX10_init_69 : decode cX10_init 69 = .ok (.new 30, 3) := by decide +kernel
theorem dX10_init_72 : decode cX10_init 72 = .ok (.dup, 1) := by decide +kernel
theorem dX10_init_73 : decode cX10_init 73 = .ok (.invokespecial 32, 3) := by decide +kernel
theorem dX10_init_76 : decode cX10_init 76 = .ok (.putfield 40, 3) := by decide +kernel
theorem dX10_init_79 : decode cX10_init 79 = .ok (.aload_n 0, 1) := by decide +kernel
theorem dX10_init_80 : decode cX10_init 80 = .ok (.bipush 10, 2) := by decide +kernel
theorem dX10_init_82 : decode cX10_init 82 = .ok (.newarray .int, 2) := by decide +kernel
theorem dX10_init_84 : decode cX10_init 84 = .ok (.putfield 43, 3) := by decide +kernel
theorem dX10_init_87 : decode cX10_init 87 = .ok (.aload_n 0, 1) := by decide +kernel
theorem dX10_init_88 : decode cX10_init 88 = .ok (.new 47, 3) := by decide +kernel
theorem dX10_init_91 : decode cX10_init 91 = .ok (.dup, 1) := by decide +kernel
theorem dX10_init_92 : decode cX10_init 92 = .ok (.invokespecial 49, 3) := by decide +kernel
theorem dX10_init_95 : decode cX10_init 95 = .ok (.putfield 50, 3) := by decide +kernel
theorem dX10_init_98 : decode cX10_init 98 = .ok (.aload_n 0, 1) := by decide +kernel
theorem dX10_init_99 : decode cX10_init 99 = .ok (.new 54, 3) := by decide +kernel
theorem dX10_init_102 : decode cX10_init 102 = .ok (.dup, 1) := by decide +kernel
theorem dX10_init_103 : decode cX10_init 103 = .ok (.invokespecial 56, 3) := by decide +kernel
theorem dX10_init_106 : decode cX10_init 106 = .ok (.putfield 57, 3) := by decide +kernel
theorem dX10_init_109 : decode cX10_init 109 = .ok (.aload_n 0, 1) := by decide +kernel
theorem dX10_init_110 : decode cX10_init 110 = .ok (.new 61, 3) := by decide +kernel
theorem dX10_init_113 : decode cX10_init 113 = .ok (.dup, 1) := by decide +kernel
theorem dX10_init_114 : decode cX10_init 114 = .ok (.invokespecial 63, 3) := by decide +kernel
theorem dX10_init_117 : decode cX10_init 117 = .ok (.putfield 64, 3) := by decide +kernel
theorem dX10_init_120 : decode cX10_init 120 = .ok (.aload_n 0, 1) := by decide +kernel
theorem dX10_init_121 : decode cX10_init 121 = .ok (.new 68, 3) := by decide +kernel
theorem dX10_init_124 : decode cX10_init 124 = .ok (.dup, 1) := by decide +kernel
theorem dX10_init_125 : decode cX10_init 125 = .ok (.invokespecial 70, 3) := by decide +kernel
theorem dX10_init_128 : decode cX10_init 128 = .ok (.putfield 71, 3) := by decide +kernel
theorem dX10_init_131 : decode cX10_init 131 = .ok (.aload_n 0, 1) := by decide +kernel
theorem dX10_init_132 : decode cX10_init 132 = .ok (.new 75, 3) := by decide +kernel
theorem dX10_init_135 : decode cX10_init 135 = .ok (.dup, 1) := by decide +kernel
theorem dX10_init_136 : decode cX10_init 136 = .ok (.invokespecial 77, 3) := by decide +kernel
theorem dX10_init_139 : decode cX10_init 139 = .ok (.putfield 78, 3) := by decide +kernel
theorem dX10_init_142 : decode cX10_init 142 = .ok (.aload_n 0, 1) := by decide +kernel
theorem dX10_init_143 : decode cX10_init 143 = .ok (.getfield 23, 3) := by decide +kernel
theorem dX10_init_146 : decode cX10_init 146 = .ok (.invokevirtual 82, 3) := by decide +kernel
theorem dX10_init_149 : decode cX10_init 149 = .ok (.aload_n 0, 1) := by decide +kernel
theorem dX10_init_150 : decode cX10_init 150 = .ok (.getfield 23, 3) := by decide +kernel
theorem dX10_init_153 : decode cX10_init 153 = .ok (.bipush 50, 2) := by decide +kernel
theorem dX10_init_155 : decode cX10_init 155 = .ok (.iconst 0, 1) := by decide +kernel
theorem dX10_init_156 : decode cX10_init 156 = .ok (.invokevirtual 85, 3) := by decide +kernel
theorem dX10_init_159 : decode cX10_init 159 = .ok (.pop, 1) := by decide +kernel
theorem dX10_init_160 : decode cX10_init 160 = .ok (.aload_n 0, 1) := by decide +kernel
theorem dX10_init_161 : decode cX10_init 161 = .ok (.getfield 23, 3) := by decide +kernel
theorem dX10_init_164 : decode cX10_init 164 = .ok (.bipush 50, 2) := by decide +kernel
theorem dX10_init_166 : decode cX10_init 166 = .ok (.iconst 0, 1) := by decide +kernel
theorem dX10_init_167 : decode cX10_init 167 = .ok (.bipush 10, 2) := by decide +kernel
theorem dX10_init_169 : decode cX10_init 169 = .ok (.iconst 0, 1) := by decide +kernel
theorem dX10_init_170 : decode cX10_init 170 = .ok (.invokevirtual 89, 3) := by decide +kernel
theorem dX10_init_173 : decode cX10_init 173 = .ok (.pop, 1) := by decide +kernel
theorem dX10_init_174 : decode cX10_init 174 = .ok (.aload_n 0, 1) := by decide +kernel
theorem dX10_init_175 : decode cX10_init 175 = .ok (.getfield 23, 3) := by decide +kernel
theorem dX10_init_178 : decode cX10_init 178 = .ok (.iconst 0, 1) := by decide +kernel
theorem dX10_init_179 : decode cX10_init 179 = .ok (.iconst 0, 1) := by decide +kernel
theorem dX10_init_180 : decode cX10_init 180 = .ok (.invokevirtual 93, 3) := by decide +kernel
theorem dX10_init_183 : decode cX10_init 183 = .ok (.pop, 1) := by decide +kernel
theorem dX10_init_184 : decode cX10_init 184 = .ok (.aload_n 0, 1) := by decide +kernel
theorem dX10_init_185 : decode cX10_init 185 = .ok (.getfield 23, 3) := by decide +kernel
theorem dX10_init_188 : decode cX10_init 188 = .ok (.invokevirtual 96, 3) := by decide +kernel
theorem dX10_init_191 : decode cX10_init 191 = .ok (.aload_n 0, 1) := by decide +kernel
theorem dX10_init_192 : decode cX10_init 192 = .ok (.invokevirtual 99, 3) := by decide +kernel
theorem dX10_init_195 : decode cX10_init 195 = .ok (.return_, 1) := by decide +kernel
theorem dX10_write_0 : decode cX10_write 0 = .ok (.iload_n 1, 1) := by decide +kernel
theorem dX10_write_1 : decode cX10_write 1 = .ok (.iconst 1, 1) := by decide +kernel
theorem dX10_write_2 : decode cX10_write 2 = .ok (.if_icmp .lt 9, 3) := by decide +kernel
theorem dX10_write_5 : decode cX10_write 5 = .ok (.iload_n 1, 1) := by decide +kernel
theorem dX10_write_6 : decode cX10_write 6 = .ok (.bipush 8, 2) := by decide +kernel
theorem dX10_write_8 : decode cX10_write 8 = .ok (.if_icmp .le 5, 3) := by decide +kernel
theorem dX10_write_11 : decode cX10_write 11 = .ok (.iconst (-1), 1) := by decide +kernel
theorem dX10_write_12 : decode cX10_write 12 = .ok (.ireturn, 1) := by decide +kernel
theorem dX10_write_13 : decode cX10_write 13 = .ok (.aload_n 0, 1) := by decide +kernel
theorem dX10_write_14 : decode cX10_write 14 = .ok (.getfield 102, 3) := by decide +kernel
theorem dX10_write_17 : decode cX10_write 17 = .ok (.iload_n 1, 1) := by decide +kernel
theorem dX10_write_18 : decode cX10_write 18 = .ok (.iadd, 1) := by decide +kernel
theorem dX10_write_19 : decode cX10_write 19 = .ok (.sipush 400, 3) := by decide +kernel
theorem dX10_write_22 : decode cX10_write 22 = .ok (.if_icmp .le 6, 3) := by decide +kernel
theorem dX10_write_25 : decode cX10_write 25 = .ok (.bipush (-3), 2) := by decide +kernel
theorem dX10_write_27 : decode cX10_write 27 = .ok (.ireturn, 1) := by decide +kernel
theorem dX10_write_28 : decode cX10_write 28 = .ok (.iload_n 1, 1) := by decide +kernel
theorem dX10_write_29 : decode cX10_write 29 = .ok (.iconst 1, 1) := by decide +kernel
theorem dX10_write_30 : decode cX10_write 30 = .ok (.isub, 1) := by decide +kernel
theorem dX10_write_31 : decode cX10_write 31 = .ok (.istore 4, 2) := by decide +kernel
theorem dX10_write_33 : decode cX10_write 33 = .ok (.iload 4, 2) := by decide +kernel
theorem dX10_write_35 : decode cX10_write 35 = .ok (.ifCond .lt 37, 3) := by decide +kernel
theorem dX10_write_38 : decode cX10_write 38 = .ok (.aload_n 0, 1) := by decide +kernel
theorem dX10_write_39 : decode cX10_write 39 = .ok (.getfield 9, 3) := by decide +kernel
theorem dX10_write_42 : decode cX10_write 42 = .ok (.aload_n 0, 1) := by decide +kernel
theorem dX10_write_43 : decode cX10_write 43 = .ok (.getfield 102, 3) := by decide +kernel
theorem dX10_write_46 : decode cX10_write 46 = .ok (.lload_n 2, 1) := by decide +kernel
theorem dX10_write_47 : decode cX10_write 47 = .ok (.bipush 8, 2) := by decide +kernel
theorem dX10_write_49 : decode cX10_write 49 = .ok (.iload 4, 2) := by decide +kernel
theorem dX10_write_51 : decode cX10_write 51 = .ok (.imul, 1) := by decide +kernel
theorem dX10_write_52 : decode cX10_write 52 = .ok (.lushr, 1) := by decide +kernel
theorem dX10_write_53 : decode cX10_write 53 = .ok (.l2i, 1) := by decide +kernel
theorem dX10_write_54 : decode cX10_write 54 = .ok (.i2b, 1) := by decide +kernel
theorem dX10_write_55 : decode cX10_write 55 = .ok (.bastore, 1) := by decide +kernel
theorem dX10_write_56 : decode cX10_write 56 = .ok (.aload_n 0, 1) := by decide +kernel
theorem dX10_write_57 : decode cX10_write 57 = .ok (.dup, 1) := by decide +kernel
theorem dX10_write_58 : decode cX10_write 58 = .ok (.getfield 102, 3) := by decide +kernel
theorem dX10_write_61 : decode cX10_write 61 = .ok (.iconst 1, 1) := by decide +kernel
theorem dX10_write_62 : decode cX10_write 62 = .ok (.iadd, 1) := by decide +kernel
theorem dX10_write_63 : decode cX10_write 63 = .ok (.putfield 102, 3) := by decide +kernel
theorem dX10_write_66 : decode cX10_write 66 = .ok (.iinc 4 (-1), 3) := by decide +kernel
theorem dX10_write_69 : decode cX10_write 69 = .ok (.goto (-36), 3) := by decide +kernel
theorem dX10_write_72 : decode cX10_write 72 = .ok (.aload_n 0, 1) := by decide +kernel
theorem dX10_write_73 : decode cX10_write 73 = .ok (.getfield 102, 3) := by decide +kernel
theorem dX10_write_76 : decode cX10_write 76 = .ok (.ireturn, 1) := by decide +kernel
theorem dX10_wipe_0 : decode cX10_wipe 0 = .ok (.aload_n 0, 1) := by decide +kernel
theorem dX10_wipe_1 : decode cX10_wipe 1 = .ok (.getfield 102, 3) := by decide +kernel
theorem dX10_wipe_4 : decode cX10_wipe 4 = .ok (.istore_n 1, 1) := by decide +kernel
theorem dX10_wipe_5 : decode cX10_wipe 5 = .ok (.aload_n 0, 1) := by decide +kernel
theorem dX10_wipe_6 : decode cX10_wipe 6 = .ok (.iconst 0, 1) := by decide +kernel
theorem dX10_wipe_7 : decode cX10_wipe 7 = .ok (.putfield 102, 3) := by decide +kernel
theorem dX10_wipe_10 : decode cX10_wipe 10 = .ok (.iload_n 1, 1) := by decide +kernel
theorem dX10_wipe_11 : decode cX10_wipe 11 = .ok (.ireturn, 1) := by decide +kernel
theorem dX10_fault_0 : decode cX10_fault 0 = .ok (.aload_n 0, 1) := by decide +kernel
theorem dX10_fault_1 : decode cX10_fault 1 = .ok (.getfield 16, 3) := by decide +kernel
theorem dX10_fault_4 : decode cX10_fault 4 = .ok (.aload_n 0, 1) := by decide +kernel
theorem dX10_fault_5 : decode cX10_fault 5 = .ok (.getfield 9, 3) := by decide +kernel
theorem dX10_fault_8 : decode cX10_fault 8 = .ok (.aload_n 0, 1) := by decide +kernel
theorem dX10_fault_9 : decode cX10_fault 9 = .ok (.getfield 102, 3) := by decide +kernel
theorem dX10_fault_12 : decode cX10_fault 12 = .ok (.aload_n 0, 1) := by decide +kernel
theorem dX10_fault_13 : decode cX10_fault 13 = .ok (.getfield 27, 3) := by decide +kernel
theorem dX10_fault_16 : decode cX10_fault 16 = .ok (.invokevirtual 106, 3) := by decide +kernel
theorem dX10_fault_19 : decode cX10_fault 19 = .ok (.ireturn, 1) := by decide +kernel
theorem dX10_lay_0 : decode cX10_lay 0 = .ok (.aload_n 0, 1) := by decide +kernel
theorem dX10_lay_1 : decode cX10_lay 1 = .ok (.getfield 16, 3) := by decide +kernel
theorem dX10_lay_4 : decode cX10_lay 4 = .ok (.aload_n 0, 1) := by decide +kernel
theorem dX10_lay_5 : decode cX10_lay 5 = .ok (.getfield 9, 3) := by decide +kernel
theorem dX10_lay_8 : decode cX10_lay 8 = .ok (.aload_n 0, 1) := by decide +kernel
theorem dX10_lay_9 : decode cX10_lay 9 = .ok (.getfield 102, 3) := by decide +kernel
theorem dX10_lay_12 : decode cX10_lay 12 = .ok (.aload_n 0, 1) := by decide +kernel
theorem dX10_lay_13 : decode cX10_lay 13 = .ok (.getfield 27, 3) := by decide +kernel
theorem dX10_lay_16 : decode cX10_lay 16 = .ok (.invokevirtual 106, 3) := by decide +kernel
theorem dX10_lay_19 : decode cX10_lay 19 = .ok (.bipush (-4), 2) := by decide +kernel
theorem dX10_lay_21 : decode cX10_lay 21 = .ok (.if_icmp .ne 23, 3) := by decide +kernel
theorem dX10_lay_24 : decode cX10_lay 24 = .ok (.aload_n 0, 1) := by decide +kernel
theorem dX10_lay_25 : decode cX10_lay 25 = .ok (.getfield 27, 3) := by decide +kernel
theorem dX10_lay_28 : decode cX10_lay 28 = .ok (.getfield 110, 3) := by decide +kernel
theorem dX10_lay_31 : decode cX10_lay 31 = .ok (.ifCond .eq 13, 3) := by decide +kernel
theorem dX10_lay_34 : decode cX10_lay 34 = .ok (.aload_n 0, 1) := by decide +kernel
theorem dX10_lay_35 : decode cX10_lay 35 = .ok (.getfield 27, 3) := by decide +kernel
theorem dX10_lay_38 : decode cX10_lay 38 = .ok (.getfield 113, 3) := by decide +kernel
theorem dX10_lay_41 : decode cX10_lay 41 = .ok (.ifCond .ne 6, 3) := by decide +kernel
theorem dX10_lay_44 : decode cX10_lay 44 = .ok (.bipush (-2), 2) := by decide +kernel
theorem dX10_lay_46 : decode cX10_lay 46 = .ok (.ireturn, 1) := by decide +kernel
theorem dX10_lay_47 : decode cX10_lay 47 = .ok (.aload_n 0, 1) := by decide +kernel
theorem dX10_lay_48 : decode cX10_lay 48 = .ok (.getfield 23, 3) := by decide +kernel
theorem dX10_lay_51 : decode cX10_lay 51 = .ok (.astore_n 1, 1) := by decide +kernel
theorem dX10_lay_52 : decode cX10_lay 52 = .ok (.aload_n 0, 1) := by decide +kernel
theorem dX10_lay_53 : decode cX10_lay 53 = .ok (.aload_n 0, 1) := by decide +kernel
theorem dX10_lay_54 : decode cX10_lay 54 = .ok (.getfield 27, 3) := by decide +kernel
theorem dX10_lay_57 : decode cX10_lay 57 = .ok (.putfield 23, 3) := by decide +kernel
theorem dX10_lay_60 : decode cX10_lay 60 = .ok (.aload_n 0, 1) := by decide +kernel
theorem dX10_lay_61 : decode cX10_lay 61 = .ok (.aload_n 1, 1) := by decide +kernel
theorem dX10_lay_62 : decode cX10_lay 62 = .ok (.putfield 27, 3) := by decide +kernel
theorem dX10_lay_65 : decode cX10_lay 65 = .ok (.aload_n 0, 1) := by decide +kernel
theorem dX10_lay_66 : decode cX10_lay 66 = .ok (.getfield 23, 3) := by decide +kernel
theorem dX10_lay_69 : decode cX10_lay 69 = .ok (.invokevirtual 96, 3) := by decide +kernel
theorem dX10_lay_72 : decode cX10_lay 72 = .ok (.aload_n 0, 1) := by decide +kernel
theorem dX10_lay_73 : decode cX10_lay 73 = .ok (.invokevirtual 99, 3) := by decide +kernel
theorem dX10_lay_76 : decode cX10_lay 76 = .ok (.aload_n 0, 1) := by decide +kernel
theorem dX10_lay_77 : decode cX10_lay 77 = .ok (.getfield 23, 3) := by decide +kernel
theorem dX10_lay_80 : decode cX10_lay 80 = .ok (.getfield 110, 3) := by decide +kernel
theorem dX10_lay_83 : decode cX10_lay 83 = .ok (.ireturn, 1) := by decide +kernel
theorem dX10_startAnew_0 : decode cX10_startAnew 0 = .ok (.aload_n 0, 1) := by decide +kernel
theorem dX10_startAnew_1 : decode cX10_startAnew 1 = .ok (.getfield 33, 3) := by decide +kernel
theorem dX10_startAnew_4 : decode cX10_startAnew 4 = .ok (.invokevirtual 116, 3) := by decide +kernel
theorem dX10_startAnew_7 : decode cX10_startAnew 7 = .ok (.aload_n 0, 1) := by decide +kernel
theorem dX10_startAnew_8 : decode cX10_startAnew 8 = .ok (.iconst 0, 1) := by decide +kernel
theorem dX10_startAnew_9 : decode cX10_startAnew 9 = .ok (.putfield 117, 3) := by decide +kernel
theorem dX10_startAnew_12 : decode cX10_startAnew 12 = .ok (.aload_n 0, 1) := by decide +kernel
theorem dX10_startAnew_13 : decode cX10_startAnew 13 = .ok (.getfield 43, 3) := by decide +kernel
theorem dX10_startAnew_16 : decode cX10_startAnew 16 = .ok (.iconst 0, 1) := by decide +kernel
theorem dX10_startAnew_17 : decode cX10_startAnew 17 = .ok (.invokestatic 120, 3) := by decide +kernel
theorem dX10_startAnew_20 : decode cX10_startAnew 20 = .ok (.aload_n 0, 1) := by decide +kernel
theorem dX10_startAnew_21 : decode cX10_startAnew 21 = .ok (.getfield 57, 3) := by decide +kernel
theorem dX10_startAnew_24 : decode cX10_startAnew 24 = .ok (.invokevirtual 126, 3) := by decide +kernel
theorem dX10_startAnew_27 : decode cX10_startAnew 27 = .ok (.aload_n 0, 1) := by decide +kernel
theorem dX10_startAnew_28 : decode cX10_startAnew 28 = .ok (.getfield 64, 3) := by decide +kernel
theorem dX10_startAnew_31 : decode cX10_startAnew 31 = .ok (.invokevirtual 129, 3) := by decide +kernel
theorem dX10_startAnew_34 : decode cX10_startAnew 34 = .ok (.aload_n 0, 1) := by decide +kernel
theorem dX10_startAnew_35 : decode cX10_startAnew 35 = .ok (.getfield 71, 3) := by decide +kernel
theorem dX10_startAnew_38 : decode cX10_startAnew 38 = .ok (.invokevirtual 130, 3) := by decide +kernel
theorem dX10_startAnew_41 : decode cX10_startAnew 41 = .ok (.return_, 1) := by decide +kernel
theorem dX10_player_0 : decode cX10_player 0 = .ok (.aload_n 0, 1) := by decide +kernel
theorem dX10_player_1 : decode cX10_player 1 = .ok (.getfield 23, 3) := by decide +kernel
theorem dX10_player_4 : decode cX10_player 4 = .ok (.iload_n 1, 1) := by decide +kernel
theorem dX10_player_5 : decode cX10_player 5 = .ok (.invokevirtual 131, 3) := by decide +kernel
theorem dX10_player_8 : decode cX10_player 8 = .ok (.ifCond .ne 5, 3) := by decide +kernel
theorem dX10_player_11 : decode cX10_player 11 = .ok (.iconst (-1), 1) := by decide +kernel
theorem dX10_player_12 : decode cX10_player 12 = .ok (.ireturn, 1) := by decide +kernel
theorem dX10_player_13 : decode cX10_player 13 = .ok (.iload_n 2, 1) := by decide +kernel
theorem dX10_player_14 : decode cX10_player 14 = .ok (.tableswitch 82 0 4 #[34, 44, 54, 63, 73], 34) := by decide +kernel
theorem dX10_player_48 : decode cX10_player 48 = .ok (.aload_n 0, 1) := by decide +kernel
theorem dX10_player_49 : decode cX10_player 49 = .ok (.getfield 23, 3) := by decide +kernel
theorem dX10_player_52 : decode cX10_player 52 = .ok (.getfield 135, 3) := by decide +kernel
theorem dX10_player_55 : decode cX10_player 55 = .ok (.iload_n 1, 1) := by decide +kernel
theorem dX10_player_56 : decode cX10_player 56 = .ok (.iaload, 1) := by decide +kernel
theorem dX10_player_57 : decode cX10_player 57 = .ok (.ireturn, 1) := by decide +kernel
theorem dX10_player_58 : decode cX10_player 58 = .ok (.aload_n 0, 1) := by decide +kernel
theorem dX10_player_59 : decode cX10_player 59 = .ok (.getfield 23, 3) := by decide +kernel
theorem dX10_player_62 : decode cX10_player 62 = .ok (.getfield 138, 3) := by decide +kernel
theorem dX10_player_65 : decode cX10_player 65 = .ok (.iload_n 1, 1) := by decide +kernel
theorem dX10_player_66 : decode cX10_player 66 = .ok (.iaload, 1) := by decide +kernel
theorem dX10_player_67 : decode cX10_player 67 = .ok (.ireturn, 1) := by decide +kernel
theorem dX10_player_68 : decode cX10_player 68 = .ok (.aload_n 0, 1) := by decide +kernel
theorem dX10_player_69 : decode cX10_player 69 = .ok (.getfield 23, 3) := by decide +kernel
theorem dX10_player_72 : decode cX10_player 72 = .ok (.iload_n 1, 1) := by decide +kernel
theorem dX10_player_73 : decode cX10_player 73 = .ok (.invokevirtual 141, 3) := by decide +kernel
theorem dX10_player_76 : decode cX10_player 76 = .ok (.ireturn, 1) := by decide +kernel
theorem dX10_player_77 : decode cX10_player 77 = .ok (.aload_n 0, 1) := by decide +kernel
theorem dX10_player_78 : decode cX10_player 78 = .ok (.getfield 23, 3) := by decide +kernel
theorem dX10_player_81 : decode cX10_player 81 = .ok (.getfield 145, 3) := by decide +kernel
theorem dX10_player_84 : decode cX10_player 84 = .ok (.iload_n 1, 1) := by decide +kernel
theorem dX10_player_85 : decode cX10_player 85 = .ok (.iaload, 1) := by decide +kernel
theorem dX10_player_86 : decode cX10_player 86 = .ok (.ireturn, 1) := by decide +kernel
theorem dX10_player_87 : decode cX10_player 87 = .ok (.aload_n 0, 1) := by decide +kernel
theorem dX10_player_88 : decode cX10_player 88 = .ok (.getfield 23, 3) := by decide +kernel
theorem dX10_player_91 : decode cX10_player 91 = .ok (.iload_n 1, 1) := by decide +kernel
theorem dX10_player_92 : decode cX10_player 92 = .ok (.invokevirtual 148, 3) := by decide +kernel
theorem dX10_player_95 : decode cX10_player 95 = .ok (.ireturn, 1) := by decide +kernel
theorem dX10_player_96 : decode cX10_player 96 = .ok (.iconst (-1), 1) := by decide +kernel
theorem dX10_player_97 : decode cX10_player 97 = .ok (.ireturn, 1) := by decide +kernel
theorem dX10_part_0 : decode cX10_part 0 = .ok (.aload_n 0, 1) := by decide +kernel
theorem dX10_part_1 : decode cX10_part 1 = .ok (.getfield 23, 3) := by decide +kernel
theorem dX10_part_4 : decode cX10_part 4 = .ok (.iload_n 1, 1) := by decide +kernel
theorem dX10_part_5 : decode cX10_part 5 = .ok (.invokevirtual 151, 3) := by decide +kernel
theorem dX10_part_8 : decode cX10_part 8 = .ok (.ifCond .ne 5, 3) := by decide +kernel
theorem dX10_part_11 : decode cX10_part 11 = .ok (.iconst (-1), 1) := by decide +kernel
theorem dX10_part_12 : decode cX10_part 12 = .ok (.ireturn, 1) := by decide +kernel
theorem dX10_part_13 : decode cX10_part 13 = .ok (.iload_n 2, 1) := by decide +kernel
theorem dX10_part_14 : decode cX10_part 14 = .ok (.tableswitch 102 0 5 #[38, 48, 58, 68, 80, 92], 38) := by decide +kernel
theorem dX10_part_52 : decode cX10_part 52 = .ok (.aload_n 0, 1) := by decide +kernel
theorem dX10_part_53 : decode cX10_part 53 = .ok (.getfield 23, 3) := by decide +kernel
theorem dX10_part_56 : decode cX10_part 56 = .ok (.getfield 154, 3) := by decide +kernel
theorem dX10_part_59 : decode cX10_part 59 = .ok (.iload_n 1, 1) := by decide +kernel
theorem dX10_part_60 : decode cX10_part 60 = .ok (.iaload, 1) := by decide +kernel
theorem dX10_part_61 : decode cX10_part 61 = .ok (.ireturn, 1) := by decide +kernel
theorem dX10_part_62 : decode cX10_part 62 = .ok (.aload_n 0, 1) := by decide +kernel
theorem dX10_part_63 : decode cX10_part 63 = .ok (.getfield 23, 3) := by decide +kernel
theorem dX10_part_66 : decode cX10_part 66 = .ok (.getfield 157, 3) := by decide +kernel
theorem dX10_part_69 : decode cX10_part 69 = .ok (.iload_n 1, 1) := by decide +kernel
theorem dX10_part_70 : decode cX10_part 70 = .ok (.iaload, 1) := by decide +kernel
theorem dX10_part_71 : decode cX10_part 71 = .ok (.ireturn, 1) := by decide +kernel
theorem dX10_part_72 : decode cX10_part 72 = .ok (.aload_n 0, 1) := by decide +kernel
theorem dX10_part_73 : decode cX10_part 73 = .ok (.getfield 23, 3) := by decide +kernel
theorem dX10_part_76 : decode cX10_part 76 = .ok (.getfield 160, 3) := by decide +kernel
theorem dX10_part_79 : decode cX10_part 79 = .ok (.iload_n 1, 1) := by decide +kernel
theorem dX10_part_80 : decode cX10_part 80 = .ok (.iaload, 1) := by decide +kernel
theorem dX10_part_81 : decode cX10_part 81 = .ok (.ireturn, 1) := by decide +kernel
theorem dX10_part_82 : decode cX10_part 82 = .ok (.aload_n 0, 1) := by decide +kernel
theorem dX10_part_83 : decode cX10_part 83 = .ok (.getfield 23, 3) := by decide +kernel
theorem dX10_part_86 : decode cX10_part 86 = .ok (.getfield 163, 3) := by decide +kernel
theorem dX10_part_89 : decode cX10_part 89 = .ok (.iload_n 1, 1) := by decide +kernel
theorem dX10_part_90 : decode cX10_part 90 = .ok (.ishr, 1) := by decide +kernel
theorem dX10_part_91 : decode cX10_part 91 = .ok (.iconst 1, 1) := by decide +kernel
theorem dX10_part_92 : decode cX10_part 92 = .ok (.iand, 1) := by decide +kernel
theorem dX10_part_93 : decode cX10_part 93 = .ok (.ireturn, 1) := by decide +kernel
theorem dX10_part_94 : decode cX10_part 94 = .ok (.aload_n 0, 1) := by decide +kernel
theorem dX10_part_95 : decode cX10_part 95 = .ok (.getfield 23, 3) := by decide +kernel
theorem dX10_part_98 : decode cX10_part 98 = .ok (.getfield 166, 3) := by decide +kernel
theorem dX10_part_101 : decode cX10_part 101 = .ok (.iload_n 1, 1) := by decide +kernel
theorem dX10_part_102 : decode cX10_part 102 = .ok (.invokevirtual 170, 3) := by decide +kernel
theorem dX10_part_105 : decode cX10_part 105 = .ok (.ireturn, 1) := by decide +kernel
theorem dX10_part_106 : decode cX10_part 106 = .ok (.aload_n 0, 1) := by decide +kernel
theorem dX10_part_107 : decode cX10_part 107 = .ok (.getfield 23, 3) := by decide +kernel
theorem dX10_part_110 : decode cX10_part 110 = .ok (.getfield 175, 3) := by decide +kernel
theorem dX10_part_113 : decode cX10_part 113 = .ok (.iload_n 1, 1) := by decide +kernel
theorem dX10_part_114 : decode cX10_part 114 = .ok (.iaload, 1) := by decide +kernel
theorem dX10_part_115 : decode cX10_part 115 = .ok (.ireturn, 1) := by decide +kernel
theorem dX10_part_116 : decode cX10_part 116 = .ok (.iconst (-1), 1) := by decide +kernel
theorem dX10_part_117 : decode cX10_part 117 = .ok (.ireturn, 1) := by decide +kernel
theorem dX10_both_0 : decode cX10_both 0 = .ok (.aload_n 0, 1) := by decide +kernel
theorem dX10_both_1 : decode cX10_both 1 = .ok (.getfield 23, 3) := by decide +kernel
theorem dX10_both_4 : decode cX10_both 4 = .ok (.iload_n 1, 1) := by decide +kernel
theorem dX10_both_5 : decode cX10_both 5 = .ok (.invokevirtual 151, 3) := by decide +kernel
theorem dX10_both_8 : decode cX10_both 8 = .ok (.ifCond .eq 19, 3) := by decide +kernel
theorem dX10_both_11 : decode cX10_both 11 = .ok (.aload_n 0, 1) := by decide +kernel
theorem dX10_both_12 : decode cX10_both 12 = .ok (.getfield 23, 3) := by decide +kernel
theorem dX10_both_15 : decode cX10_both 15 = .ok (.iload_n 2, 1) := by decide +kernel
theorem dX10_both_16 : decode cX10_both 16 = .ok (.invokevirtual 151, 3) := by decide +kernel
theorem dX10_both_19 : decode cX10_both 19 = .ok (.ifCond .eq 8, 3) := by decide +kernel
theorem dX10_both_22 : decode cX10_both 22 = .ok (.iload_n 1, 1) := by decide +kernel
theorem dX10_both_23 : decode cX10_both 23 = .ok (.iload_n 2, 1) := by decide +kernel
theorem dX10_both_24 : decode cX10_both 24 = .ok (.if_icmp .ne 5, 3) := by decide +kernel
theorem dX10_both_27 : decode cX10_both 27 = .ok (.iconst (-1), 1) := by decide +kernel
theorem dX10_both_28 : decode cX10_both 28 = .ok (.ireturn, 1) := by decide +kernel
theorem dX10_both_29 : decode cX10_both 29 = .ok (.aload_n 0, 1) := by decide +kernel
theorem dX10_both_30 : decode cX10_both 30 = .ok (.getfield 23, 3) := by decide +kernel
theorem dX10_both_33 : decode cX10_both 33 = .ok (.getfield 178, 3) := by decide +kernel
theorem dX10_both_36 : decode cX10_both 36 = .ok (.iload_n 1, 1) := by decide +kernel
theorem dX10_both_37 : decode cX10_both 37 = .ok (.iaload, 1) := by decide +kernel
theorem dX10_both_38 : decode cX10_both 38 = .ok (.iload_n 2, 1) := by decide +kernel
theorem dX10_both_39 : decode cX10_both 39 = .ok (.invokestatic 181, 3) := by decide +kernel
theorem dX10_both_42 : decode cX10_both 42 = .ok (.ifCond .eq 7, 3) := by decide +kernel
theorem dX10_both_45 : decode cX10_both 45 = .ok (.iconst 0, 1) := by decide +kernel
theorem dX10_both_46 : decode cX10_both 46 = .ok (.goto 4, 3) := by decide +kernel
theorem dX10_both_49 : decode cX10_both 49 = .ok (.iconst 1, 1) := by decide +kernel
theorem dX10_both_50 : decode cX10_both 50 = .ok (.ireturn, 1) := by decide +kernel
theorem dX10_ways_0 : decode cX10_ways 0 = .ok (.aload_n 0, 1) := by decide +kernel
theorem dX10_ways_1 : decode cX10_ways 1 = .ok (.getfield 23, 3) := by decide +kernel
theorem dX10_ways_4 : decode cX10_ways 4 = .ok (.iload_n 1, 1) := by decide +kernel
theorem dX10_ways_5 : decode cX10_ways 5 = .ok (.invokevirtual 184, 3) := by decide +kernel
theorem dX10_ways_8 : decode cX10_ways 8 = .ok (.ifCond .eq 14, 3) := by decide +kernel
theorem dX10_ways_11 : decode cX10_ways 11 = .ok (.aload_n 0, 1) := by decide +kernel
theorem dX10_ways_12 : decode cX10_ways 12 = .ok (.getfield 23, 3) := by decide +kernel
theorem dX10_ways_15 : decode cX10_ways 15 = .ok (.iload_n 2, 1) := by decide +kernel
theorem dX10_ways_16 : decode cX10_ways 16 = .ok (.invokevirtual 187, 3) := by decide +kernel
theorem dX10_ways_19 : decode cX10_ways 19 = .ok (.ifCond .ne 5, 3) := by decide +kernel
theorem dX10_ways_22 : decode cX10_ways 22 = .ok (.lconst 0, 1) := by decide +kernel
theorem dX10_ways_23 : decode cX10_ways 23 = .ok (.lreturn, 1) := by decide +kernel
theorem dX10_ways_24 : decode cX10_ways 24 = .ok (.aload_n 0, 1) := by decide +kernel
theorem dX10_ways_25 : decode cX10_ways 25 = .ok (.getfield 50, 3) := by decide +kernel
theorem dX10_ways_28 : decode cX10_ways 28 = .ok (.aload_n 0, 1) := by decide +kernel
theorem dX10_ways_29 : decode cX10_ways 29 = .ok (.getfield 23, 3) := by decide +kernel
theorem dX10_ways_32 : decode cX10_ways 32 = .ok (.iload_n 1, 1) := by decide +kernel
theorem dX10_ways_33 : decode cX10_ways 33 = .ok (.iload_n 2, 1) := by decide +kernel
theorem dX10_ways_34 : decode cX10_ways 34 = .ok (.invokevirtual 190, 3) := by decide +kernel
theorem dX10_ways_37 : decode cX10_ways 37 = .ok (.lreturn, 1) := by decide +kernel
theorem dX10_least_0 : decode cX10_least 0 = .ok (.iload_n 3, 1) := by decide +kernel
theorem dX10_least_1 : decode cX10_least 1 = .ok (.ifCond .lt 14, 3) := by decide +kernel
theorem dX10_least_4 : decode cX10_least 4 = .ok (.aload_n 0, 1) := by decide +kernel
theorem dX10_least_5 : decode cX10_least 5 = .ok (.getfield 23, 3) := by decide +kernel
theorem dX10_least_8 : decode cX10_least 8 = .ok (.iload_n 3, 1) := by decide +kernel
theorem dX10_least_9 : decode cX10_least 9 = .ok (.invokevirtual 151, 3) := by decide +kernel
theorem dX10_least_12 : decode cX10_least 12 = .ok (.goto 14, 3) := by decide +kernel
theorem dX10_least_15 : decode cX10_least 15 = .ok (.iload_n 3, 1) := by decide +kernel
theorem dX10_least_16 : decode cX10_least 16 = .ok (.bipush (-3), 2) := by decide +kernel
theorem dX10_least_18 : decode cX10_least 18 = .ok (.if_icmp .lt 7, 3) := by decide +kernel
theorem dX10_least_21 : decode cX10_least 21 = .ok (.iconst 1, 1) := by decide +kernel
theorem dX10_least_22 : decode cX10_least 22 = .ok (.goto 4, 3) := by decide +kernel
theorem dX10_least_25 : decode cX10_least 25 = .ok (.iconst 0, 1) := by decide +kernel
theorem dX10_least_26 : decode cX10_least 26 = .ok (.istore 4, 2) := by decide +kernel
theorem dX10_least_28 : decode cX10_least 28 = .ok (.iload 4, 2) := by decide +kernel
theorem dX10_least_30 : decode cX10_least 30 = .ok (.ifCond .eq 25, 3) := by decide +kernel
theorem dX10_least_33 : decode cX10_least 33 = .ok (.aload_n 0, 1) := by decide +kernel
theorem dX10_least_34 : decode cX10_least 34 = .ok (.getfield 23, 3) := by decide +kernel
theorem dX10_least_37 : decode cX10_least 37 = .ok (.iload_n 1, 1) := by decide +kernel
theorem dX10_least_38 : decode cX10_least 38 = .ok (.invokevirtual 184, 3) := by decide +kernel
theorem dX10_least_41 : decode cX10_least 41 = .ok (.ifCond .eq 14, 3) := by decide +kernel
theorem dX10_least_44 : decode cX10_least 44 = .ok (.aload_n 0, 1) := by decide +kernel
theorem dX10_least_45 : decode cX10_least 45 = .ok (.getfield 23, 3) := by decide +kernel
theorem dX10_least_48 : decode cX10_least 48 = .ok (.iload_n 2, 1) := by decide +kernel
theorem dX10_least_49 : decode cX10_least 49 = .ok (.invokevirtual 187, 3) := by decide +kernel
theorem dX10_least_52 : decode cX10_least 52 = .ok (.ifCond .ne 5, 3) := by decide +kernel
theorem dX10_least_55 : decode cX10_least 55 = .ok (.iconst (-1), 1) := by decide +kernel
theorem dX10_least_56 : decode cX10_least 56 = .ok (.ireturn, 1) := by decide +kernel
theorem dX10_least_57 : decode cX10_least 57 = .ok (.iload_n 3, 1) := by decide +kernel
theorem dX10_least_58 : decode cX10_least 58 = .ok (.ifCond .lt 14, 3) := by decide +kernel
theorem dX10_least_61 : decode cX10_least 61 = .ok (.iload_n 2, 1) := by decide +kernel
theorem dX10_least_62 : decode cX10_least 62 = .ok (.iload_n 3, 1) := by decide +kernel
theorem dX10_least_63 : decode cX10_least 63 = .ok (.invokestatic 181, 3) := by decide +kernel
theorem dX10_least_66 : decode cX10_least 66 = .ok (.ifCond .eq 6, 3) := by decide +kernel
theorem dX10_least_69 : decode cX10_least 69 = .ok (.bipush (-2), 2) := by decide +kernel
theorem dX10_least_71 : decode cX10_least 71 = .ok (.ireturn, 1) := by decide +kernel
theorem dX10_least_72 : decode cX10_least 72 = .ok (.aload_n 0, 1) := by decide +kernel
theorem dX10_least_73 : decode cX10_least 73 = .ok (.getfield 50, 3) := by decide +kernel
theorem dX10_least_76 : decode cX10_least 76 = .ok (.aload_n 0, 1) := by decide +kernel
theorem dX10_least_77 : decode cX10_least 77 = .ok (.getfield 23, 3) := by decide +kernel
theorem dX10_least_80 : decode cX10_least 80 = .ok (.aload_n 0, 1) := by decide +kernel
theorem dX10_least_81 : decode cX10_least 81 = .ok (.getfield 33, 3) := by decide +kernel
theorem dX10_least_84 : decode cX10_least 84 = .ok (.iload_n 1, 1) := by decide +kernel
theorem dX10_least_85 : decode cX10_least 85 = .ok (.iload_n 2, 1) := by decide +kernel
theorem dX10_least_86 : decode cX10_least 86 = .ok (.invokevirtual 194, 3) := by decide +kernel
theorem dX10_least_89 : decode cX10_least 89 = .ok (.ifCond .ne 6, 3) := by decide +kernel
theorem dX10_least_92 : decode cX10_least 92 = .ok (.bipush (-4), 2) := by decide +kernel
theorem dX10_least_94 : decode cX10_least 94 = .ok (.ireturn, 1) := by decide +kernel
theorem dX10_least_95 : decode cX10_least 95 = .ok (.iload_n 3, 1) := by decide +kernel
theorem dX10_least_96 : decode cX10_least 96 = .ok (.tableswitch 56 (-3) (-1) #[44, 36, 28], 28) := by decide +kernel
theorem dX10_least_124 : decode cX10_least 124 = .ok (.aload_n 0, 1) := by decide +kernel
theorem dX10_least_125 : decode cX10_least 125 = .ok (.getfield 50, 3) := by decide +kernel
theorem dX10_least_128 : decode cX10_least 128 = .ok (.getfield 198, 3) := by decide +kernel
theorem dX10_least_131 : decode cX10_least 131 = .ok (.ireturn, 1) := by decide +kernel
theorem dX10_least_132 : decode cX10_least 132 = .ok (.aload_n 0, 1) := by decide +kernel
theorem dX10_least_133 : decode cX10_least 133 = .ok (.getfield 50, 3) := by decide +kernel
theorem dX10_least_136 : decode cX10_least 136 = .ok (.invokevirtual 201, 3) := by decide +kernel
theorem dX10_least_139 : decode cX10_least 139 = .ok (.ireturn, 1) := by decide +kernel
theorem dX10_least_140 : decode cX10_least 140 = .ok (.aload_n 0, 1) := by decide +kernel
theorem dX10_least_141 : decode cX10_least 141 = .ok (.getfield 50, 3) := by decide +kernel
theorem dX10_least_144 : decode cX10_least 144 = .ok (.aload_n 0, 1) := by decide +kernel
theorem dX10_least_145 : decode cX10_least 145 = .ok (.getfield 33, 3) := by decide +kernel
theorem dX10_least_148 : decode cX10_least 148 = .ok (.invokevirtual 205, 3) := by decide +kernel
theorem dX10_least_151 : decode cX10_least 151 = .ok (.ireturn, 1) := by decide +kernel
theorem dX10_least_152 : decode cX10_least 152 = .ok (.aload_n 0, 1) := by decide +kernel
theorem dX10_least_153 : decode cX10_least 153 = .ok (.getfield 50, 3) := by decide +kernel
theorem dX10_least_156 : decode cX10_least 156 = .ok (.getfield 209, 3) := by decide +kernel
theorem dX10_least_159 : decode cX10_least 159 = .ok (.iload_n 3, 1) := by decide +kernel
theorem dX10_least_160 : decode cX10_least 160 = .ok (.iaload, 1) := by decide +kernel
theorem dX10_least_161 : decode cX10_least 161 = .ok (.ireturn, 1) := by decide +kernel
theorem dX10_cuts_0 : decode cX10_cuts 0 = .ok (.aload_n 0, 1) := by decide +kernel
theorem dX10_cuts_1 : decode cX10_cuts 1 = .ok (.getfield 23, 3) := by decide +kernel
theorem dX10_cuts_4 : decode cX10_cuts 4 = .ok (.iload_n 1, 1) := by decide +kernel
theorem dX10_cuts_5 : decode cX10_cuts 5 = .ok (.invokevirtual 184, 3) := by decide +kernel
theorem dX10_cuts_8 : decode cX10_cuts 8 = .ok (.ifCond .eq 12, 3) := by decide +kernel
theorem dX10_cuts_11 : decode cX10_cuts 11 = .ok (.iload_n 2, 1) := by decide +kernel
theorem dX10_cuts_12 : decode cX10_cuts 12 = .ok (.ifCond .lt 8, 3) := by decide +kernel
theorem dX10_cuts_15 : decode cX10_cuts 15 = .ok (.iload_n 2, 1) := by decide +kernel
theorem dX10_cuts_16 : decode cX10_cuts 16 = .ok (.iconst 1, 1) := by decide +kernel
theorem dX10_cuts_17 : decode cX10_cuts 17 = .ok (.if_icmp .le 5, 3) := by decide +kernel
theorem dX10_cuts_20 : decode cX10_cuts 20 = .ok (.iconst (-1), 1) := by decide +kernel
theorem dX10_cuts_21 : decode cX10_cuts 21 = .ok (.ireturn, 1) := by decide +kernel
theorem dX10_cuts_22 : decode cX10_cuts 22 = .ok (.aload_n 0, 1) := by decide +kernel
theorem dX10_cuts_23 : decode cX10_cuts 23 = .ok (.getfield 57, 3) := by decide +kernel
theorem dX10_cuts_26 : decode cX10_cuts 26 = .ok (.aload_n 0, 1) := by decide +kernel
theorem dX10_cuts_27 : decode cX10_cuts 27 = .ok (.getfield 23, 3) := by decide +kernel
theorem dX10_cuts_30 : decode cX10_cuts 30 = .ok (.iload_n 1, 1) := by decide +kernel
theorem dX10_cuts_31 : decode cX10_cuts 31 = .ok (.invokevirtual 212, 3) := by decide +kernel
theorem dX10_cuts_34 : decode cX10_cuts 34 = .ok (.istore_n 3, 1) := by decide +kernel
theorem dX10_cuts_35 : decode cX10_cuts 35 = .ok (.iload_n 3, 1) := by decide +kernel
theorem dX10_cuts_36 : decode cX10_cuts 36 = .ok (.bipush (-4), 2) := by decide +kernel
theorem dX10_cuts_38 : decode cX10_cuts 38 = .ok (.if_icmp .eq 7, 3) := by decide +kernel
theorem dX10_cuts_41 : decode cX10_cuts 41 = .ok (.iload_n 2, 1) := by decide +kernel
theorem dX10_cuts_42 : decode cX10_cuts 42 = .ok (.ifCond .ne 5, 3) := by decide +kernel
theorem dX10_cuts_45 : decode cX10_cuts 45 = .ok (.iload_n 3, 1) := by decide +kernel
theorem dX10_cuts_46 : decode cX10_cuts 46 = .ok (.ireturn, 1) := by decide +kernel
theorem dX10_cuts_47 : decode cX10_cuts 47 = .ok (.aload_n 0, 1) := by decide +kernel
theorem dX10_cuts_48 : decode cX10_cuts 48 = .ok (.getfield 23, 3) := by decide +kernel
theorem dX10_cuts_51 : decode cX10_cuts 51 = .ok (.iload_n 3, 1) := by decide +kernel
theorem dX10_cuts_52 : decode cX10_cuts 52 = .ok (.invokevirtual 216, 3) := by decide +kernel
theorem dX10_cuts_55 : decode cX10_cuts 55 = .ok (.ireturn, 1) := by decide +kernel
theorem dX10_lines_0 : decode cX10_lines 0 = .ok (.aload_n 0, 1) := by decide +kernel
theorem dX10_lines_1 : decode cX10_lines 1 = .ok (.getfield 23, 3) := by decide +kernel
theorem dX10_lines_4 : decode cX10_lines 4 = .ok (.iload_n 1, 1) := by decide +kernel
theorem dX10_lines_5 : decode cX10_lines 5 = .ok (.invokevirtual 131, 3) := by decide +kernel
theorem dX10_lines_8 : decode cX10_lines 8 = .ok (.ifCond .eq 14, 3) := by decide +kernel
theorem dX10_lines_11 : decode cX10_lines 11 = .ok (.aload_n 0, 1) := by decide +kernel
theorem dX10_lines_12 : decode cX10_lines 12 = .ok (.getfield 23, 3) := by decide +kernel
theorem dX10_lines_15 : decode cX10_lines 15 = .ok (.iload_n 2, 1) := by decide +kernel
theorem dX10_lines_16 : decode cX10_lines 16 = .ok (.invokevirtual 151, 3) := by decide +kernel
theorem dX10_lines_19 : decode cX10_lines 19 = .ok (.ifCond .ne 5, 3) := by decide +kernel
theorem dX10_lines_22 : decode cX10_lines 22 = .ok (.iconst (-1), 1) := by decide +kernel
theorem dX10_lines_23 : decode cX10_lines 23 = .ok (.ireturn, 1) := by decide +kernel
theorem dX10_lines_24 : decode cX10_lines 24 = .ok (.aload_n 0, 1) := by decide +kernel
theorem dX10_lines_25 : decode cX10_lines 25 = .ok (.getfield 23, 3) := by decide +kernel
theorem dX10_lines_28 : decode cX10_lines 28 = .ok (.iload_n 1, 1) := by decide +kernel
theorem dX10_lines_29 : decode cX10_lines 29 = .ok (.iload_n 2, 1) := by decide +kernel
theorem dX10_lines_30 : decode cX10_lines 30 = .ok (.invokevirtual 219, 3) := by decide +kernel
theorem dX10_lines_33 : decode cX10_lines 33 = .ok (.ifCond .ne 6, 3) := by decide +kernel
theorem dX10_lines_36 : decode cX10_lines 36 = .ok (.bipush (-2), 2) := by decide +kernel
theorem dX10_lines_38 : decode cX10_lines 38 = .ok (.ireturn, 1) := by decide +kernel
theorem dX10_lines_39 : decode cX10_lines 39 = .ok (.aload_n 0, 1) := by decide +kernel
theorem dX10_lines_40 : decode cX10_lines 40 = .ok (.getfield 33, 3) := by decide +kernel
theorem dX10_lines_43 : decode cX10_lines 43 = .ok (.aload_n 0, 1) := by decide +kernel
theorem dX10_lines_44 : decode cX10_lines 44 = .ok (.getfield 23, 3) := by decide +kernel
theorem dX10_lines_47 : decode cX10_lines 47 = .ok (.iload_n 1, 1) := by decide +kernel
theorem dX10_lines_48 : decode cX10_lines 48 = .ok (.iload_n 2, 1) := by decide +kernel
theorem dX10_lines_49 : decode cX10_lines 49 = .ok (.invokevirtual 222, 3) := by decide +kernel
theorem dX10_lines_52 : decode cX10_lines 52 = .ok (.ireturn, 1) := by decide +kernel
theorem dX10_rehearse_0 : decode cX10_rehearse 0 = .ok (.aload_n 0, 1) := by decide +kernel
theorem dX10_rehearse_1 : decode cX10_rehearse 1 = .ok (.getfield 23, 3) := by decide +kernel
theorem dX10_rehearse_4 : decode cX10_rehearse 4 = .ok (.iload_n 1, 1) := by decide +kernel
theorem dX10_rehearse_5 : decode cX10_rehearse 5 = .ok (.invokevirtual 131, 3) := by decide +kernel
theorem dX10_rehearse_8 : decode cX10_rehearse 8 = .ok (.ifCond .eq 14, 3) := by decide +kernel
theorem dX10_rehearse_11 : decode cX10_rehearse 11 = .ok (.aload_n 0, 1) := by decide +kernel
theorem dX10_rehearse_12 : decode cX10_rehearse 12 = .ok (.getfield 23, 3) := by decide +kernel
theorem dX10_rehearse_15 : decode cX10_rehearse 15 = .ok (.iload_n 2, 1) := by decide +kernel
theorem dX10_rehearse_16 : decode cX10_rehearse 16 = .ok (.invokevirtual 151, 3) := by decide +kernel
theorem dX10_rehearse_19 : decode cX10_rehearse 19 = .ok (.ifCond .ne 5, 3) := by decide +kernel
theorem dX10_rehearse_22 : decode cX10_rehearse 22 = .ok (.iconst (-1), 1) := by decide +kernel
theorem dX10_rehearse_23 : decode cX10_rehearse 23 = .ok (.ireturn, 1) := by decide +kernel
theorem dX10_rehearse_24 : decode cX10_rehearse 24 = .ok (.aload_n 0, 1) := by decide +kernel
theorem dX10_rehearse_25 : decode cX10_rehearse 25 = .ok (.getfield 23, 3) := by decide +kernel
theorem dX10_rehearse_28 : decode cX10_rehearse 28 = .ok (.iload_n 1, 1) := by decide +kernel
theorem dX10_rehearse_29 : decode cX10_rehearse 29 = .ok (.iload_n 2, 1) := by decide +kernel
theorem dX10_rehearse_30 : decode cX10_rehearse 30 = .ok (.invokevirtual 219, 3) := by decide +kernel
theorem dX10_rehearse_33 : decode cX10_rehearse 33 = .ok (.ifCond .ne 6, 3) := by decide +kernel
theorem dX10_rehearse_36 : decode cX10_rehearse 36 = .ok (.bipush (-2), 2) := by decide +kernel
theorem dX10_rehearse_38 : decode cX10_rehearse 38 = .ok (.ireturn, 1) := by decide +kernel
theorem dX10_rehearse_39 : decode cX10_rehearse 39 = .ok (.aload_n 0, 1) := by decide +kernel
theorem dX10_rehearse_40 : decode cX10_rehearse 40 = .ok (.getfield 33, 3) := by decide +kernel
theorem dX10_rehearse_43 : decode cX10_rehearse 43 = .ok (.iload_n 1, 1) := by decide +kernel
theorem dX10_rehearse_44 : decode cX10_rehearse 44 = .ok (.iload_n 2, 1) := by decide +kernel
theorem dX10_rehearse_45 : decode cX10_rehearse 45 = .ok (.invokevirtual 226, 3) := by decide +kernel
theorem dX10_rehearse_48 : decode cX10_rehearse 48 = .ok (.aload_n 0, 1) := by decide +kernel
theorem dX10_rehearse_49 : decode cX10_rehearse 49 = .ok (.getfield 23, 3) := by decide +kernel
theorem dX10_rehearse_52 : decode cX10_rehearse 52 = .ok (.iload_n 2, 1) := by decide +kernel
theorem dX10_rehearse_53 : decode cX10_rehearse 53 = .ok (.invokevirtual 230, 3) := by decide +kernel
theorem dX10_rehearse_56 : decode cX10_rehearse 56 = .ok (.ireturn, 1) := by decide +kernel
theorem dX10_rehearsals_0 : decode cX10_rehearsals 0 = .ok (.iload_n 1, 1) := by decide +kernel
theorem dX10_rehearsals_1 : decode cX10_rehearsals 1 = .ok (.ifCond .lt 15, 3) := by decide +kernel
theorem dX10_rehearsals_4 : decode cX10_rehearsals 4 = .ok (.iload_n 1, 1) := by decide +kernel
theorem dX10_rehearsals_5 : decode cX10_rehearsals 5 = .ok (.bipush 99, 2) := by decide +kernel
theorem dX10_rehearsals_7 : decode cX10_rehearsals 7 = .ok (.if_icmp .gt 9, 3) := by decide +kernel
theorem dX10_rehearsals_10 : decode cX10_rehearsals 10 = .ok (.iload_n 2, 1) := by decide +kernel
theorem dX10_rehearsals_11 : decode cX10_rehearsals 11 = .ok (.bipush (-3), 2) := by decide +kernel
theorem dX10_rehearsals_13 : decode cX10_rehearsals 13 = .ok (.if_icmp .ge 5, 3) := by decide +kernel
theorem dX10_rehearsals_16 : decode cX10_rehearsals 16 = .ok (.iconst (-1), 1) := by decide +kernel
theorem dX10_rehearsals_17 : decode cX10_rehearsals 17 = .ok (.ireturn, 1) := by decide +kernel
theorem dX10_rehearsals_18 : decode cX10_rehearsals 18 = .ok (.aload_n 0, 1) := by decide +kernel
theorem dX10_rehearsals_19 : decode cX10_rehearsals 19 = .ok (.getfield 78, 3) := by decide +kernel
theorem dX10_rehearsals_22 : decode cX10_rehearsals 22 = .ok (.aload_n 0, 1) := by decide +kernel
theorem dX10_rehearsals_23 : decode cX10_rehearsals 23 = .ok (.getfield 23, 3) := by decide +kernel
theorem dX10_rehearsals_26 : decode cX10_rehearsals 26 = .ok (.aload_n 0, 1) := by decide +kernel
theorem dX10_rehearsals_27 : decode cX10_rehearsals 27 = .ok (.getfield 33, 3) := by decide +kernel
theorem dX10_rehearsals_30 : decode cX10_rehearsals 30 = .ok (.iload_n 1, 1) := by decide +kernel
theorem dX10_rehearsals_31 : decode cX10_rehearsals 31 = .ok (.invokevirtual 233, 3) := by decide +kernel
theorem dX10_rehearsals_34 : decode cX10_rehearsals 34 = .ok (.iload_n 2, 1) := by decide +kernel
theorem dX10_rehearsals_35 : decode cX10_rehearsals 35 = .ok (.tableswitch 49 (-3) (-1) #[41, 33, 25], 25) := by decide +kernel
theorem dX10_rehearsals_60 : decode cX10_rehearsals 60 = .ok (.aload_n 0, 1) := by decide +kernel
theorem dX10_rehearsals_61 : decode cX10_rehearsals 61 = .ok (.getfield 78, 3) := by decide +kernel
theorem dX10_rehearsals_64 : decode cX10_rehearsals 64 = .ok (.getfield 237, 3) := by decide +kernel
theorem dX10_rehearsals_67 : decode cX10_rehearsals 67 = .ok (.ireturn, 1) := by decide +kernel
theorem dX10_rehearsals_68 : decode cX10_rehearsals 68 = .ok (.aload_n 0, 1) := by decide +kernel
theorem dX10_rehearsals_69 : decode cX10_rehearsals 69 = .ok (.getfield 78, 3) := by decide +kernel
theorem dX10_rehearsals_72 : decode cX10_rehearsals 72 = .ok (.getfield 240, 3) := by decide +kernel
theorem dX10_rehearsals_75 : decode cX10_rehearsals 75 = .ok (.ireturn, 1) := by decide +kernel
theorem dX10_rehearsals_76 : decode cX10_rehearsals 76 = .ok (.aload_n 0, 1) := by decide +kernel
theorem dX10_rehearsals_77 : decode cX10_rehearsals 77 = .ok (.getfield 78, 3) := by decide +kernel
theorem dX10_rehearsals_80 : decode cX10_rehearsals 80 = .ok (.getfield 243, 3) := by decide +kernel
theorem dX10_rehearsals_83 : decode cX10_rehearsals 83 = .ok (.ireturn, 1) := by decide +kernel
theorem dX10_rehearsals_84 : decode cX10_rehearsals 84 = .ok (.iload_n 2, 1) := by decide +kernel
theorem dX10_rehearsals_85 : decode cX10_rehearsals 85 = .ok (.aload_n 0, 1) := by decide +kernel
theorem dX10_rehearsals_86 : decode cX10_rehearsals 86 = .ok (.getfield 78, 3) := by decide +kernel
theorem dX10_rehearsals_89 : decode cX10_rehearsals 89 = .ok (.getfield 243, 3) := by decide +kernel
theorem dX10_rehearsals_92 : decode cX10_rehearsals 92 = .ok (.if_icmp .ge 15, 3) := by decide +kernel
theorem dX10_rehearsals_95 : decode cX10_rehearsals 95 = .ok (.aload_n 0, 1) := by decide +kernel
theorem dX10_rehearsals_96 : decode cX10_rehearsals 96 = .ok (.getfield 78, 3) := by decide +kernel
theorem dX10_rehearsals_99 : decode cX10_rehearsals 99 = .ok (.getfield 246, 3) := by decide +kernel
theorem dX10_rehearsals_102 : decode cX10_rehearsals 102 = .ok (.iload_n 2, 1) := by decide +kernel
theorem dX10_rehearsals_103 : decode cX10_rehearsals 103 = .ok (.iaload, 1) := by decide +kernel
theorem dX10_rehearsals_104 : decode cX10_rehearsals 104 = .ok (.goto 5, 3) := by decide +kernel
theorem dX10_rehearsals_107 : decode cX10_rehearsals 107 = .ok (.bipush (-4), 2) := by decide +kernel
theorem dX10_rehearsals_109 : decode cX10_rehearsals 109 = .ok (.ireturn, 1) := by decide +kernel
theorem dX10_rest_0 : decode cX10_rest 0 = .ok (.iload_n 1, 1) := by decide +kernel
theorem dX10_rest_1 : decode cX10_rest 1 = .ok (.iconst 1, 1) := by decide +kernel
theorem dX10_rest_2 : decode cX10_rest 2 = .ok (.if_icmp .lt 9, 3) := by decide +kernel
theorem dX10_rest_5 : decode cX10_rest 5 = .ok (.iload_n 1, 1) := by decide +kernel
theorem dX10_rest_6 : decode cX10_rest 6 = .ok (.bipush 99, 2) := by decide +kernel
theorem dX10_rest_8 : decode cX10_rest 8 = .ok (.if_icmp .le 5, 3) := by decide +kernel
theorem dX10_rest_11 : decode cX10_rest 11 = .ok (.iconst (-1), 1) := by decide +kernel
theorem dX10_rest_12 : decode cX10_rest 12 = .ok (.ireturn, 1) := by decide +kernel
theorem dX10_rest_13 : decode cX10_rest 13 = .ok (.aload_n 0, 1) := by decide +kernel
theorem dX10_rest_14 : decode cX10_rest 14 = .ok (.getfield 33, 3) := by decide +kernel
theorem dX10_rest_17 : decode cX10_rest 17 = .ok (.dup, 1) := by decide +kernel
theorem dX10_rest_18 : decode cX10_rest 18 = .ok (.getfield 249, 3) := by decide +kernel
theorem dX10_rest_21 : decode cX10_rest 21 = .ok (.iload_n 1, 1) := by decide +kernel
theorem dX10_rest_22 : decode cX10_rest 22 = .ok (.iadd, 1) := by decide +kernel
theorem dX10_rest_23 : decode cX10_rest 23 = .ok (.putfield 249, 3) := by decide +kernel
theorem dX10_rest_26 : decode cX10_rest 26 = .ok (.aload_n 0, 1) := by decide +kernel
theorem dX10_rest_27 : decode cX10_rest 27 = .ok (.getfield 33, 3) := by decide +kernel
theorem dX10_rest_30 : decode cX10_rest 30 = .ok (.getfield 249, 3) := by decide +kernel
theorem dX10_rest_33 : decode cX10_rest 33 = .ok (.ireturn, 1) := by decide +kernel
theorem dX10_cold_0 : decode cX10_cold 0 = .ok (.iload_n 3, 1) := by decide +kernel
theorem dX10_cold_1 : decode cX10_cold 1 = .ok (.ifCond .lt 20, 3) := by decide +kernel
theorem dX10_cold_4 : decode cX10_cold 4 = .ok (.iload_n 3, 1) := by decide +kernel
theorem dX10_cold_5 : decode cX10_cold 5 = .ok (.bipush 10, 2) := by decide +kernel
theorem dX10_cold_7 : decode cX10_cold 7 = .ok (.if_icmp .ge 14, 3) := by decide +kernel
theorem dX10_cold_10 : decode cX10_cold 10 = .ok (.aload_n 0, 1) := by decide +kernel
theorem dX10_cold_11 : decode cX10_cold 11 = .ok (.getfield 23, 3) := by decide +kernel
theorem dX10_cold_14 : decode cX10_cold 14 = .ok (.iload_n 3, 1) := by decide +kernel
theorem dX10_cold_15 : decode cX10_cold 15 = .ok (.invokevirtual 131, 3) := by decide +kernel
theorem dX10_cold_18 : decode cX10_cold 18 = .ok (.goto 20, 3) := by decide +kernel
theorem dX10_cold_21 : decode cX10_cold 21 = .ok (.iload_n 3, 1) := by decide +kernel
theorem dX10_cold_22 : decode cX10_cold 22 = .ok (.bipush 10, 2) := by decide +kernel
theorem dX10_cold_24 : decode cX10_cold 24 = .ok (.if_icmp .lt 13, 3) := by decide +kernel
theorem dX10_cold_27 : decode cX10_cold 27 = .ok (.iload_n 3, 1) := by decide +kernel
theorem dX10_cold_28 : decode cX10_cold 28 = .ok (.bipush 12, 2) := by decide +kernel
theorem dX10_cold_30 : decode cX10_cold 30 = .ok (.if_icmp .gt 7, 3) := by decide +kernel
theorem dX10_cold_33 : decode cX10_cold 33 = .ok (.iconst 1, 1) := by decide +kernel
theorem dX10_cold_34 : decode cX10_cold 34 = .ok (.goto 4, 3) := by decide +kernel
theorem dX10_cold_37 : decode cX10_cold 37 = .ok (.iconst 0, 1) := by decide +kernel
theorem dX10_cold_38 : decode cX10_cold 38 = .ok (.istore 4, 2) := by decide +kernel
theorem dX10_cold_40 : decode cX10_cold 40 = .ok (.iload 4, 2) := by decide +kernel
theorem dX10_cold_42 : decode cX10_cold 42 = .ok (.ifCond .eq 24, 3) := by decide +kernel
theorem dX10_cold_45 : decode cX10_cold 45 = .ok (.aload_n 0, 1) := by decide +kernel
theorem dX10_cold_46 : decode cX10_cold 46 = .ok (.getfield 23, 3) := by decide +kernel
theorem dX10_cold_49 : decode cX10_cold 49 = .ok (.iload_n 1, 1) := by decide +kernel
theorem dX10_cold_50 : decode cX10_cold 50 = .ok (.invokevirtual 184, 3) := by decide +kernel
theorem dX10_cold_53 : decode cX10_cold 53 = .ok (.ifCond .eq 13, 3) := by decide +kernel
theorem dX10_cold_56 : decode cX10_cold 56 = .ok (.iload_n 2, 1) := by decide +kernel
theorem dX10_cold_57 : decode cX10_cold 57 = .ok (.ifCond .lt 9, 3) := by decide +kernel
theorem dX10_cold_60 : decode cX10_cold 60 = .ok (.iload_n 2, 1) := by decide +kernel
theorem dX10_cold_61 : decode cX10_cold 61 = .ok (.bipush 14, 2) := by decide +kernel
theorem dX10_cold_63 : decode cX10_cold 63 = .ok (.if_icmp .le 5, 3) := by decide +kernel
theorem dX10_cold_66 : decode cX10_cold 66 = .ok (.iconst (-1), 1) := by decide +kernel
theorem dX10_cold_67 : decode cX10_cold 67 = .ok (.ireturn, 1) := by decide +kernel
theorem dX10_cold_68 : decode cX10_cold 68 = .ok (.aload_n 0, 1) := by decide +kernel
theorem dX10_cold_69 : decode cX10_cold 69 = .ok (.getfield 71, 3) := by decide +kernel
theorem dX10_cold_72 : decode cX10_cold 72 = .ok (.aload_n 0, 1) := by decide +kernel
theorem dX10_cold_73 : decode cX10_cold 73 = .ok (.getfield 23, 3) := by decide +kernel
theorem dX10_cold_76 : decode cX10_cold 76 = .ok (.iload_n 1, 1) := by decide +kernel
theorem dX10_cold_77 : decode cX10_cold 77 = .ok (.iload_n 2, 1) := by decide +kernel
theorem dX10_cold_78 : decode cX10_cold 78 = .ok (.invokevirtual 252, 3) := by decide +kernel
theorem dX10_cold_81 : decode cX10_cold 81 = .ok (.iload_n 3, 1) := by decide +kernel
theorem dX10_cold_82 : decode cX10_cold 82 = .ok (.tableswitch 74 10 12 #[26, 42, 54], 26) := by decide +kernel
theorem dX10_cold_108 : decode cX10_cold 108 = .ok (.aload_n 0, 1) := by decide +kernel
theorem dX10_cold_109 : decode cX10_cold 109 = .ok (.getfield 71, 3) := by decide +kernel
theorem dX10_cold_112 : decode cX10_cold 112 = .ok (.aload_n 0, 1) := by decide +kernel
theorem dX10_cold_113 : decode cX10_cold 113 = .ok (.getfield 23, 3) := by decide +kernel
theorem dX10_cold_116 : decode cX10_cold 116 = .ok (.aload_n 0, 1) := by decide +kernel
theorem dX10_cold_117 : decode cX10_cold 117 = .ok (.getfield 57, 3) := by decide +kernel
theorem dX10_cold_120 : decode cX10_cold 120 = .ok (.invokevirtual 256, 3) := by decide +kernel
theorem dX10_cold_123 : decode cX10_cold 123 = .ok (.ireturn, 1) := by decide +kernel
theorem dX10_cold_124 : decode cX10_cold 124 = .ok (.aload_n 0, 1) := by decide +kernel
theorem dX10_cold_125 : decode cX10_cold 125 = .ok (.getfield 71, 3) := by decide +kernel
theorem dX10_cold_128 : decode cX10_cold 128 = .ok (.aload_n 0, 1) := by decide +kernel
theorem dX10_cold_129 : decode cX10_cold 129 = .ok (.getfield 23, 3) := by decide +kernel
theorem dX10_cold_132 : decode cX10_cold 132 = .ok (.invokevirtual 260, 3) := by decide +kernel
theorem dX10_cold_135 : decode cX10_cold 135 = .ok (.ireturn, 1) := by decide +kernel
theorem dX10_cold_136 : decode cX10_cold 136 = .ok (.aload_n 0, 1) := by decide +kernel
theorem dX10_cold_137 : decode cX10_cold 137 = .ok (.getfield 71, 3) := by decide +kernel
theorem dX10_cold_140 : decode cX10_cold 140 = .ok (.getfield 264, 3) := by decide +kernel
theorem dX10_cold_143 : decode cX10_cold 143 = .ok (.aload_n 0, 1) := by decide +kernel
theorem dX10_cold_144 : decode cX10_cold 144 = .ok (.getfield 71, 3) := by decide +kernel
theorem dX10_cold_147 : decode cX10_cold 147 = .ok (.aload_n 0, 1) := by decide +kernel
theorem dX10_cold_148 : decode cX10_cold 148 = .ok (.getfield 23, 3) := by decide +kernel
theorem dX10_cold_151 : decode cX10_cold 151 = .ok (.invokevirtual 260, 3) := by decide +kernel
theorem dX10_cold_154 : decode cX10_cold 154 = .ok (.iaload, 1) := by decide +kernel
theorem dX10_cold_155 : decode cX10_cold 155 = .ok (.ireturn, 1) := by decide +kernel
theorem dX10_cold_156 : decode cX10_cold 156 = .ok (.aload_n 0, 1) := by decide +kernel
theorem dX10_cold_157 : decode cX10_cold 157 = .ok (.getfield 71, 3) := by decide +kernel
theorem dX10_cold_160 : decode cX10_cold 160 = .ok (.aload_n 0, 1) := by decide +kernel
theorem dX10_cold_161 : decode cX10_cold 161 = .ok (.getfield 23, 3) := by decide +kernel
theorem dX10_cold_164 : decode cX10_cold 164 = .ok (.iload_n 3, 1) := by decide +kernel
theorem dX10_cold_165 : decode cX10_cold 165 = .ok (.invokevirtual 267, 3) := by decide +kernel
theorem dX10_cold_168 : decode cX10_cold 168 = .ok (.ireturn, 1) := by decide +kernel
theorem dX10_weak_0 : decode cX10_weak 0 = .ok (.iload_n 1, 1) := by decide +kernel
theorem dX10_weak_1 : decode cX10_weak 1 = .ok (.iconst 1, 1) := by decide +kernel
theorem dX10_weak_2 : decode cX10_weak 2 = .ok (.if_icmp .lt 17, 3) := by decide +kernel
theorem dX10_weak_5 : decode cX10_weak 5 = .ok (.iload_n 1, 1) := by decide +kernel
theorem dX10_weak_6 : decode cX10_weak 6 = .ok (.iconst 2, 1) := by decide +kernel
theorem dX10_weak_7 : decode cX10_weak 7 = .ok (.if_icmp .gt 12, 3) := by decide +kernel
theorem dX10_weak_10 : decode cX10_weak 10 = .ok (.iload_n 2, 1) := by decide +kernel
theorem dX10_weak_11 : decode cX10_weak 11 = .ok (.ifCond .lt 8, 3) := by decide +kernel
theorem dX10_weak_14 : decode cX10_weak 14 = .ok (.iload_n 2, 1) := by decide +kernel
theorem dX10_weak_15 : decode cX10_weak 15 = .ok (.iconst 1, 1) := by decide +kernel
theorem dX10_weak_16 : decode cX10_weak 16 = .ok (.if_icmp .le 5, 3) := by decide +kernel
theorem dX10_weak_19 : decode cX10_weak 19 = .ok (.iconst (-1), 1) := by decide +kernel
theorem dX10_weak_20 : decode cX10_weak 20 = .ok (.ireturn, 1) := by decide +kernel
theorem dX10_weak_21 : decode cX10_weak 21 = .ok (.aload_n 0, 1) := by decide +kernel
theorem dX10_weak_22 : decode cX10_weak 22 = .ok (.getfield 57, 3) := by decide +kernel
theorem dX10_weak_25 : decode cX10_weak 25 = .ok (.aload_n 0, 1) := by decide +kernel
theorem dX10_weak_26 : decode cX10_weak 26 = .ok (.getfield 23, 3) := by decide +kernel
theorem dX10_weak_29 : decode cX10_weak 29 = .ok (.iload_n 1, 1) := by decide +kernel
theorem dX10_weak_30 : decode cX10_weak 30 = .ok (.invokevirtual 270, 3) := by decide +kernel
theorem dX10_weak_33 : decode cX10_weak 33 = .ok (.iload_n 2, 1) := by decide +kernel
theorem dX10_weak_34 : decode cX10_weak 34 = .ok (.ifCond .ne 11, 3) := by decide +kernel
theorem dX10_weak_37 : decode cX10_weak 37 = .ok (.aload_n 0, 1) := by decide +kernel
theorem dX10_weak_38 : decode cX10_weak 38 = .ok (.getfield 57, 3) := by decide +kernel
theorem dX10_weak_41 : decode cX10_weak 41 = .ok (.getfield 274, 3) := by decide +kernel
theorem dX10_weak_44 : decode cX10_weak 44 = .ok (.ireturn, 1) := by decide +kernel
theorem dX10_weak_45 : decode cX10_weak 45 = .ok (.aload_n 0, 1) := by decide +kernel
theorem dX10_weak_46 : decode cX10_weak 46 = .ok (.getfield 57, 3) := by decide +kernel
theorem dX10_weak_49 : decode cX10_weak 49 = .ok (.getfield 274, 3) := by decide +kernel
theorem dX10_weak_52 : decode cX10_weak 52 = .ok (.ifCond .le 15, 3) := by decide +kernel
theorem dX10_weak_55 : decode cX10_weak 55 = .ok (.aload_n 0, 1) := by decide +kernel
theorem dX10_weak_56 : decode cX10_weak 56 = .ok (.getfield 57, 3) := by decide +kernel
theorem dX10_weak_59 : decode cX10_weak 59 = .ok (.getfield 277, 3) := by decide +kernel
theorem dX10_weak_62 : decode cX10_weak 62 = .ok (.iconst 0, 1) := by decide +kernel
theorem dX10_weak_63 : decode cX10_weak 63 = .ok (.iaload, 1) := by decide +kernel
theorem dX10_weak_64 : decode cX10_weak 64 = .ok (.goto 5, 3) := by decide +kernel
theorem dX10_weak_67 : decode cX10_weak 67 = .ok (.bipush (-4), 2) := by decide +kernel
theorem dX10_weak_69 : decode cX10_weak 69 = .ok (.ireturn, 1) := by decide +kernel
theorem dX10_engaged_0 : decode cX10_engaged 0 = .ok (.iload_n 1, 1) := by decide +kernel
theorem dX10_engaged_1 : decode cX10_engaged 1 = .ok (.iconst 1, 1) := by decide +kernel
theorem dX10_engaged_2 : decode cX10_engaged 2 = .ok (.if_icmp .lt 17, 3) := by decide +kernel
theorem dX10_engaged_5 : decode cX10_engaged 5 = .ok (.iload_n 1, 1) := by decide +kernel
theorem dX10_engaged_6 : decode cX10_engaged 6 = .ok (.iconst 2, 1) := by decide +kernel
theorem dX10_engaged_7 : decode cX10_engaged 7 = .ok (.if_icmp .gt 12, 3) := by decide +kernel
theorem dX10_engaged_10 : decode cX10_engaged 10 = .ok (.iload_n 2, 1) := by decide +kernel
theorem dX10_engaged_11 : decode cX10_engaged 11 = .ok (.ifCond .lt 8, 3) := by decide +kernel
theorem dX10_engaged_14 : decode cX10_engaged 14 = .ok (.iload_n 2, 1) := by decide +kernel
theorem dX10_engaged_15 : decode cX10_engaged 15 = .ok (.iconst 1, 1) := by decide +kernel
theorem dX10_engaged_16 : decode cX10_engaged 16 = .ok (.if_icmp .le 5, 3) := by decide +kernel
theorem dX10_engaged_19 : decode cX10_engaged 19 = .ok (.iconst (-1), 1) := by decide +kernel
theorem dX10_engaged_20 : decode cX10_engaged 20 = .ok (.ireturn, 1) := by decide +kernel
theorem dX10_engaged_21 : decode cX10_engaged 21 = .ok (.aload_n 0, 1) := by decide +kernel
theorem dX10_engaged_22 : decode cX10_engaged 22 = .ok (.getfield 64, 3) := by decide +kernel
theorem dX10_engaged_25 : decode cX10_engaged 25 = .ok (.aload_n 0, 1) := by decide +kernel
theorem dX10_engaged_26 : decode cX10_engaged 26 = .ok (.getfield 23, 3) := by decide +kernel
theorem dX10_engaged_29 : decode cX10_engaged 29 = .ok (.aload_n 0, 1) := by decide +kernel
theorem dX10_engaged_30 : decode cX10_engaged 30 = .ok (.getfield 57, 3) := by decide +kernel
theorem dX10_engaged_33 : decode cX10_engaged 33 = .ok (.iload_n 1, 1) := by decide +kernel
theorem dX10_engaged_34 : decode cX10_engaged 34 = .ok (.invokevirtual 280, 3) := by decide +kernel
theorem dX10_engaged_37 : decode cX10_engaged 37 = .ok (.aload_n 0, 1) := by decide +kernel
theorem dX10_engaged_38 : decode cX10_engaged 38 = .ok (.getfield 64, 3) := by decide +kernel
theorem dX10_engaged_41 : decode cX10_engaged 41 = .ok (.iload_n 1, 1) := by decide +kernel
theorem dX10_engaged_42 : decode cX10_engaged 42 = .ok (.aload_n 0, 1) := by decide +kernel
theorem dX10_engaged_43 : decode cX10_engaged 43 = .ok (.getfield 57, 3) := by decide +kernel
theorem dX10_engaged_46 : decode cX10_engaged 46 = .ok (.getfield 274, 3) := by decide +kernel
theorem dX10_engaged_49 : decode cX10_engaged 49 = .ok (.invokevirtual 284, 3) := by decide +kernel
theorem dX10_engaged_52 : decode cX10_engaged 52 = .ok (.iload_n 2, 1) := by decide +kernel
theorem dX10_engaged_53 : decode cX10_engaged 53 = .ok (.ifCond .eq 15, 3) := by decide +kernel
theorem dX10_engaged_56 : decode cX10_engaged 56 = .ok (.aload_n 0, 1) := by decide +kernel
theorem dX10_engaged_57 : decode cX10_engaged 57 = .ok (.getfield 64, 3) := by decide +kernel
theorem dX10_engaged_60 : decode cX10_engaged 60 = .ok (.getfield 287, 3) := by decide +kernel
theorem dX10_engaged_63 : decode cX10_engaged 63 = .ok (.bipush (-4), 2) := by decide +kernel
theorem dX10_engaged_65 : decode cX10_engaged 65 = .ok (.if_icmp .ne 13, 3) := by decide +kernel
theorem dX10_engaged_68 : decode cX10_engaged 68 = .ok (.aload_n 0, 1) := by decide +kernel
theorem dX10_engaged_69 : decode cX10_engaged 69 = .ok (.getfield 64, 3) := by decide +kernel
theorem dX10_engaged_72 : decode cX10_engaged 72 = .ok (.getfield 287, 3) := by decide +kernel
theorem dX10_engaged_75 : decode cX10_engaged 75 = .ok (.goto 10, 3) := by decide +kernel
theorem dX10_engaged_78 : decode cX10_engaged 78 = .ok (.aload_n 0, 1) := by decide +kernel
theorem dX10_engaged_79 : decode cX10_engaged 79 = .ok (.getfield 64, 3) := by decide +kernel
theorem dX10_engaged_82 : decode cX10_engaged 82 = .ok (.getfield 290, 3) := by decide +kernel
theorem dX10_engaged_85 : decode cX10_engaged 85 = .ok (.ireturn, 1) := by decide +kernel
theorem dX10_fewest_0 : decode cX10_fewest 0 = .ok (.aload_n 0, 1) := by decide +kernel
theorem dX10_fewest_1 : decode cX10_fewest 1 = .ok (.getfield 64, 3) := by decide +kernel
theorem dX10_fewest_4 : decode cX10_fewest 4 = .ok (.aload_n 0, 1) := by decide +kernel
theorem dX10_fewest_5 : decode cX10_fewest 5 = .ok (.getfield 23, 3) := by decide +kernel
theorem dX10_fewest_8 : decode cX10_fewest 8 = .ok (.aload_n 0, 1) := by decide +kernel
theorem dX10_fewest_9 : decode cX10_fewest 9 = .ok (.getfield 57, 3) := by decide +kernel
theorem dX10_fewest_12 : decode cX10_fewest 12 = .ok (.iconst 2, 1) := by decide +kernel
theorem dX10_fewest_13 : decode cX10_fewest 13 = .ok (.invokevirtual 280, 3) := by decide +kernel
theorem dX10_fewest_16 : decode cX10_fewest 16 = .ok (.aload_n 0, 1) := by decide +kernel
theorem dX10_fewest_17 : decode cX10_fewest 17 = .ok (.getfield 64, 3) := by decide +kernel
theorem dX10_fewest_20 : decode cX10_fewest 20 = .ok (.aload_n 0, 1) := by decide +kernel
theorem dX10_fewest_21 : decode cX10_fewest 21 = .ok (.getfield 23, 3) := by decide +kernel
theorem dX10_fewest_24 : decode cX10_fewest 24 = .ok (.aload_n 0, 1) := by decide +kernel
theorem dX10_fewest_25 : decode cX10_fewest 25 = .ok (.getfield 57, 3) := by decide +kernel
theorem dX10_fewest_28 : decode cX10_fewest 28 = .ok (.invokevirtual 293, 3) := by decide +kernel
theorem dX10_fewest_31 : decode cX10_fewest 31 = .ok (.ireturn, 1) := by decide +kernel
theorem dX10_night_0 : decode cX10_night 0 = .ok (.aload_n 0, 1) := by decide +kernel
theorem dX10_night_1 : decode cX10_night 1 = .ok (.getfield 23, 3) := by decide +kernel
theorem dX10_night_4 : decode cX10_night 4 = .ok (.iload_n 1, 1) := by decide +kernel
theorem dX10_night_5 : decode cX10_night 5 = .ok (.invokevirtual 184, 3) := by decide +kernel
theorem dX10_night_8 : decode cX10_night 8 = .ok (.ifCond .ne 5, 3) := by decide +kernel
theorem dX10_night_11 : decode cX10_night 11 = .ok (.iconst (-1), 1) := by decide +kernel
theorem dX10_night_12 : decode cX10_night 12 = .ok (.ireturn, 1) := by decide +kernel
theorem dX10_night_13 : decode cX10_night 13 = .ok (.aload_n 0, 1) := by decide +kernel
theorem dX10_night_14 : decode cX10_night 14 = .ok (.getfield 50, 3) := by decide +kernel
theorem dX10_night_17 : decode cX10_night 17 = .ok (.aload_n 0, 1) := by decide +kernel
theorem dX10_night_18 : decode cX10_night 18 = .ok (.getfield 23, 3) := by decide +kernel
theorem dX10_night_21 : decode cX10_night 21 = .ok (.aload_n 0, 1) := by decide +kernel
theorem dX10_night_22 : decode cX10_night 22 = .ok (.getfield 33, 3) := by decide +kernel
theorem dX10_night_25 : decode cX10_night 25 = .ok (.iload_n 1, 1) := by decide +kernel
theorem dX10_night_26 : decode cX10_night 26 = .ok (.iconst 0, 1) := by decide +kernel
theorem dX10_night_27 : decode cX10_night 27 = .ok (.invokevirtual 194, 3) := by decide +kernel
theorem dX10_night_30 : decode cX10_night 30 = .ok (.ifCond .ne 6, 3) := by decide +kernel
theorem dX10_night_33 : decode cX10_night 33 = .ok (.bipush (-4), 2) := by decide +kernel
theorem dX10_night_35 : decode cX10_night 35 = .ok (.ireturn, 1) := by decide +kernel
theorem dX10_night_36 : decode cX10_night 36 = .ok (.iconst 0, 1) := by decide +kernel
theorem dX10_night_37 : decode cX10_night 37 = .ok (.istore_n 2, 1) := by decide +kernel
theorem dX10_night_38 : decode cX10_night 38 = .ok (.iload_n 2, 1) := by decide +kernel
theorem dX10_night_39 : decode cX10_night 39 = .ok (.aload_n 0, 1) := by decide +kernel
theorem dX10_night_40 : decode cX10_night 40 = .ok (.getfield 23, 3) := by decide +kernel
theorem dX10_night_43 : decode cX10_night 43 = .ok (.getfield 110, 3) := by decide +kernel
theorem dX10_night_46 : decode cX10_night 46 = .ok (.if_icmp .ge 29, 3) := by decide +kernel
theorem dX10_night_49 : decode cX10_night 49 = .ok (.aload_n 0, 1) := by decide +kernel
theorem dX10_night_50 : decode cX10_night 50 = .ok (.getfield 33, 3) := by decide +kernel
theorem dX10_night_53 : decode cX10_night 53 = .ok (.aload_n 0, 1) := by decide +kernel
theorem dX10_night_54 : decode cX10_night 54 = .ok (.getfield 23, 3) := by decide +kernel
theorem dX10_night_57 : decode cX10_night 57 = .ok (.iload_n 2, 1) := by decide +kernel
theorem dX10_night_58 : decode cX10_night 58 = .ok (.aload_n 0, 1) := by decide +kernel
theorem dX10_night_59 : decode cX10_night 59 = .ok (.getfield 50, 3) := by decide +kernel
theorem dX10_night_62 : decode cX10_night 62 = .ok (.iload_n 2, 1) := by decide +kernel
theorem dX10_night_63 : decode cX10_night 63 = .ok (.invokevirtual 296, 3) := by decide +kernel
theorem dX10_night_66 : decode cX10_night 66 = .ok (.invokevirtual 299, 3) := by decide +kernel
theorem dX10_night_69 : decode cX10_night 69 = .ok (.iinc 2 1, 3) := by decide +kernel
theorem dX10_night_72 : decode cX10_night 72 = .ok (.goto (-34), 3) := by decide +kernel
theorem dX10_night_75 : decode cX10_night 75 = .ok (.aload_n 0, 1) := by decide +kernel
theorem dX10_night_76 : decode cX10_night 76 = .ok (.getfield 33, 3) := by decide +kernel
theorem dX10_night_79 : decode cX10_night 79 = .ok (.dup, 1) := by decide +kernel
theorem dX10_night_80 : decode cX10_night 80 = .ok (.getfield 249, 3) := by decide +kernel
theorem dX10_night_83 : decode cX10_night 83 = .ok (.iconst 1, 1) := by decide +kernel
theorem dX10_night_84 : decode cX10_night 84 = .ok (.iadd, 1) := by decide +kernel
theorem dX10_night_85 : decode cX10_night 85 = .ok (.putfield 249, 3) := by decide +kernel
theorem dX10_night_88 : decode cX10_night 88 = .ok (.aload_n 0, 1) := by decide +kernel
theorem dX10_night_89 : decode cX10_night 89 = .ok (.getfield 50, 3) := by decide +kernel
theorem dX10_night_92 : decode cX10_night 92 = .ok (.getfield 198, 3) := by decide +kernel
theorem dX10_night_95 : decode cX10_night 95 = .ok (.ireturn, 1) := by decide +kernel
theorem dX10_owed_0 : decode cX10_owed 0 = .ok (.aload_n 0, 1) := by decide +kernel
theorem dX10_owed_1 : decode cX10_owed 1 = .ok (.getfield 23, 3) := by decide +kernel
theorem dX10_owed_4 : decode cX10_owed 4 = .ok (.iload_n 1, 1) := by decide +kernel
theorem dX10_owed_5 : decode cX10_owed 5 = .ok (.invokevirtual 131, 3) := by decide +kernel
theorem dX10_owed_8 : decode cX10_owed 8 = .ok (.ifCond .eq 15, 3) := by decide +kernel
theorem dX10_owed_11 : decode cX10_owed 11 = .ok (.aload_n 0, 1) := by decide +kernel
theorem dX10_owed_12 : decode cX10_owed 12 = .ok (.getfield 33, 3) := by decide +kernel
theorem dX10_owed_15 : decode cX10_owed 15 = .ok (.getfield 302, 3) := by decide +kernel
theorem dX10_owed_18 : decode cX10_owed 18 = .ok (.iload_n 1, 1) := by decide +kernel
theorem dX10_owed_19 : decode cX10_owed 19 = .ok (.iaload, 1) := by decide +kernel
theorem dX10_owed_20 : decode cX10_owed 20 = .ok (.goto 4, 3) := by decide +kernel
theorem dX10_owed_23 : decode cX10_owed 23 = .ok (.iconst (-1), 1) := by decide +kernel
theorem dX10_owed_24 : decode cX10_owed 24 = .ok (.ireturn, 1) := by decide +kernel
theorem dX10_told_0 : decode cX10_told 0 = .ok (.aload_n 0, 1) := by decide +kernel
theorem dX10_told_1 : decode cX10_told 1 = .ok (.getfield 23, 3) := by decide +kernel
theorem dX10_told_4 : decode cX10_told 4 = .ok (.iload_n 1, 1) := by decide +kernel
theorem dX10_told_5 : decode cX10_told 5 = .ok (.invokevirtual 131, 3) := by decide +kernel
theorem dX10_told_8 : decode cX10_told 8 = .ok (.ifCond .eq 14, 3) := by decide +kernel
theorem dX10_told_11 : decode cX10_told 11 = .ok (.iload_n 2, 1) := by decide +kernel
theorem dX10_told_12 : decode cX10_told 12 = .ok (.ifCond .lt 10, 3) := by decide +kernel
theorem dX10_told_15 : decode cX10_told 15 = .ok (.iload_n 2, 1) := by decide +kernel
theorem dX10_told_16 : decode cX10_told 16 = .ok (.ldc_w 305, 3) := by decide +kernel
theorem dX10_told_19 : decode cX10_told 19 = .ok (.if_icmp .le 5, 3) := by decide +kernel
theorem dX10_told_22 : decode cX10_told 22 = .ok (.iconst (-1), 1) := by decide +kernel
theorem dX10_told_23 : decode cX10_told 23 = .ok (.ireturn, 1) := by decide +kernel
theorem dX10_told_24 : decode cX10_told 24 = .ok (.aload_n 0, 1) := by decide +kernel
theorem dX10_told_25 : decode cX10_told 25 = .ok (.getfield 43, 3) := by decide +kernel
theorem dX10_told_28 : decode cX10_told 28 = .ok (.iload_n 1, 1) := by decide +kernel
theorem dX10_told_29 : decode cX10_told 29 = .ok (.iaload, 1) := by decide +kernel
theorem dX10_told_30 : decode cX10_told 30 = .ok (.istore_n 3, 1) := by decide +kernel
theorem dX10_told_31 : decode cX10_told 31 = .ok (.aload_n 0, 1) := by decide +kernel
theorem dX10_told_32 : decode cX10_told 32 = .ok (.getfield 43, 3) := by decide +kernel
theorem dX10_told_35 : decode cX10_told 35 = .ok (.iload_n 1, 1) := by decide +kernel
theorem dX10_told_36 : decode cX10_told 36 = .ok (.iload_n 2, 1) := by decide +kernel
theorem dX10_told_37 : decode cX10_told 37 = .ok (.iastore, 1) := by decide +kernel
theorem dX10_told_38 : decode cX10_told 38 = .ok (.iload_n 3, 1) := by decide +kernel
theorem dX10_told_39 : decode cX10_told 39 = .ok (.ireturn, 1) := by decide +kernel
theorem dX10_wrong_0 : decode cX10_wrong 0 = .ok (.iconst 0, 1) := by decide +kernel
theorem dX10_wrong_1 : decode cX10_wrong 1 = .ok (.istore_n 1, 1) := by decide +kernel
theorem dX10_wrong_2 : decode cX10_wrong 2 = .ok (.iload_n 1, 1) := by decide +kernel
theorem dX10_wrong_3 : decode cX10_wrong 3 = .ok (.aload_n 0, 1) := by decide +kernel
theorem dX10_wrong_4 : decode cX10_wrong 4 = .ok (.getfield 23, 3) := by decide +kernel
theorem dX10_wrong_7 : decode cX10_wrong 7 = .ok (.getfield 110, 3) := by decide +kernel
theorem dX10_wrong_10 : decode cX10_wrong 10 = .ok (.if_icmp .ge 29, 3) := by decide +kernel
theorem dX10_wrong_13 : decode cX10_wrong 13 = .ok (.aload_n 0, 1) := by decide +kernel
theorem dX10_wrong_14 : decode cX10_wrong 14 = .ok (.getfield 33, 3) := by decide +kernel
theorem dX10_wrong_17 : decode cX10_wrong 17 = .ok (.getfield 302, 3) := by decide +kernel
theorem dX10_wrong_20 : decode cX10_wrong 20 = .ok (.iload_n 1, 1) := by decide +kernel
theorem dX10_wrong_21 : decode cX10_wrong 21 = .ok (.iaload, 1) := by decide +kernel
theorem dX10_wrong_22 : decode cX10_wrong 22 = .ok (.aload_n 0, 1) := by decide +kernel
theorem dX10_wrong_23 : decode cX10_wrong 23 = .ok (.getfield 43, 3) := by decide +kernel
theorem dX10_wrong_26 : decode cX10_wrong 26 = .ok (.iload_n 1, 1) := by decide +kernel
theorem dX10_wrong_27 : decode cX10_wrong 27 = .ok (.iaload, 1) := by decide +kernel
theorem dX10_wrong_28 : decode cX10_wrong 28 = .ok (.if_icmp .eq 5, 3) := by decide +kernel
theorem dX10_wrong_31 : decode cX10_wrong 31 = .ok (.iload_n 1, 1) := by decide +kernel
theorem dX10_wrong_32 : decode cX10_wrong 32 = .ok (.ireturn, 1) := by decide +kernel
theorem dX10_wrong_33 : decode cX10_wrong 33 = .ok (.iinc 1 1, 3) := by decide +kernel
theorem dX10_wrong_36 : decode cX10_wrong 36 = .ok (.goto (-34), 3) := by decide +kernel
theorem dX10_wrong_39 : decode cX10_wrong 39 = .ok (.bipush (-4), 2) := by decide +kernel
theorem dX10_wrong_41 : decode cX10_wrong 41 = .ok (.ireturn, 1) := by decide +kernel
theorem dX10_run_0 : decode cX10_run 0 = .ok (.iload_n 1, 1) := by decide +kernel
theorem dX10_run_1 : decode cX10_run 1 = .ok (.iconst 1, 1) := by decide +kernel
theorem dX10_run_2 : decode cX10_run 2 = .ok (.if_icmp .lt 31, 3) := by decide +kernel
theorem dX10_run_5 : decode cX10_run 5 = .ok (.iload_n 1, 1) := by decide +kernel
theorem dX10_run_6 : decode cX10_run 6 = .ok (.bipush 20, 2) := by decide +kernel
theorem dX10_run_8 : decode cX10_run 8 = .ok (.if_icmp .gt 25, 3) := by decide +kernel
theorem dX10_run_11 : decode cX10_run 11 = .ok (.iload_n 2, 1) := by decide +kernel
theorem dX10_run_12 : decode cX10_run 12 = .ok (.ifCond .lt 21, 3) := by decide +kernel
theorem dX10_run_15 : decode cX10_run 15 = .ok (.iload_n 2, 1) := by decide +kernel
theorem dX10_run_16 : decode cX10_run 16 = .ok (.sipush 999, 3) := by decide +kernel
theorem dX10_run_19 : decode cX10_run 19 = .ok (.if_icmp .gt 14, 3) := by decide +kernel
theorem dX10_run_22 : decode cX10_run 22 = .ok (.aload_n 0, 1) := by decide +kernel
theorem dX10_run_23 : decode cX10_run 23 = .ok (.getfield 23, 3) := by decide +kernel
theorem dX10_run_26 : decode cX10_run 26 = .ok (.iload_n 3, 1) := by decide +kernel
theorem dX10_run_27 : decode cX10_run 27 = .ok (.invokevirtual 184, 3) := by decide +kernel
theorem dX10_run_30 : decode cX10_run 30 = .ok (.ifCond .ne 5, 3) := by decide +kernel
theorem dX10_run_33 : decode cX10_run 33 = .ok (.iconst (-1), 1) := by decide +kernel
theorem dX10_run_34 : decode cX10_run 34 = .ok (.ireturn, 1) := by decide +kernel
theorem dX10_run_35 : decode cX10_run 35 = .ok (.iconst 0, 1) := by decide +kernel
theorem dX10_run_36 : decode cX10_run 36 = .ok (.istore 4, 2) := by decide +kernel
theorem dX10_run_38 : decode cX10_run 38 = .ok (.iload 4, 2) := by decide +kernel
theorem dX10_run_40 : decode cX10_run 40 = .ok (.iload_n 1, 1) := by decide +kernel
theorem dX10_run_41 : decode cX10_run 41 = .ok (.if_icmp .ge 43, 3) := by decide +kernel
theorem dX10_run_44 : decode cX10_run 44 = .ok (.iload_n 2, 1) := by decide +kernel
theorem dX10_run_45 : decode cX10_run 45 = .ok (.iload 4, 2) := by decide +kernel
theorem dX10_run_47 : decode cX10_run 47 = .ok (.iadd, 1) := by decide +kernel
theorem dX10_run_48 : decode cX10_run 48 = .ok (.bipush 37, 2) := by decide +kernel
theorem dX10_run_50 : decode cX10_run 50 = .ok (.imul, 1) := by decide +kernel
theorem dX10_run_51 : decode cX10_run 51 = .ok (.sipush 1024, 3) := by decide +kernel
theorem dX10_run_54 : decode cX10_run 54 = .ok (.irem, 1) := by decide +kernel
theorem dX10_run_55 : decode cX10_run 55 = .ok (.iload_n 3, 1) := by decide +kernel
theorem dX10_run_56 : decode cX10_run 56 = .ok (.iand, 1) := by decide +kernel
theorem dX10_run_57 : decode cX10_run 57 = .ok (.istore 5, 2) := by decide +kernel
theorem dX10_run_59 : decode cX10_run 59 = .ok (.aload_n 0, 1) := by decide +kernel
theorem dX10_run_60 : decode cX10_run 60 = .ok (.getfield 57, 3) := by decide +kernel
theorem dX10_run_63 : decode cX10_run 63 = .ok (.aload_n 0, 1) := by decide +kernel
theorem dX10_run_64 : decode cX10_run 64 = .ok (.getfield 23, 3) := by decide +kernel
theorem dX10_run_67 : decode cX10_run 67 = .ok (.iload 5, 2) := by decide +kernel
theorem dX10_run_69 : decode cX10_run 69 = .ok (.invokevirtual 306, 3) := by decide +kernel
theorem dX10_run_72 : decode cX10_run 72 = .ok (.ifCond .ne 6, 3) := by decide +kernel
theorem dX10_run_75 : decode cX10_run 75 = .ok (.iload 4, 2) := by decide +kernel
theorem dX10_run_77 : decode cX10_run 77 = .ok (.ireturn, 1) := by decide +kernel
theorem dX10_run_78 : decode cX10_run 78 = .ok (.iinc 4 1, 3) := by decide +kernel
theorem dX10_run_81 : decode cX10_run 81 = .ok (.goto (-43), 3) := by decide +kernel
theorem dX10_run_84 : decode cX10_run 84 = .ok (.iload_n 1, 1) := by decide +kernel
theorem dX10_run_85 : decode cX10_run 85 = .ok (.ireturn, 1) := by decide +kernel
theorem dX10_keep_0 : decode cX10_keep 0 = .ok (.aload_n 0, 1) := by decide +kernel
theorem dX10_keep_1 : decode cX10_keep 1 = .ok (.getfield 117, 3) := by decide +kernel
theorem dX10_keep_4 : decode cX10_keep 4 = .ok (.iconst 2, 1) := by decide +kernel
theorem dX10_keep_5 : decode cX10_keep 5 = .ok (.if_icmp .lt 6, 3) := by decide +kernel
theorem dX10_keep_8 : decode cX10_keep 8 = .ok (.bipush (-3), 2) := by decide +kernel
theorem dX10_keep_10 : decode cX10_keep 10 = .ok (.ireturn, 1) := by decide +kernel
theorem dX10_keep_11 : decode cX10_keep 11 = .ok (.aload_n 0, 1) := by decide +kernel
theorem dX10_keep_12 : decode cX10_keep 12 = .ok (.getfield 117, 3) := by decide +kernel
theorem dX10_keep_15 : decode cX10_keep 15 = .ok (.ifCond .ne 10, 3) := by decide +kernel
theorem dX10_keep_18 : decode cX10_keep 18 = .ok (.aload_n 0, 1) := by decide +kernel
theorem dX10_keep_19 : decode cX10_keep 19 = .ok (.getfield 37, 3) := by decide +kernel
theorem dX10_keep_22 : decode cX10_keep 22 = .ok (.goto 7, 3) := by decide +kernel
theorem dX10_keep_25 : decode cX10_keep 25 = .ok (.aload_n 0, 1) := by decide +kernel
theorem dX10_keep_26 : decode cX10_keep 26 = .ok (.getfield 40, 3) := by decide +kernel
theorem dX10_keep_29 : decode cX10_keep 29 = .ok (.astore_n 1, 1) := by decide +kernel
theorem dX10_keep_30 : decode cX10_keep 30 = .ok (.aload_n 1, 1) := by decide +kernel
theorem dX10_keep_31 : decode cX10_keep 31 = .ok (.aload_n 0, 1) := by decide +kernel
theorem dX10_keep_32 : decode cX10_keep 32 = .ok (.getfield 33, 3) := by decide +kernel
theorem dX10_keep_35 : decode cX10_keep 35 = .ok (.invokevirtual 310, 3) := by decide +kernel
theorem dX10_keep_38 : decode cX10_keep 38 = .ok (.aload_n 0, 1) := by decide +kernel
theorem dX10_keep_39 : decode cX10_keep 39 = .ok (.dup, 1) := by decide +kernel
theorem dX10_keep_40 : decode cX10_keep 40 = .ok (.getfield 117, 3) := by decide +kernel
theorem dX10_keep_43 : decode cX10_keep 43 = .ok (.iconst 1, 1) := by decide +kernel
theorem dX10_keep_44 : decode cX10_keep 44 = .ok (.iadd, 1) := by decide +kernel
theorem dX10_keep_45 : decode cX10_keep 45 = .ok (.putfield 117, 3) := by decide +kernel
theorem dX10_keep_48 : decode cX10_keep 48 = .ok (.aload_n 0, 1) := by decide +kernel
theorem dX10_keep_49 : decode cX10_keep 49 = .ok (.getfield 117, 3) := by decide +kernel
theorem dX10_keep_52 : decode cX10_keep 52 = .ok (.ireturn, 1) := by decide +kernel
theorem dX10_back_0 : decode cX10_back 0 = .ok (.aload_n 0, 1) := by decide +kernel
theorem dX10_back_1 : decode cX10_back 1 = .ok (.getfield 117, 3) := by decide +kernel
theorem dX10_back_4 : decode cX10_back 4 = .ok (.ifCond .gt 6, 3) := by decide +kernel
theorem dX10_back_7 : decode cX10_back 7 = .ok (.bipush (-2), 2) := by decide +kernel
theorem dX10_back_9 : decode cX10_back 9 = .ok (.ireturn, 1) := by decide +kernel
theorem dX10_back_10 : decode cX10_back 10 = .ok (.aload_n 0, 1) := by decide +kernel
theorem dX10_back_11 : decode cX10_back 11 = .ok (.dup, 1) := by decide +kernel
theorem dX10_back_12 : decode cX10_back 12 = .ok (.getfield 117, 3) := by decide +kernel
theorem dX10_back_15 : decode cX10_back 15 = .ok (.iconst 1, 1) := by decide +kernel
theorem dX10_back_16 : decode cX10_back 16 = .ok (.isub, 1) := by decide +kernel
theorem dX10_back_17 : decode cX10_back 17 = .ok (.putfield 117, 3) := by decide +kernel
theorem dX10_back_20 : decode cX10_back 20 = .ok (.aload_n 0, 1) := by decide +kernel
theorem dX10_back_21 : decode cX10_back 21 = .ok (.getfield 117, 3) := by decide +kernel
theorem dX10_back_24 : decode cX10_back 24 = .ok (.ifCond .ne 10, 3) := by decide +kernel
theorem dX10_back_27 : decode cX10_back 27 = .ok (.aload_n 0, 1) := by decide +kernel
theorem dX10_back_28 : decode cX10_back 28 = .ok (.getfield 37, 3) := by decide +kernel
theorem dX10_back_31 : decode cX10_back 31 = .ok (.goto 7, 3) := by decide +kernel
theorem dX10_back_34 : decode cX10_back 34 = .ok (.aload_n 0, 1) := by decide +kernel
theorem dX10_back_35 : decode cX10_back 35 = .ok (.getfield 40, 3) := by decide +kernel
theorem dX10_back_38 : decode cX10_back 38 = .ok (.astore_n 1, 1) := by decide +kernel
theorem dX10_back_39 : decode cX10_back 39 = .ok (.aload_n 0, 1) := by decide +kernel
theorem dX10_back_40 : decode cX10_back 40 = .ok (.getfield 33, 3) := by decide +kernel
theorem dX10_back_43 : decode cX10_back 43 = .ok (.aload_n 1, 1) := by decide +kernel
theorem dX10_back_44 : decode cX10_back 44 = .ok (.invokevirtual 310, 3) := by decide +kernel
theorem dX10_back_47 : decode cX10_back 47 = .ok (.aload_n 0, 1) := by decide +kernel
theorem dX10_back_48 : decode cX10_back 48 = .ok (.getfield 117, 3) := by decide +kernel
theorem dX10_back_51 : decode cX10_back 51 = .ok (.ireturn, 1) := by decide +kernel
theorem dX10_count_0 : decode cX10_count 0 = .ok (.iload_n 1, 1) := by decide +kernel
theorem dX10_count_1 : decode cX10_count 1 = .ok (.tableswitch 96 0 6 #[43, 51, 59, 70, 75, 83, 88], 43) := by decide +kernel
theorem dX10_count_44 : decode cX10_count 44 = .ok (.aload_n 0, 1) := by decide +kernel
theorem dX10_count_45 : decode cX10_count 45 = .ok (.getfield 23, 3) := by decide +kernel
theorem dX10_count_48 : decode cX10_count 48 = .ok (.getfield 110, 3) := by decide +kernel
theorem dX10_count_51 : decode cX10_count 51 = .ok (.ireturn, 1) := by decide +kernel
theorem dX10_count_52 : decode cX10_count 52 = .ok (.aload_n 0, 1) := by decide +kernel
theorem dX10_count_53 : decode cX10_count 53 = .ok (.getfield 23, 3) := by decide +kernel
theorem dX10_count_56 : decode cX10_count 56 = .ok (.getfield 113, 3) := by decide +kernel
theorem dX10_count_59 : decode cX10_count 59 = .ok (.ireturn, 1) := by decide +kernel
theorem dX10_count_60 : decode cX10_count 60 = .ok (.aload_n 0, 1) := by decide +kernel
theorem dX10_count_61 : decode cX10_count 61 = .ok (.getfield 23, 3) := by decide +kernel
theorem dX10_count_64 : decode cX10_count 64 = .ok (.getfield 166, 3) := by decide +kernel
theorem dX10_count_67 : decode cX10_count 67 = .ok (.getfield 314, 3) := by decide +kernel
theorem dX10_count_70 : decode cX10_count 70 = .ok (.ireturn, 1) := by decide +kernel
theorem dX10_count_71 : decode cX10_count 71 = .ok (.aload_n 0, 1) := by decide +kernel
theorem dX10_count_72 : decode cX10_count 72 = .ok (.getfield 102, 3) := by decide +kernel
theorem dX10_count_75 : decode cX10_count 75 = .ok (.ireturn, 1) := by decide +kernel
theorem dX10_count_76 : decode cX10_count 76 = .ok (.aload_n 0, 1) := by decide +kernel
theorem dX10_count_77 : decode cX10_count 77 = .ok (.getfield 33, 3) := by decide +kernel
theorem dX10_count_80 : decode cX10_count 80 = .ok (.getfield 249, 3) := by decide +kernel
theorem dX10_count_83 : decode cX10_count 83 = .ok (.ireturn, 1) := by decide +kernel
theorem dX10_count_84 : decode cX10_count 84 = .ok (.aload_n 0, 1) := by decide +kernel
theorem dX10_count_85 : decode cX10_count 85 = .ok (.getfield 117, 3) := by decide +kernel
theorem dX10_count_88 : decode cX10_count 88 = .ok (.ireturn, 1) := by decide +kernel
theorem dX10_count_89 : decode cX10_count 89 = .ok (.aload_n 0, 1) := by decide +kernel
theorem dX10_count_90 : decode cX10_count 90 = .ok (.getfield 23, 3) := by decide +kernel
theorem dX10_count_93 : decode cX10_count 93 = .ok (.getfield 317, 3) := by decide +kernel
theorem dX10_count_96 : decode cX10_count 96 = .ok (.ireturn, 1) := by decide +kernel
theorem dX10_count_97 : decode cX10_count 97 = .ok (.iconst (-1), 1) := by decide +kernel
theorem dX10_count_98 : decode cX10_count 98 = .ok (.ireturn, 1) := by decide +kernel
theorem dX10_has_0 : decode cX10_has 0 = .ok (.iload_n 0, 1) := by decide +kernel
theorem dX10_has_1 : decode cX10_has 1 = .ok (.iload_n 1, 1) := by decide +kernel
theorem dX10_has_2 : decode cX10_has 2 = .ok (.ishr, 1) := by decide +kernel
theorem dX10_has_3 : decode cX10_has 3 = .ok (.iconst 1, 1) := by decide +kernel
theorem dX10_has_4 : decode cX10_has 4 = .ok (.iand, 1) := by decide +kernel
theorem dX10_has_5 : decode cX10_has 5 = .ok (.ifCond .eq 7, 3) := by decide +kernel
theorem dX10_has_8 : decode cX10_has 8 = .ok (.iconst 1, 1) := by decide +kernel
theorem dX10_has_9 : decode cX10_has 9 = .ok (.goto 4, 3) := by decide +kernel
theorem dX10_has_12 : decode cX10_has 12 = .ok (.iconst 0, 1) := by decide +kernel
theorem dX10_has_13 : decode cX10_has 13 = .ok (.ireturn, 1) := by decide +kernel
theorem dX11_init_0 : decode cX11_init 0 = .ok (.aload_n 0, 1) := by decide +kernel
theorem dX11_init_1 : decode cX11_init 1 = .ok (.invokespecial 1, 3) := by decide +kernel
theorem dX11_init_4 : decode cX11_init 4 = .ok (.aload_n 0, 1) := by decide +kernel
theorem dX11_init_5 : decode cX11_init 5 = .ok (.sipush 400, 3) := by decide +kernel
theorem dX11_init_8 : decode cX11_init 8 = .ok (.newarray .int, 2) := by decide +kernel
theorem dX11_init_10 : decode cX11_init 10 = .ok (.putfield 7, 3) := by decide +kernel
theorem dX11_init_13 : decode cX11_init 13 = .ok (.aload_n 0, 1) := by decide +kernel
theorem dX11_init_14 : decode cX11_init 14 = .ok (.iconst 2, 1) := by decide +kernel
theorem dX11_init_15 : decode cX11_init 15 = .ok (.newarray .int, 2) := by decide +kernel
theorem dX11_init_17 : decode cX11_init 17 = .ok (.putfield 13, 3) := by decide +kernel
theorem dX11_init_20 : decode cX11_init 20 = .ok (.aload_n 0, 1) := by decide +kernel
theorem dX11_init_21 : decode cX11_init 21 = .ok (.bipush 20, 2) := by decide +kernel
theorem dX11_init_23 : decode cX11_init 23 = .ok (.newarray .int, 2) := by decide +kernel
theorem dX11_init_25 : decode cX11_init 25 = .ok (.putfield 16, 3) := by decide +kernel
theorem dX11_init_28 : decode cX11_init 28 = .ok (.aload_n 0, 1) := by decide +kernel
theorem dX11_init_29 : decode cX11_init 29 = .ok (.bipush 20, 2) := by decide +kernel
theorem dX11_init_31 : decode cX11_init 31 = .ok (.newarray .int, 2) := by decide +kernel
theorem dX11_init_33 : decode cX11_init 33 = .ok (.putfield 19, 3) := by decide +kernel
theorem dX11_init_36 : decode cX11_init 36 = .ok (.aload_n 0, 1) := by decide +kernel
theorem dX11_init_37 : decode cX11_init 37 = .ok (.iconst 2, 1) := by decide +kernel
theorem dX11_init_38 : decode cX11_init 38 = .ok (.newarray .int, 2) := by decide +kernel
theorem dX11_init_40 : decode cX11_init 40 = .ok (.putfield 22, 3) := by decide +kernel
theorem dX11_init_43 : decode cX11_init 43 = .ok (.aload_n 0, 1) := by decide +kernel
theorem dX11_init_44 : decode cX11_init 44 = .ok (.bipush 16, 2) := by decide +kernel
theorem dX11_init_46 : decode cX11_init 46 = .ok (.newarray .int, 2) := by decide +kernel
theorem dX11_init_48 : decode cX11_init 48 = .ok (.putfield 25, 3) := by decide +kernel
theorem dX11_init_51 : decode cX11_init 51 = .ok (.aload_n 0, 1) := by decide +kernel
theorem dX11_init_52 : decode cX11_init 52 = .ok (.bipush 16, 2) := by decide +kernel
theorem dX11_init_54 : decode cX11_init 54 = .ok (.newarray .int, 2) := by decide +kernel
theorem dX11_init_56 : decode cX11_init 56 = .ok (.putfield 28, 3) := by decide +kernel
theorem dX11_init_59 : decode cX11_init 59 = .ok (.aload_n 0, 1) := by decide +kernel
theorem dX11_init_60 : decode cX11_init 60 = .ok (.bipush 16, 2) := by decide +kernel
theorem dX11_init_62 : decode cX11_init 62 = .ok (.newarray .int, 2) := by decide +kernel
theorem dX11_init_64 : decode cX11_init 64 = .ok (.putfield 31, 3) := by decide +kernel
theorem dX11_init_67 : decode cX11_init 67 = .ok (.aload_n 0, 1) := by decide +kernel
theorem dX11_init_68 : decode cX11_init 68 = .ok (.bipush 16, 2) := by decide +kernel
theorem dX11_init_70 : decode cX11_init 70 = .ok (.newarray .int, 2) := by decide +kernel
theorem dX11_init_72 : decode cX11_init 72 = .ok (.putfield 34, 3) := by decide +kernel
theorem dX11_init_75 : decode cX11_init 75 = .ok (.aload_n 0, 1) := by decide +kernel
theorem dX11_init_76 : decode cX11_init 76 = .ok (.bipush 16, 2) := by decide +kernel
theorem dX11_init_78 : decode cX11_init 78 = .ok (.newarray .int, 2) := by decide +kernel
theorem dX11_init_80 : decode cX11_init 80 = .ok (.putfield 37, 3) := by decide +kernel
theorem dX11_init_83 : decode cX11_init 83 = .ok (.aload_n 0, 1) := by decide +kernel
theorem dX11_init_84 : decode cX11_init 84 = .ok (.iconst 2, 1) := by decide +kernel
theorem dX11_init_85 : decode cX11_init 85 = .ok (.newarray .int, 2) := by decide +kernel
theorem dX11_init_87 : decode cX11_init 87 = .ok (.putfield 40, 3) := by decide +kernel
theorem dX11_init_90 : decode cX11_init 90 = .ok (.aload_n 0, 1) := by decide +kernel
theorem dX11_init_91 : decode cX11_init 91 = .ok (.bipush 20, 2) := by decide +kernel
theorem dX11_init_93 : decode cX11_init 93 = .ok (.newarray .int, 2) := by decide +kernel
theorem dX11_init_95 : decode cX11_init 95 = .ok (.putfield 43, 3) := by decide +kernel
theorem dX11_init_98 : decode cX11_init 98 = .ok (.aload_n 0, 1) := by decide +kernel
theorem dX11_init_99 : decode cX11_init 99 = .ok (.bipush 20, 2) := by decide +kernel
theorem dX11_init_101 : decode cX11_init 101 = .ok (.newarray .int, 2) := by decide +kernel
theorem dX11_init_103 : decode cX11_init 103 = .ok (.putfield 46, 3) := by decide +kernel
theorem dX11_init_106 : decode cX11_init 106 = .ok (.aload_n 0, 1) := by decide +kernel
theorem dX11_init_107 : decode cX11_init 107 = .ok (.iconst 2, 1) := by decide +kernel
theorem dX11_init_108 : decode cX11_init 108 = .ok (.newarray .int, 2) := by decide +kernel
theorem dX11_init_110 : decode cX11_init 110 = .ok (.putfield 49, 3) := by decide +kernel
theorem dX11_init_113 : decode cX11_init 113 = .ok (.aload_n 0, 1) := by decide +kernel
theorem dX11_init_114 : decode cX11_init 114 = .ok (.bipush 20, 2) := by decide +kernel
theorem dX11_init_116 : decode cX11_init 116 = .ok (.newarray .int, 2) := by decide +kernel
theorem dX11_init_118 : decode cX11_init 118 = .ok (.putfield 52, 3) := by decide +kernel
theorem dX11_init_121 : decode cX11_init 121 = .ok (.aload_n 0, 1) := by decide +kernel
theorem dX11_init_122 : decode cX11_init 122 = .ok (.sipush 200, 3) := by decide +kernel
theorem dX11_init_125 : decode cX11_init 125 = .ok (.newarray .int, 2) := by decide +kernel
theorem dX11_init_127 : decode cX11_init 127 = .ok (.putfield 55, 3) := by decide +kernel
theorem dX11_init_130 : decode cX11_init 130 = .ok (.aload_n 0, 1) := by decide +kernel
theorem dX11_init_131 : decode cX11_init 131 = .ok (.bipush 10, 2) := by decide +kernel
theorem dX11_init_133 : decode cX11_init 133 = .ok (.newarray .int, 2) := by decide +kernel
theorem dX11_init_135 : decode cX11_init 135 = .ok (.putfield 58, 3) := by decide +kernel
theorem dX11_init_138 : decode cX11_init 138 = .ok (.aload_n 0, 1) := by decide +kernel
theorem dX11_init_139 : decode cX11_init 139 = .ok (.sipush 240, 3) := by decide +kernel
theorem dX11_init_142 : decode cX11_init 142 = .ok (.newarray .int, 2) := by decide +kernel
theorem dX11_init_144 : decode cX11_init 144 = .ok (.putfield 61, 3) := by decide +kernel
theorem dX11_init_147 : decode cX11_init 147 = .ok (.aload_n 0, 1) := by decide +kernel
theorem dX11_init_148 : decode cX11_init 148 = .ok (.iconst 3, 1) := by decide +kernel
theorem dX11_init_149 : decode cX11_init 149 = .ok (.newarray .int, 2) := by decide +kernel
theorem dX11_init_151 : decode cX11_init 151 = .ok (.putfield 64, 3) := by decide +kernel
theorem dX11_init_154 : decode cX11_init 154 = .ok (.aload_n 0, 1) := by decide +kernel
theorem dX11_init_155 : decode cX11_init 155 = .ok (.bipush 30, 2) := by decide +kernel
theorem dX11_init_157 : decode cX11_init 157 = .ok (.newarray .int, 2) := by decide +kernel
theorem dX11_init_159 : decode cX11_init 159 = .ok (.putfield 67, 3) := by decide +kernel
theorem dX11_init_162 : decode cX11_init 162 = .ok (.aload_n 0, 1) := by decide +kernel
theorem dX11_init_163 : decode cX11_init 163 = .ok (.bipush 10, 2) := by decide +kernel
theorem dX11_init_165 : decode cX11_init 165 = .ok (.newarray .int, 2) := by decide +kernel
theorem dX11_init_167 : decode cX11_init 167 = .ok (.putfield 70, 3) := by decide +kernel
theorem dX11_init_170 : decode cX11_init 170 = .ok (.aload_n 0, 1) := by decide +kernel
theorem dX11_init_171 : decode cX11_init 171 = .ok (.iconst 4, 1) := by decide +kernel
theorem dX11_init_172 : decode cX11_init 172 = .ok (.newarray .int, 2) := by decide +kernel
theorem dX11_init_174 : decode cX11_init 174 = .ok (.putfield 73, 3) := by decide +kernel
theorem dX11_init_177 : decode cX11_init 177 = .ok (.aload_n 0, 1) := by decide +kernel
theorem dX11_init_178 : decode cX11_init 178 = .ok (.bipush 10, 2) := by decide +kernel
theorem dX11_init_180 : decode cX11_init 180 = .ok (.newarray .int, 2) := by decide +kernel
theorem dX11_init_182 : decode cX11_init 182 = .ok (.putfield 76, 3) := by decide +kernel
theorem dX11_init_185 : decode cX11_init 185 = .ok (.aload_n 0, 1) := by decide +kernel
theorem dX11_init_186 : decode cX11_init 186 = .ok (.bipush 8, 2) := by decide +kernel
theorem dX11_init_188 : decode cX11_init 188 = .ok (.newarray .int, 2) := by decide +kernel
theorem dX11_init_190 : decode cX11_init 190 = .ok (.putfield 79, 3) := by decide +kernel
theorem dX11_init_193 : decode cX11_init 193 = .ok (.aload_n 0, 1) := by decide +kernel
theorem dX11_init_194 : decode cX11_init 194 = .ok (.bipush 8, 2) := by decide +kernel
theorem dX11_init_196 : decode cX11_init 196 = .ok (.newarray .int, 2) := by decide +kernel
theorem dX11_init_198 : decode cX11_init 198 = .ok (.putfield 82, 3) := by decide +kernel
theorem dX11_init_201 : decode cX11_init 201 = .ok (.aload_n 0, 1) := by decide +kernel
theorem dX11_init_202 : decode cX11_init 202 = .ok (.bipush 8, 2) := by decide +kernel
theorem dX11_init_204 : decode cX11_init 204 = .ok (.newarray .int, 2) := by decide +kernel
theorem dX11_init_206 : decode cX11_init 206 = .ok (.putfield 85, 3) := by decide +kernel
theorem dX11_init_209 : decode cX11_init 209 = .ok (.aload_n 0, 1) := by decide +kernel
theorem dX11_init_210 : decode cX11_init 210 = .ok (.bipush 10, 2) := by decide +kernel
theorem dX11_init_212 : decode cX11_init 212 = .ok (.newarray .int, 2) := by decide +kernel
theorem dX11_init_214 : decode cX11_init 214 = .ok (.putfield 88, 3) := by decide +kernel
theorem dX11_init_217 : decode cX11_init 217 = .ok (.aload_n 0, 1) := by decide +kernel
theorem dX11_init_218 : decode cX11_init 218 = .ok (.bipush 80, 2) := by decide +kernel
theorem dX11_init_220 : decode cX11_init 220 = .ok (.newarray .int, 2) := by decide +kernel
theorem dX11_init_222 : decode cX11_init 222 = .ok (.putfield 91, 3) := by decide +kernel
theorem dX11_init_225 : decode cX11_init 225 = .ok (.aload_n 0, 1) := by decide +kernel
theorem dX11_init_226 : decode cX11_init 226 = .ok (.sipush 8100, 3) := by decide +kernel
theorem dX11_init_229 : decode cX11_init 229 = .ok (.newarray .int, 2) := by decide +kernel
theorem dX11_init_231 : decode cX11_init 231 = .ok (.putfield 94, 3) := by decide +kernel
theorem dX11_init_234 : decode cX11_init 234 = .ok (.aload_n 0, 1) := by decide +kernel
theorem dX11_init_235 : decode cX11_init 235 = .ok (.sipush 8100, 3) := by decide +kernel
theorem dX11_init_238 : decode cX11_init 238 = .ok (.newarray .int, 2) := by decide +kernel
theorem dX11_init_240 : decode cX11_init 240 = .ok (.putfield 97, 3) := by decide +kernel
theorem dX11_init_243 : decode cX11_init 243 = .ok (.aload_n 0, 1) := by decide +kernel
theorem dX11_init_244 : decode cX11_init 244 = .ok (.sipush 1024, 3) := by decide +kernel
theorem dX11_init_247 : decode cX11_init 247 = .ok (.newarray .int, 2) := by decide +kernel
theorem dX11_init_249 : decode cX11_init 249 = .ok (.putfield 100, 3) := by decide +kernel
theorem dX11_init_252 : decode cX11_init 252 = .ok (.aload_n 0, 1) := by decide +kernel
theorem dX11_init_253 : decode cX11_init 253 = .ok (.sipush 1024, 3) := by decide +kernel
theorem dX11_init_256 : decode cX11_init 256 = .ok (.newarray .int, 2) := by decide +kernel
theorem dX11_init_258 : decode cX11_init 258 = .ok (.putfield 103, 3) := by decide +kernel
theorem dX11_init_261 : decode cX11_init 261 = .ok (.aload_n 0, 1) := by decide +kernel
theorem dX11_init_262 : decode cX11_init 262 = .ok (.sipush 1024, 3) := by decide +kernel
theorem dX11_init_265 : decode cX11_init 265 = .ok (.newarray .int, 2) := by decide +kernel
theorem dX11_init_267 : decode cX11_init 267 = .ok (.putfield 106, 3) := by decide +kernel
theorem dX11_init_270 : decode cX11_init 270 = .ok (.aload_n 0, 1) := by decide +kernel
theorem dX11_init_271 : decode cX11_init 271 = .ok (.bipush 80, 2) := by decide +kernel
theorem dX11_init_273 : decode cX11_init 273 = .ok (.newarray .int, 2) := by decide +kernel
theorem dX11_init_275 : decode cX11_init 275 = .ok (.putfield 109, 3) := by decide +kernel
theorem dX11_init_278 : decode cX11_init 278 = .ok (.aload_n 0, 1) := by decide +kernel
theorem dX11_init_279 : decode cX11_init 279 = .ok (.bipush 10, 2) := by decide +kernel
theorem dX11_init_281 : decode cX11_init 281 = .ok (.newarray .int, 2) := by decide +kernel
theorem dX11_init_283 : decode cX11_init 283 = .ok (.putfield 112, 3) := by decide +kernel
theorem dX11_init_286 : decode cX11_init 286 = .ok (.aload_n 0, 1) := by decide +kernel
theorem dX11_init_287 : decode cX11_init 287 = .ok (.iconst 0, 1) := by decide +kernel
theorem dX11_init_288 : decode cX11_init 288 = .ok (.invokevirtual 115, 3) := by decide +kernel
theorem dX11_init_291 : decode cX11_init 291 = .ok (.aload_n 0, 1) := by decide +kernel
theorem dX11_init_292 : decode cX11_init 292 = .ok (.getfield 13, 3) := by decide +kernel
theorem dX11_init_295 : decode cX11_init 295 = .ok (.iconst 0, 1) := by decide +kernel
theorem dX11_init_296 : decode cX11_init 296 = .ok (.iconst 1, 1) := by decide +kernel
theorem dX11_init_297 : decode cX11_init 297 = .ok (.iastore, 1) := by decide +kernel
theorem dX11_init_298 : decode cX11_init 298 = .ok (.aload_n 0, 1) := by decide +kernel
theorem dX11_init_299 : decode cX11_init 299 = .ok (.getfield 16, 3) := by decide +kernel
theorem dX11_init_302 : decode cX11_init 302 = .ok (.iconst 0, 1) := by decide +kernel
theorem dX11_init_303 : decode cX11_init 303 = .ok (.bipush 50, 2) := by decide +kernel
theorem dX11_init_305 : decode cX11_init 305 = .ok (.iastore, 1) := by decide +kernel
theorem dX11_init_306 : decode cX11_init 306 = .ok (.aload_n 0, 1) := by decide +kernel
theorem dX11_init_307 : decode cX11_init 307 = .ok (.getfield 22, 3) := by decide +kernel
theorem dX11_init_310 : decode cX11_init 310 = .ok (.iconst 0, 1) := by decide +kernel
theorem dX11_init_311 : decode cX11_init 311 = .ok (.iconst 1, 1) := by decide +kernel
theorem dX11_init_312 : decode cX11_init 312 = .ok (.iastore, 1) := by decide +kernel
theorem dX11_init_313 : decode cX11_init 313 = .ok (.aload_n 0, 1) := by decide +kernel
theorem dX11_init_314 : decode cX11_init 314 = .ok (.getfield 25, 3) := by decide +kernel
theorem dX11_init_317 : decode cX11_init 317 = .ok (.iconst 0, 1) := by decide +kernel
theorem dX11_init_318 : decode cX11_init 318 = .ok (.bipush 50, 2) := by decide +kernel
theorem dX11_init_320 : decode cX11_init 320 = .ok (.iastore, 1) := by decide +kernel
theorem dX11_init_321 : decode cX11_init 321 = .ok (.aload_n 0, 1) := by decide +kernel
theorem dX11_init_322 : decode cX11_init 322 = .ok (.getfield 31, 3) := by decide +kernel
theorem dX11_init_325 : decode cX11_init 325 = .ok (.iconst 0, 1) := by decide +kernel
theorem dX11_init_326 : decode cX11_init 326 = .ok (.bipush 10, 2) := by decide +kernel
theorem dX11_init_328 : decode cX11_init 328 = .ok (.iastore, 1) := by decide +kernel
theorem dX11_init_329 : decode cX11_init 329 = .ok (.aload_n 0, 1) := by decide +kernel
theorem dX11_init_330 : decode cX11_init 330 = .ok (.getfield 37, 3) := by decide +kernel
theorem dX11_init_333 : decode cX11_init 333 = .ok (.iconst 0, 1) := by decide +kernel
theorem dX11_init_334 : decode cX11_init 334 = .ok (.iconst 0, 1) := by decide +kernel
theorem dX11_init_335 : decode cX11_init 335 = .ok (.iastore, 1) := by decide +kernel
theorem dX11_init_336 : decode cX11_init 336 = .ok (.aload_n 0, 1) := by decide +kernel
theorem dX11_init_337 : decode cX11_init 337 = .ok (.invokevirtual 119, 3) := by decide +kernel
theorem dX11_init_340 : decode cX11_init 340 = .ok (.return_, 1) := by decide +kernel
theorem dX11_in_0 : decode cX11_in 0 = .ok (.lload_n 0, 1) := by decide +kernel
theorem dX11_in_1 : decode cX11_in 1 = .ok (.lload_n 2, 1) := by decide +kernel
theorem dX11_in_2 : decode cX11_in 2 = .ok (.lcmp, 1) := by decide +kernel
theorem dX11_in_3 : decode cX11_in 3 = .ok (.ifCond .lt 14, 3) := by decide +kernel
theorem dX11_in_6 : decode cX11_in 6 = .ok (.lload_n 0, 1) := by decide +kernel
theorem dX11_in_7 : decode cX11_in 7 = .ok (.lload 4, 2) := by decide +kernel
theorem dX11_in_9 : decode cX11_in 9 = .ok (.lcmp, 1) := by decide +kernel
theorem dX11_in_10 : decode cX11_in 10 = .ok (.ifCond .gt 7, 3) := by decide +kernel
theorem dX11_in_13 : decode cX11_in 13 = .ok (.iconst 1, 1) := by decide +kernel
theorem dX11_in_14 : decode cX11_in 14 = .ok (.goto 4, 3) := by decide +kernel
theorem dX11_in_17 : decode cX11_in 17 = .ok (.iconst 0, 1) := by decide +kernel
theorem dX11_in_18 : decode cX11_in 18 = .ok (.ireturn, 1) := by decide +kernel
theorem dX11_has_0 : decode cX11_has 0 = .ok (.iload_n 0, 1) := by decide +kernel
theorem dX11_has_1 : decode cX11_has 1 = .ok (.iload_n 1, 1) := by decide +kernel
theorem dX11_has_2 : decode cX11_has 2 = .ok (.ishr, 1) := by decide +kernel
theorem dX11_has_3 : decode cX11_has 3 = .ok (.iconst 1, 1) := by decide +kernel
theorem dX11_has_4 : decode cX11_has 4 = .ok (.iand, 1) := by decide +kernel
theorem dX11_has_5 : decode cX11_has 5 = .ok (.iconst 1, 1) := by decide +kernel
theorem dX11_has_6 : decode cX11_has 6 = .ok (.if_icmp .ne 7, 3) := by decide +kernel
theorem dX11_has_9 : decode cX11_has 9 = .ok (.iconst 1, 1) := by decide +kernel
theorem dX11_has_10 : decode cX11_has 10 = .ok (.goto 4, 3) := by decide +kernel
theorem dX11_has_13 : decode cX11_has 13 = .ok (.iconst 0, 1) := by decide +kernel
theorem dX11_has_14 : decode cX11_has 14 = .ok (.ireturn, 1) := by decide +kernel
theorem dX11_bits_0 : decode cX11_bits 0 = .ok (.iconst 0, 1) := by decide +kernel
theorem dX11_bits_1 : decode cX11_bits 1 = .ok (.istore_n 1, 1) := by decide +kernel
theorem dX11_bits_2 : decode cX11_bits 2 = .ok (.iload_n 0, 1) := by decide +kernel
theorem dX11_bits_3 : decode cX11_bits 3 = .ok (.istore_n 2, 1) := by decide +kernel
theorem dX11_bits_4 : decode cX11_bits 4 = .ok (.iload_n 2, 1) := by decide +kernel
theorem dX11_bits_5 : decode cX11_bits 5 = .ok (.ifCond .eq 15, 3) := by decide +kernel
theorem dX11_bits_8 : decode cX11_bits 8 = .ok (.iinc 1 1, 3) := by decide +kernel
theorem dX11_bits_11 : decode cX11_bits 11 = .ok (.iload_n 2, 1) := by decide +kernel
theorem dX11_bits_12 : decode cX11_bits 12 = .ok (.iload_n 2, 1) := by decide +kernel
theorem dX11_bits_13 : decode cX11_bits 13 = .ok (.iconst 1, 1) := by decide +kernel
theorem dX11_bits_14 : decode cX11_bits 14 = .ok (.isub, 1) := by decide +kernel
theorem dX11_bits_15 : decode cX11_bits 15 = .ok (.iand, 1) := by decide +kernel
theorem dX11_bits_16 : decode cX11_bits 16 = .ok (.istore_n 2, 1) := by decide +kernel
theorem dX11_bits_17 : decode cX11_bits 17 = .ok (.goto (-13), 3) := by decide +kernel
theorem dX11_bits_20 : decode cX11_bits 20 = .ok (.iload_n 1, 1) := by decide +kernel
theorem dX11_bits_21 : decode cX11_bits 21 = .ok (.ireturn, 1) := by decide +kernel
theorem dX11_noCompany_0 : decode cX11_noCompany 0 = .ok (.aload_n 0, 1) := by decide +kernel
theorem dX11_noCompany_1 : decode cX11_noCompany 1 = .ok (.getfield 13, 3) := by decide +kernel
theorem dX11_noCompany_4 : decode cX11_noCompany 4 = .ok (.iload_n 1, 1) := by decide +kernel
theorem dX11_noCompany_5 : decode cX11_noCompany 5 = .ok (.iconst 0, 1) := by decide +kernel
theorem dX11_noCompany_6 : decode cX11_noCompany 6 = .ok (.iastore, 1) := by decide +kernel
theorem dX11_noCompany_7 : decode cX11_noCompany 7 = .ok (.aload_n 0, 1) := by decide +kernel
theorem dX11_noCompany_8 : decode cX11_noCompany 8 = .ok (.getfield 22, 3) := by decide +kernel
theorem dX11_noCompany_11 : decode cX11_noCompany 11 = .ok (.iload_n 1, 1) := by decide +kernel
theorem dX11_noCompany_12 : decode cX11_noCompany 12 = .ok (.iconst 0, 1) := by decide +kernel
theorem dX11_noCompany_13 : decode cX11_noCompany 13 = .ok (.iastore, 1) := by decide +kernel
theorem dX11_noCompany_14 : decode cX11_noCompany 14 = .ok (.aload_n 0, 1) := by decide +kernel
theorem dX11_noCompany_15 : decode cX11_noCompany 15 = .ok (.getfield 40, 3) := by decide +kernel
theorem dX11_noCompany_18 : decode cX11_noCompany 18 = .ok (.iload_n 1, 1) := by decide +kernel
theorem dX11_noCompany_19 : decode cX11_noCompany 19 = .ok (.iconst 0, 1) := by decide +kernel
theorem dX11_noCompany_20 : decode cX11_noCompany 20 = .ok (.iastore, 1) := by decide +kernel
theorem dX11_noCompany_21 : decode cX11_noCompany 21 = .ok (.aload_n 0, 1) := by decide +kernel
theorem dX11_noCompany_22 : decode cX11_noCompany 22 = .ok (.getfield 49, 3) := by decide +kernel
theorem dX11_noCompany_25 : decode cX11_noCompany 25 = .ok (.iload_n 1, 1) := by decide +kernel
theorem dX11_noCompany_26 : decode cX11_noCompany 26 = .ok (.iconst 0, 1) := by decide +kernel
end
section
theorem dX11_noCompany_27 : decode cX11_noCompany 27 = .ok (.iastore, 1) := by decide +kernel
theorem dX11_noCompany_28 : decode cX11_noCompany 28 = .ok (.iconst 0, 1) := by decide +kernel
theorem dX11_noCompany_29 : decode cX11_noCompany 29 = .ok (.istore_n 2, 1) := by decide +kernel
theorem dX11_noCompany_30 : decode cX11_noCompany 30 = .ok (.iload_n 2, 1) := by decide +kernel
theorem dX11_noCompany_31 : decode cX11_noCompany 31 = .ok (.bipush 10, 2) := by decide +kernel
theorem dX11_noCompany_33 : decode cX11_noCompany 33 = .ok (.if_icmp .ge 21, 3) := by decide +kernel
theorem dX11_noCompany_36 : decode cX11_noCompany 36 = .ok (.aload_n 0, 1) := by decide +kernel
theorem dX11_noCompany_37 : decode cX11_noCompany 37 = .ok (.getfield 52, 3) := by decide +kernel
theorem dX11_noCompany_40 : decode cX11_noCompany 40 = .ok (.bipush 10, 2) := by decide +kernel
theorem dX11_noCompany_42 : decode cX11_noCompany 42 = .ok (.iload_n 1, 1) := by decide +kernel
theorem dX11_noCompany_43 : decode cX11_noCompany 43 = .ok (.imul, 1) := by decide +kernel
theorem dX11_noCompany_44 : decode cX11_noCompany 44 = .ok (.iload_n 2, 1) := by decide +kernel
theorem dX11_noCompany_45 : decode cX11_noCompany 45 = .ok (.iadd, 1) := by decide +kernel
theorem dX11_noCompany_46 : decode cX11_noCompany 46 = .ok (.iconst 0, 1) := by decide +kernel
theorem dX11_noCompany_47 : decode cX11_noCompany 47 = .ok (.iastore, 1) := by decide +kernel
theorem dX11_noCompany_48 : decode cX11_noCompany 48 = .ok (.iinc 2 1, 3) := by decide +kernel
theorem dX11_noCompany_51 : decode cX11_noCompany 51 = .ok (.goto (-21), 3) := by decide +kernel
theorem dX11_noCompany_54 : decode cX11_noCompany 54 = .ok (.iconst 0, 1) := by decide +kernel
theorem dX11_noCompany_55 : decode cX11_noCompany 55 = .ok (.istore_n 2, 1) := by decide +kernel
theorem dX11_noCompany_56 : decode cX11_noCompany 56 = .ok (.iload_n 2, 1) := by decide +kernel
theorem dX11_noCompany_57 : decode cX11_noCompany 57 = .ok (.bipush 8, 2) := by decide +kernel
theorem dX11_noCompany_59 : decode cX11_noCompany 59 = .ok (.if_icmp .ge 22, 3) := by decide +kernel
theorem dX11_noCompany_62 : decode cX11_noCompany 62 = .ok (.aload_n 0, 1) := by decide +kernel
theorem dX11_noCompany_63 : decode cX11_noCompany 63 = .ok (.getfield 37, 3) := by decide +kernel
theorem dX11_noCompany_66 : decode cX11_noCompany 66 = .ok (.bipush 8, 2) := by decide +kernel
theorem dX11_noCompany_68 : decode cX11_noCompany 68 = .ok (.iload_n 1, 1) := by decide +kernel
theorem dX11_noCompany_69 : decode cX11_noCompany 69 = .ok (.imul, 1) := by decide +kernel
theorem dX11_noCompany_70 : decode cX11_noCompany 70 = .ok (.iload_n 2, 1) := by decide +kernel
theorem dX11_noCompany_71 : decode cX11_noCompany 71 = .ok (.iadd, 1) := by decide +kernel
theorem dX11_noCompany_72 : decode cX11_noCompany 72 = .ok (.bipush (-4), 2) := by decide +kernel
theorem dX11_noCompany_74 : decode cX11_noCompany 74 = .ok (.iastore, 1) := by decide +kernel
theorem dX11_noCompany_75 : decode cX11_noCompany 75 = .ok (.iinc 2 1, 3) := by decide +kernel
theorem dX11_noCompany_78 : decode cX11_noCompany 78 = .ok (.goto (-22), 3) := by decide +kernel
theorem dX11_noCompany_81 : decode cX11_noCompany 81 = .ok (.iconst 0, 1) := by decide +kernel
theorem dX11_noCompany_82 : decode cX11_noCompany 82 = .ok (.istore_n 2, 1) := by decide +kernel
theorem dX11_noCompany_83 : decode cX11_noCompany 83 = .ok (.iload_n 2, 1) := by decide +kernel
theorem dX11_noCompany_84 : decode cX11_noCompany 84 = .ok (.bipush 100, 2) := by decide +kernel
theorem dX11_noCompany_86 : decode cX11_noCompany 86 = .ok (.if_icmp .ge 21, 3) := by decide +kernel
theorem dX11_noCompany_89 : decode cX11_noCompany 89 = .ok (.aload_n 0, 1) := by decide +kernel
theorem dX11_noCompany_90 : decode cX11_noCompany 90 = .ok (.getfield 55, 3) := by decide +kernel
theorem dX11_noCompany_93 : decode cX11_noCompany 93 = .ok (.bipush 100, 2) := by decide +kernel
theorem dX11_noCompany_95 : decode cX11_noCompany 95 = .ok (.iload_n 1, 1) := by decide +kernel
theorem dX11_noCompany_96 : decode cX11_noCompany 96 = .ok (.imul, 1) := by decide +kernel
theorem dX11_noCompany_97 : decode cX11_noCompany 97 = .ok (.iload_n 2, 1) := by decide +kernel
theorem dX11_noCompany_98 : decode cX11_noCompany 98 = .ok (.iadd, 1) := by decide +kernel
theorem dX11_noCompany_99 : decode cX11_noCompany 99 = .ok (.iconst 0, 1) := by decide +kernel
theorem dX11_noCompany_100 : decode cX11_noCompany 100 = .ok (.iastore, 1) := by decide +kernel
theorem dX11_noCompany_101 : decode cX11_noCompany 101 = .ok (.iinc 2 1, 3) := by decide +kernel
theorem dX11_noCompany_104 : decode cX11_noCompany 104 = .ok (.goto (-21), 3) := by decide +kernel
theorem dX11_noCompany_107 : decode cX11_noCompany 107 = .ok (.aload_n 0, 1) := by decide +kernel
theorem dX11_noCompany_108 : decode cX11_noCompany 108 = .ok (.getfield 58, 3) := by decide +kernel
theorem dX11_noCompany_111 : decode cX11_noCompany 111 = .ok (.iconst 5, 1) := by decide +kernel
theorem dX11_noCompany_112 : decode cX11_noCompany 112 = .ok (.iload_n 1, 1) := by decide +kernel
theorem dX11_noCompany_113 : decode cX11_noCompany 113 = .ok (.imul, 1) := by decide +kernel
theorem dX11_noCompany_114 : decode cX11_noCompany 114 = .ok (.iconst 0, 1) := by decide +kernel
theorem dX11_noCompany_115 : decode cX11_noCompany 115 = .ok (.iastore, 1) := by decide +kernel
theorem dX11_noCompany_116 : decode cX11_noCompany 116 = .ok (.aload_n 0, 1) := by decide +kernel
theorem dX11_noCompany_117 : decode cX11_noCompany 117 = .ok (.getfield 58, 3) := by decide +kernel
theorem dX11_noCompany_120 : decode cX11_noCompany 120 = .ok (.iconst 5, 1) := by decide +kernel
theorem dX11_noCompany_121 : decode cX11_noCompany 121 = .ok (.iload_n 1, 1) := by decide +kernel
theorem dX11_noCompany_122 : decode cX11_noCompany 122 = .ok (.imul, 1) := by decide +kernel
theorem dX11_noCompany_123 : decode cX11_noCompany 123 = .ok (.iconst 1, 1) := by decide +kernel
theorem dX11_noCompany_124 : decode cX11_noCompany 124 = .ok (.iadd, 1) := by decide +kernel
theorem dX11_noCompany_125 : decode cX11_noCompany 125 = .ok (.iconst 1, 1) := by decide +kernel
theorem dX11_noCompany_126 : decode cX11_noCompany 126 = .ok (.iastore, 1) := by decide +kernel
theorem dX11_noCompany_127 : decode cX11_noCompany 127 = .ok (.aload_n 0, 1) := by decide +kernel
theorem dX11_noCompany_128 : decode cX11_noCompany 128 = .ok (.getfield 58, 3) := by decide +kernel
theorem dX11_noCompany_131 : decode cX11_noCompany 131 = .ok (.iconst 5, 1) := by decide +kernel
theorem dX11_noCompany_132 : decode cX11_noCompany 132 = .ok (.iload_n 1, 1) := by decide +kernel
theorem dX11_noCompany_133 : decode cX11_noCompany 133 = .ok (.imul, 1) := by decide +kernel
theorem dX11_noCompany_134 : decode cX11_noCompany 134 = .ok (.iconst 2, 1) := by decide +kernel
theorem dX11_noCompany_135 : decode cX11_noCompany 135 = .ok (.iadd, 1) := by decide +kernel
theorem dX11_noCompany_136 : decode cX11_noCompany 136 = .ok (.bipush 10, 2) := by decide +kernel
theorem dX11_noCompany_138 : decode cX11_noCompany 138 = .ok (.iastore, 1) := by decide +kernel
theorem dX11_noCompany_139 : decode cX11_noCompany 139 = .ok (.aload_n 0, 1) := by decide +kernel
theorem dX11_noCompany_140 : decode cX11_noCompany 140 = .ok (.getfield 58, 3) := by decide +kernel
theorem dX11_noCompany_143 : decode cX11_noCompany 143 = .ok (.iconst 5, 1) := by decide +kernel
theorem dX11_noCompany_144 : decode cX11_noCompany 144 = .ok (.iload_n 1, 1) := by decide +kernel
theorem dX11_noCompany_145 : decode cX11_noCompany 145 = .ok (.imul, 1) := by decide +kernel
theorem dX11_noCompany_146 : decode cX11_noCompany 146 = .ok (.iconst 3, 1) := by decide +kernel
theorem dX11_noCompany_147 : decode cX11_noCompany 147 = .ok (.iadd, 1) := by decide +kernel
theorem dX11_noCompany_148 : decode cX11_noCompany 148 = .ok (.bipush 100, 2) := by decide +kernel
theorem dX11_noCompany_150 : decode cX11_noCompany 150 = .ok (.iastore, 1) := by decide +kernel
theorem dX11_noCompany_151 : decode cX11_noCompany 151 = .ok (.aload_n 0, 1) := by decide +kernel
theorem dX11_noCompany_152 : decode cX11_noCompany 152 = .ok (.getfield 58, 3) := by decide +kernel
theorem dX11_noCompany_155 : decode cX11_noCompany 155 = .ok (.iconst 5, 1) := by decide +kernel
theorem dX11_noCompany_156 : decode cX11_noCompany 156 = .ok (.iload_n 1, 1) := by decide +kernel
theorem dX11_noCompany_157 : decode cX11_noCompany 157 = .ok (.imul, 1) := by decide +kernel
theorem dX11_noCompany_158 : decode cX11_noCompany 158 = .ok (.iconst 4, 1) := by decide +kernel
theorem dX11_noCompany_159 : decode cX11_noCompany 159 = .ok (.iadd, 1) := by decide +kernel
theorem dX11_noCompany_160 : decode cX11_noCompany 160 = .ok (.iconst 5, 1) := by decide +kernel
theorem dX11_noCompany_161 : decode cX11_noCompany 161 = .ok (.iastore, 1) := by decide +kernel
theorem dX11_noCompany_162 : decode cX11_noCompany 162 = .ok (.return_, 1) := by decide +kernel
theorem dX11_write_0 : decode cX11_write 0 = .ok (.iload_n 1, 1) := by decide +kernel
theorem dX11_write_1 : decode cX11_write 1 = .ok (.i2l, 1) := by decide +kernel
theorem dX11_write_2 : decode cX11_write 2 = .ok (.lconst 1, 1) := by decide +kernel
theorem dX11_write_3 : decode cX11_write 3 = .ok (.ldc2_w 122, 3) := by decide +kernel
theorem dX11_write_6 : decode cX11_write 6 = .ok (.invokestatic 124, 3) := by decide +kernel
theorem dX11_write_9 : decode cX11_write 9 = .ok (.ifCond .ne 5, 3) := by decide +kernel
theorem dX11_write_12 : decode cX11_write 12 = .ok (.iconst (-1), 1) := by decide +kernel
theorem dX11_write_13 : decode cX11_write 13 = .ok (.ireturn, 1) := by decide +kernel
theorem dX11_write_14 : decode cX11_write 14 = .ok (.aload_n 0, 1) := by decide +kernel
theorem dX11_write_15 : decode cX11_write 15 = .ok (.getfield 128, 3) := by decide +kernel
theorem dX11_write_18 : decode cX11_write 18 = .ok (.iload_n 1, 1) := by decide +kernel
theorem dX11_write_19 : decode cX11_write 19 = .ok (.iadd, 1) := by decide +kernel
theorem dX11_write_20 : decode cX11_write 20 = .ok (.sipush 400, 3) := by decide +kernel
theorem dX11_write_23 : decode cX11_write 23 = .ok (.if_icmp .le 6, 3) := by decide +kernel
theorem dX11_write_26 : decode cX11_write 26 = .ok (.bipush (-3), 2) := by decide +kernel
theorem dX11_write_28 : decode cX11_write 28 = .ok (.ireturn, 1) := by decide +kernel
theorem dX11_write_29 : decode cX11_write 29 = .ok (.iload_n 1, 1) := by decide +kernel
theorem dX11_write_30 : decode cX11_write 30 = .ok (.iconst 1, 1) := by decide +kernel
theorem dX11_write_31 : decode cX11_write 31 = .ok (.isub, 1) := by decide +kernel
theorem dX11_write_32 : decode cX11_write 32 = .ok (.istore 4, 2) := by decide +kernel
theorem dX11_write_34 : decode cX11_write 34 = .ok (.iload 4, 2) := by decide +kernel
theorem dX11_write_36 : decode cX11_write 36 = .ok (.ifCond .lt 40, 3) := by decide +kernel
theorem dX11_write_39 : decode cX11_write 39 = .ok (.aload_n 0, 1) := by decide +kernel
theorem dX11_write_40 : decode cX11_write 40 = .ok (.getfield 7, 3) := by decide +kernel
theorem dX11_write_43 : decode cX11_write 43 = .ok (.aload_n 0, 1) := by decide +kernel
theorem dX11_write_44 : decode cX11_write 44 = .ok (.getfield 128, 3) := by decide +kernel
theorem dX11_write_47 : decode cX11_write 47 = .ok (.lload_n 2, 1) := by decide +kernel
theorem dX11_write_48 : decode cX11_write 48 = .ok (.bipush 8, 2) := by decide +kernel
theorem dX11_write_50 : decode cX11_write 50 = .ok (.iload 4, 2) := by decide +kernel
theorem dX11_write_52 : decode cX11_write 52 = .ok (.imul, 1) := by decide +kernel
theorem dX11_write_53 : decode cX11_write 53 = .ok (.lshr, 1) := by decide +kernel
theorem dX11_write_54 : decode cX11_write 54 = .ok (.ldc2_w 132, 3) := by decide +kernel
theorem dX11_write_57 : decode cX11_write 57 = .ok (.land, 1) := by decide +kernel
theorem dX11_write_58 : decode cX11_write 58 = .ok (.l2i, 1) := by decide +kernel
theorem dX11_write_59 : decode cX11_write 59 = .ok (.iastore, 1) := by decide +kernel
theorem dX11_write_60 : decode cX11_write 60 = .ok (.aload_n 0, 1) := by decide +kernel
theorem dX11_write_61 : decode cX11_write 61 = .ok (.dup, 1) := by decide +kernel
theorem dX11_write_62 : decode cX11_write 62 = .ok (.getfield 128, 3) := by decide +kernel
theorem dX11_write_65 : decode cX11_write 65 = .ok (.iconst 1, 1) := by decide +kernel
theorem dX11_write_66 : decode cX11_write 66 = .ok (.iadd, 1) := by decide +kernel
theorem dX11_write_67 : decode cX11_write 67 = .ok (.putfield 128, 3) := by decide +kernel
theorem dX11_write_70 : decode cX11_write 70 = .ok (.iinc 4 (-1), 3) := by decide +kernel
theorem dX11_write_73 : decode cX11_write 73 = .ok (.goto (-39), 3) := by decide +kernel
theorem dX11_write_76 : decode cX11_write 76 = .ok (.aload_n 0, 1) := by decide +kernel
theorem dX11_write_77 : decode cX11_write 77 = .ok (.getfield 128, 3) := by decide +kernel
theorem dX11_write_80 : decode cX11_write 80 = .ok (.ireturn, 1) := by decide +kernel
theorem dX11_wipe_0 : decode cX11_wipe 0 = .ok (.aload_n 0, 1) := by decide +kernel
theorem dX11_wipe_1 : decode cX11_wipe 1 = .ok (.getfield 128, 3) := by decide +kernel
theorem dX11_wipe_4 : decode cX11_wipe 4 = .ok (.istore_n 1, 1) := by decide +kernel
theorem dX11_wipe_5 : decode cX11_wipe 5 = .ok (.aload_n 0, 1) := by decide +kernel
theorem dX11_wipe_6 : decode cX11_wipe 6 = .ok (.iconst 0, 1) := by decide +kernel
theorem dX11_wipe_7 : decode cX11_wipe 7 = .ok (.putfield 128, 3) := by decide +kernel
theorem dX11_wipe_10 : decode cX11_wipe 10 = .ok (.iload_n 1, 1) := by decide +kernel
theorem dX11_wipe_11 : decode cX11_wipe 11 = .ok (.ireturn, 1) := by decide +kernel
theorem dX11_byteAt_0 : decode cX11_byteAt 0 = .ok (.iload_n 1, 1) := by decide +kernel
theorem dX11_byteAt_1 : decode cX11_byteAt 1 = .ok (.aload_n 0, 1) := by decide +kernel
theorem dX11_byteAt_2 : decode cX11_byteAt 2 = .ok (.getfield 128, 3) := by decide +kernel
theorem dX11_byteAt_5 : decode cX11_byteAt 5 = .ok (.if_icmp .ge 12, 3) := by decide +kernel
theorem dX11_byteAt_8 : decode cX11_byteAt 8 = .ok (.aload_n 0, 1) := by decide +kernel
theorem dX11_byteAt_9 : decode cX11_byteAt 9 = .ok (.getfield 7, 3) := by decide +kernel
theorem dX11_byteAt_12 : decode cX11_byteAt 12 = .ok (.iload_n 1, 1) := by decide +kernel
theorem dX11_byteAt_13 : decode cX11_byteAt 13 = .ok (.iaload, 1) := by decide +kernel
theorem dX11_byteAt_14 : decode cX11_byteAt 14 = .ok (.goto 4, 3) := by decide +kernel
theorem dX11_byteAt_17 : decode cX11_byteAt 17 = .ok (.iconst 0, 1) := by decide +kernel
theorem dX11_byteAt_18 : decode cX11_byteAt 18 = .ok (.ireturn, 1) := by decide +kernel
theorem dX11_figures_0 : decode cX11_figures 0 = .ok (.iconst 0, 1) := by decide +kernel
theorem dX11_figures_1 : decode cX11_figures 1 = .ok (.istore_n 2, 1) := by decide +kernel
theorem dX11_figures_2 : decode cX11_figures 2 = .ok (.iload_n 2, 1) := by decide +kernel
theorem dX11_figures_3 : decode cX11_figures 3 = .ok (.iload_n 1, 1) := by decide +kernel
theorem dX11_figures_4 : decode cX11_figures 4 = .ok (.if_icmp .ge 132, 3) := by decide +kernel
theorem dX11_figures_7 : decode cX11_figures 7 = .ok (.iconst 0, 1) := by decide +kernel
theorem dX11_figures_8 : decode cX11_figures 8 = .ok (.istore_n 3, 1) := by decide +kernel
theorem dX11_figures_9 : decode cX11_figures 9 = .ok (.iconst 0, 1) := by decide +kernel
theorem dX11_figures_10 : decode cX11_figures 10 = .ok (.istore 4, 2) := by decide +kernel
theorem dX11_figures_12 : decode cX11_figures 12 = .ok (.aload_n 0, 1) := by decide +kernel
theorem dX11_figures_13 : decode cX11_figures 13 = .ok (.aload_n 0, 1) := by decide +kernel
theorem dX11_figures_14 : decode cX11_figures 14 = .ok (.getfield 134, 3) := by decide +kernel
theorem dX11_figures_17 : decode cX11_figures 17 = .ok (.invokevirtual 137, 3) := by decide +kernel
theorem dX11_figures_20 : decode cX11_figures 20 = .ok (.i2l, 1) := by decide +kernel
theorem dX11_figures_21 : decode cX11_figures 21 = .ok (.ldc2_w 141, 3) := by decide +kernel
theorem dX11_figures_24 : decode cX11_figures 24 = .ok (.ldc2_w 143, 3) := by decide +kernel
theorem dX11_figures_27 : decode cX11_figures 27 = .ok (.invokestatic 124, 3) := by decide +kernel
theorem dX11_figures_30 : decode cX11_figures 30 = .ok (.ifCond .eq 43, 3) := by decide +kernel
theorem dX11_figures_33 : decode cX11_figures 33 = .ok (.iload_n 3, 1) := by decide +kernel
theorem dX11_figures_34 : decode cX11_figures 34 = .ok (.iconst 4, 1) := by decide +kernel
theorem dX11_figures_35 : decode cX11_figures 35 = .ok (.if_icmp .ge 38, 3) := by decide +kernel
theorem dX11_figures_38 : decode cX11_figures 38 = .ok (.bipush 10, 2) := by decide +kernel
theorem dX11_figures_40 : decode cX11_figures 40 = .ok (.iload 4, 2) := by decide +kernel
theorem dX11_figures_42 : decode cX11_figures 42 = .ok (.imul, 1) := by decide +kernel
theorem dX11_figures_43 : decode cX11_figures 43 = .ok (.aload_n 0, 1) := by decide +kernel
theorem dX11_figures_44 : decode cX11_figures 44 = .ok (.aload_n 0, 1) := by decide +kernel
theorem dX11_figures_45 : decode cX11_figures 45 = .ok (.getfield 134, 3) := by decide +kernel
theorem dX11_figures_48 : decode cX11_figures 48 = .ok (.invokevirtual 137, 3) := by decide +kernel
theorem dX11_figures_51 : decode cX11_figures 51 = .ok (.iadd, 1) := by decide +kernel
theorem dX11_figures_52 : decode cX11_figures 52 = .ok (.bipush 48, 2) := by decide +kernel
theorem dX11_figures_54 : decode cX11_figures 54 = .ok (.isub, 1) := by decide +kernel
theorem dX11_figures_55 : decode cX11_figures 55 = .ok (.istore 4, 2) := by decide +kernel
theorem dX11_figures_57 : decode cX11_figures 57 = .ok (.iinc 3 1, 3) := by decide +kernel
theorem dX11_figures_60 : decode cX11_figures 60 = .ok (.aload_n 0, 1) := by decide +kernel
theorem dX11_figures_61 : decode cX11_figures 61 = .ok (.dup, 1) := by decide +kernel
theorem dX11_figures_62 : decode cX11_figures 62 = .ok (.getfield 134, 3) := by decide +kernel
theorem dX11_figures_65 : decode cX11_figures 65 = .ok (.iconst 1, 1) := by decide +kernel
theorem dX11_figures_66 : decode cX11_figures 66 = .ok (.iadd, 1) := by decide +kernel
theorem dX11_figures_67 : decode cX11_figures 67 = .ok (.putfield 134, 3) := by decide +kernel
theorem dX11_figures_70 : decode cX11_figures 70 = .ok (.goto (-58), 3) := by decide +kernel
theorem dX11_figures_73 : decode cX11_figures 73 = .ok (.iload_n 3, 1) := by decide +kernel
theorem dX11_figures_74 : decode cX11_figures 74 = .ok (.i2l, 1) := by decide +kernel
theorem dX11_figures_75 : decode cX11_figures 75 = .ok (.lconst 1, 1) := by decide +kernel
theorem dX11_figures_76 : decode cX11_figures 76 = .ok (.ldc2_w 145, 3) := by decide +kernel
theorem dX11_figures_79 : decode cX11_figures 79 = .ok (.invokestatic 124, 3) := by decide +kernel
theorem dX11_figures_82 : decode cX11_figures 82 = .ok (.ifCond .eq 28, 3) := by decide +kernel
theorem dX11_figures_85 : decode cX11_figures 85 = .ok (.aload_n 0, 1) := by decide +kernel
theorem dX11_figures_86 : decode cX11_figures 86 = .ok (.aload_n 0, 1) := by decide +kernel
theorem dX11_figures_87 : decode cX11_figures 87 = .ok (.getfield 134, 3) := by decide +kernel
theorem dX11_figures_90 : decode cX11_figures 90 = .ok (.invokevirtual 137, 3) := by decide +kernel
theorem dX11_figures_93 : decode cX11_figures 93 = .ok (.iload_n 2, 1) := by decide +kernel
theorem dX11_figures_94 : decode cX11_figures 94 = .ok (.iload_n 1, 1) := by decide +kernel
theorem dX11_figures_95 : decode cX11_figures 95 = .ok (.iconst 1, 1) := by decide +kernel
theorem dX11_figures_96 : decode cX11_figures 96 = .ok (.isub, 1) := by decide +kernel
theorem dX11_figures_97 : decode cX11_figures 97 = .ok (.if_icmp .ge 8, 3) := by decide +kernel
theorem dX11_figures_100 : decode cX11_figures 100 = .ok (.bipush 44, 2) := by decide +kernel
theorem dX11_figures_102 : decode cX11_figures 102 = .ok (.goto 5, 3) := by decide +kernel
theorem dX11_figures_105 : decode cX11_figures 105 = .ok (.bipush 59, 2) := by decide +kernel
theorem dX11_figures_107 : decode cX11_figures 107 = .ok (.if_icmp .eq 5, 3) := by decide +kernel
theorem dX11_figures_110 : decode cX11_figures 110 = .ok (.iconst 0, 1) := by decide +kernel
theorem dX11_figures_111 : decode cX11_figures 111 = .ok (.ireturn, 1) := by decide +kernel
theorem dX11_figures_112 : decode cX11_figures 112 = .ok (.aload_n 0, 1) := by decide +kernel
theorem dX11_figures_113 : decode cX11_figures 113 = .ok (.getfield 73, 3) := by decide +kernel
theorem dX11_figures_116 : decode cX11_figures 116 = .ok (.iload_n 2, 1) := by decide +kernel
theorem dX11_figures_117 : decode cX11_figures 117 = .ok (.iload 4, 2) := by decide +kernel
theorem dX11_figures_119 : decode cX11_figures 119 = .ok (.iastore, 1) := by decide +kernel
theorem dX11_figures_120 : decode cX11_figures 120 = .ok (.aload_n 0, 1) := by decide +kernel
theorem dX11_figures_121 : decode cX11_figures 121 = .ok (.dup, 1) := by decide +kernel
theorem dX11_figures_122 : decode cX11_figures 122 = .ok (.getfield 134, 3) := by decide +kernel
theorem dX11_figures_125 : decode cX11_figures 125 = .ok (.iconst 1, 1) := by decide +kernel
theorem dX11_figures_126 : decode cX11_figures 126 = .ok (.iadd, 1) := by decide +kernel
theorem dX11_figures_127 : decode cX11_figures 127 = .ok (.putfield 134, 3) := by decide +kernel
theorem dX11_figures_130 : decode cX11_figures 130 = .ok (.iinc 2 1, 3) := by decide +kernel
theorem dX11_figures_133 : decode cX11_figures 133 = .ok (.goto (-131), 3) := by decide +kernel
theorem dX11_figures_136 : decode cX11_figures 136 = .ok (.iconst 1, 1) := by decide +kernel
theorem dX11_figures_137 : decode cX11_figures 137 = .ok (.ireturn, 1) := by decide +kernel
theorem dX11_playerItem_0 : decode cX11_playerItem 0 = .ok (.aload_n 0, 1) := by decide +kernel
theorem dX11_playerItem_1 : decode cX11_playerItem 1 = .ok (.getfield 13, 3) := by decide +kernel
theorem dX11_playerItem_4 : decode cX11_playerItem 4 = .ok (.iconst 1, 1) := by decide +kernel
theorem dX11_playerItem_5 : decode cX11_playerItem 5 = .ok (.iaload, 1) := by decide +kernel
theorem dX11_playerItem_6 : decode cX11_playerItem 6 = .ok (.istore_n 1, 1) := by decide +kernel
theorem dX11_playerItem_7 : decode cX11_playerItem 7 = .ok (.aload_n 0, 1) := by decide +kernel
theorem dX11_playerItem_8 : decode cX11_playerItem 8 = .ok (.iconst 2, 1) := by decide +kernel
theorem dX11_playerItem_9 : decode cX11_playerItem 9 = .ok (.invokevirtual 147, 3) := by decide +kernel
theorem dX11_playerItem_12 : decode cX11_playerItem 12 = .ok (.ifCond .eq 31, 3) := by decide +kernel
theorem dX11_playerItem_15 : decode cX11_playerItem 15 = .ok (.iload_n 1, 1) := by decide +kernel
theorem dX11_playerItem_16 : decode cX11_playerItem 16 = .ok (.bipush 10, 2) := by decide +kernel
theorem dX11_playerItem_18 : decode cX11_playerItem 18 = .ok (.if_icmp .eq 25, 3) := by decide +kernel
theorem dX11_playerItem_21 : decode cX11_playerItem 21 = .ok (.aload_n 0, 1) := by decide +kernel
theorem dX11_playerItem_22 : decode cX11_playerItem 22 = .ok (.getfield 73, 3) := by decide +kernel
theorem dX11_playerItem_25 : decode cX11_playerItem 25 = .ok (.iconst 0, 1) := by decide +kernel
theorem dX11_playerItem_26 : decode cX11_playerItem 26 = .ok (.iaload, 1) := by decide +kernel
theorem dX11_playerItem_27 : decode cX11_playerItem 27 = .ok (.bipush 99, 2) := by decide +kernel
theorem dX11_playerItem_29 : decode cX11_playerItem 29 = .ok (.if_icmp .gt 14, 3) := by decide +kernel
theorem dX11_playerItem_32 : decode cX11_playerItem 32 = .ok (.aload_n 0, 1) := by decide +kernel
theorem dX11_playerItem_33 : decode cX11_playerItem 33 = .ok (.getfield 73, 3) := by decide +kernel
theorem dX11_playerItem_36 : decode cX11_playerItem 36 = .ok (.iconst 1, 1) := by decide +kernel
theorem dX11_playerItem_37 : decode cX11_playerItem 37 = .ok (.iaload, 1) := by decide +kernel
theorem dX11_playerItem_38 : decode cX11_playerItem 38 = .ok (.bipush 15, 2) := by decide +kernel
theorem dX11_playerItem_40 : decode cX11_playerItem 40 = .ok (.if_icmp .le 5, 3) := by decide +kernel
theorem dX11_playerItem_43 : decode cX11_playerItem 43 = .ok (.iconst 0, 1) := by decide +kernel
theorem dX11_playerItem_44 : decode cX11_playerItem 44 = .ok (.ireturn, 1) := by decide +kernel
theorem dX11_playerItem_45 : decode cX11_playerItem 45 = .ok (.aload_n 0, 1) := by decide +kernel
theorem dX11_playerItem_46 : decode cX11_playerItem 46 = .ok (.getfield 16, 3) := by decide +kernel
theorem dX11_playerItem_49 : decode cX11_playerItem 49 = .ok (.bipush 10, 2) := by decide +kernel
theorem dX11_playerItem_51 : decode cX11_playerItem 51 = .ok (.iload_n 1, 1) := by decide +kernel
theorem dX11_playerItem_52 : decode cX11_playerItem 52 = .ok (.iadd, 1) := by decide +kernel
theorem dX11_playerItem_53 : decode cX11_playerItem 53 = .ok (.aload_n 0, 1) := by decide +kernel
theorem dX11_playerItem_54 : decode cX11_playerItem 54 = .ok (.getfield 73, 3) := by decide +kernel
theorem dX11_playerItem_57 : decode cX11_playerItem 57 = .ok (.iconst 0, 1) := by decide +kernel
theorem dX11_playerItem_58 : decode cX11_playerItem 58 = .ok (.iaload, 1) := by decide +kernel
theorem dX11_playerItem_59 : decode cX11_playerItem 59 = .ok (.iastore, 1) := by decide +kernel
theorem dX11_playerItem_60 : decode cX11_playerItem 60 = .ok (.aload_n 0, 1) := by decide +kernel
theorem dX11_playerItem_61 : decode cX11_playerItem 61 = .ok (.getfield 19, 3) := by decide +kernel
theorem dX11_playerItem_64 : decode cX11_playerItem 64 = .ok (.bipush 10, 2) := by decide +kernel
theorem dX11_playerItem_66 : decode cX11_playerItem 66 = .ok (.iload_n 1, 1) := by decide +kernel
theorem dX11_playerItem_67 : decode cX11_playerItem 67 = .ok (.iadd, 1) := by decide +kernel
theorem dX11_playerItem_68 : decode cX11_playerItem 68 = .ok (.aload_n 0, 1) := by decide +kernel
theorem dX11_playerItem_69 : decode cX11_playerItem 69 = .ok (.getfield 73, 3) := by decide +kernel
theorem dX11_playerItem_72 : decode cX11_playerItem 72 = .ok (.iconst 1, 1) := by decide +kernel
theorem dX11_playerItem_73 : decode cX11_playerItem 73 = .ok (.iaload, 1) := by decide +kernel
theorem dX11_playerItem_74 : decode cX11_playerItem 74 = .ok (.iastore, 1) := by decide +kernel
theorem dX11_playerItem_75 : decode cX11_playerItem 75 = .ok (.aload_n 0, 1) := by decide +kernel
theorem dX11_playerItem_76 : decode cX11_playerItem 76 = .ok (.getfield 13, 3) := by decide +kernel
theorem dX11_playerItem_79 : decode cX11_playerItem 79 = .ok (.iconst 1, 1) := by decide +kernel
theorem dX11_playerItem_80 : decode cX11_playerItem 80 = .ok (.dup2, 1) := by decide +kernel
theorem dX11_playerItem_81 : decode cX11_playerItem 81 = .ok (.iaload, 1) := by decide +kernel
theorem dX11_playerItem_82 : decode cX11_playerItem 82 = .ok (.iconst 1, 1) := by decide +kernel
theorem dX11_playerItem_83 : decode cX11_playerItem 83 = .ok (.iadd, 1) := by decide +kernel
theorem dX11_playerItem_84 : decode cX11_playerItem 84 = .ok (.iastore, 1) := by decide +kernel
theorem dX11_playerItem_85 : decode cX11_playerItem 85 = .ok (.iconst 1, 1) := by decide +kernel
theorem dX11_playerItem_86 : decode cX11_playerItem 86 = .ok (.ireturn, 1) := by decide +kernel
theorem dX11_partItem_0 : decode cX11_partItem 0 = .ok (.aload_n 0, 1) := by decide +kernel
theorem dX11_partItem_1 : decode cX11_partItem 1 = .ok (.getfield 22, 3) := by decide +kernel
theorem dX11_partItem_4 : decode cX11_partItem 4 = .ok (.iconst 1, 1) := by decide +kernel
theorem dX11_partItem_5 : decode cX11_partItem 5 = .ok (.iaload, 1) := by decide +kernel
theorem dX11_partItem_6 : decode cX11_partItem 6 = .ok (.istore_n 1, 1) := by decide +kernel
theorem dX11_partItem_7 : decode cX11_partItem 7 = .ok (.aload_n 0, 1) := by decide +kernel
theorem dX11_partItem_8 : decode cX11_partItem 8 = .ok (.iconst 4, 1) := by decide +kernel
theorem dX11_partItem_9 : decode cX11_partItem 9 = .ok (.invokevirtual 147, 3) := by decide +kernel
theorem dX11_partItem_12 : decode cX11_partItem 12 = .ok (.ifCond .eq 50, 3) := by decide +kernel
theorem dX11_partItem_15 : decode cX11_partItem 15 = .ok (.iload_n 1, 1) := by decide +kernel
theorem dX11_partItem_16 : decode cX11_partItem 16 = .ok (.bipush 8, 2) := by decide +kernel
theorem dX11_partItem_18 : decode cX11_partItem 18 = .ok (.if_icmp .eq 44, 3) := by decide +kernel
theorem dX11_partItem_21 : decode cX11_partItem 21 = .ok (.aload_n 0, 1) := by decide +kernel
theorem dX11_partItem_22 : decode cX11_partItem 22 = .ok (.getfield 73, 3) := by decide +kernel
theorem dX11_partItem_25 : decode cX11_partItem 25 = .ok (.iconst 0, 1) := by decide +kernel
theorem dX11_partItem_26 : decode cX11_partItem 26 = .ok (.iaload, 1) := by decide +kernel
theorem dX11_partItem_27 : decode cX11_partItem 27 = .ok (.bipush 99, 2) := by decide +kernel
theorem dX11_partItem_29 : decode cX11_partItem 29 = .ok (.if_icmp .gt 33, 3) := by decide +kernel
theorem dX11_partItem_32 : decode cX11_partItem 32 = .ok (.aload_n 0, 1) := by decide +kernel
theorem dX11_partItem_33 : decode cX11_partItem 33 = .ok (.getfield 73, 3) := by decide +kernel
theorem dX11_partItem_36 : decode cX11_partItem 36 = .ok (.iconst 1, 1) := by decide +kernel
theorem dX11_partItem_37 : decode cX11_partItem 37 = .ok (.iaload, 1) := by decide +kernel
theorem dX11_partItem_38 : decode cX11_partItem 38 = .ok (.bipush 15, 2) := by decide +kernel
theorem dX11_partItem_40 : decode cX11_partItem 40 = .ok (.if_icmp .gt 22, 3) := by decide +kernel
theorem dX11_partItem_43 : decode cX11_partItem 43 = .ok (.aload_n 0, 1) := by decide +kernel
theorem dX11_partItem_44 : decode cX11_partItem 44 = .ok (.getfield 73, 3) := by decide +kernel
theorem dX11_partItem_47 : decode cX11_partItem 47 = .ok (.iconst 2, 1) := by decide +kernel
theorem dX11_partItem_48 : decode cX11_partItem 48 = .ok (.iaload, 1) := by decide +kernel
theorem dX11_partItem_49 : decode cX11_partItem 49 = .ok (.ifCond .eq 13, 3) := by decide +kernel
theorem dX11_partItem_52 : decode cX11_partItem 52 = .ok (.aload_n 0, 1) := by decide +kernel
theorem dX11_partItem_53 : decode cX11_partItem 53 = .ok (.getfield 73, 3) := by decide +kernel
theorem dX11_partItem_56 : decode cX11_partItem 56 = .ok (.iconst 3, 1) := by decide +kernel
theorem dX11_partItem_57 : decode cX11_partItem 57 = .ok (.iaload, 1) := by decide +kernel
theorem dX11_partItem_58 : decode cX11_partItem 58 = .ok (.iconst 1, 1) := by decide +kernel
theorem dX11_partItem_59 : decode cX11_partItem 59 = .ok (.if_icmp .le 5, 3) := by decide +kernel
theorem dX11_partItem_62 : decode cX11_partItem 62 = .ok (.iconst 0, 1) := by decide +kernel
theorem dX11_partItem_63 : decode cX11_partItem 63 = .ok (.ireturn, 1) := by decide +kernel
theorem dX11_partItem_64 : decode cX11_partItem 64 = .ok (.aload_n 0, 1) := by decide +kernel
theorem dX11_partItem_65 : decode cX11_partItem 65 = .ok (.getfield 25, 3) := by decide +kernel
theorem dX11_partItem_68 : decode cX11_partItem 68 = .ok (.bipush 8, 2) := by decide +kernel
theorem dX11_partItem_70 : decode cX11_partItem 70 = .ok (.iload_n 1, 1) := by decide +kernel
theorem dX11_partItem_71 : decode cX11_partItem 71 = .ok (.iadd, 1) := by decide +kernel
theorem dX11_partItem_72 : decode cX11_partItem 72 = .ok (.aload_n 0, 1) := by decide +kernel
theorem dX11_partItem_73 : decode cX11_partItem 73 = .ok (.getfield 73, 3) := by decide +kernel
theorem dX11_partItem_76 : decode cX11_partItem 76 = .ok (.iconst 0, 1) := by decide +kernel
theorem dX11_partItem_77 : decode cX11_partItem 77 = .ok (.iaload, 1) := by decide +kernel
theorem dX11_partItem_78 : decode cX11_partItem 78 = .ok (.iastore, 1) := by decide +kernel
theorem dX11_partItem_79 : decode cX11_partItem 79 = .ok (.aload_n 0, 1) := by decide +kernel
theorem dX11_partItem_80 : decode cX11_partItem 80 = .ok (.getfield 28, 3) := by decide +kernel
theorem dX11_partItem_83 : decode cX11_partItem 83 = .ok (.bipush 8, 2) := by decide +kernel
theorem dX11_partItem_85 : decode cX11_partItem 85 = .ok (.iload_n 1, 1) := by decide +kernel
theorem dX11_partItem_86 : decode cX11_partItem 86 = .ok (.iadd, 1) := by decide +kernel
theorem dX11_partItem_87 : decode cX11_partItem 87 = .ok (.aload_n 0, 1) := by decide +kernel
theorem dX11_partItem_88 : decode cX11_partItem 88 = .ok (.getfield 73, 3) := by decide +kernel
theorem dX11_partItem_91 : decode cX11_partItem 91 = .ok (.iconst 1, 1) := by decide +kernel
theorem dX11_partItem_92 : decode cX11_partItem 92 = .ok (.iaload, 1) := by decide +kernel
theorem dX11_partItem_93 : decode cX11_partItem 93 = .ok (.iastore, 1) := by decide +kernel
theorem dX11_partItem_94 : decode cX11_partItem 94 = .ok (.aload_n 0, 1) := by decide +kernel
theorem dX11_partItem_95 : decode cX11_partItem 95 = .ok (.getfield 31, 3) := by decide +kernel
theorem dX11_partItem_98 : decode cX11_partItem 98 = .ok (.bipush 8, 2) := by decide +kernel
theorem dX11_partItem_100 : decode cX11_partItem 100 = .ok (.iload_n 1, 1) := by decide +kernel
theorem dX11_partItem_101 : decode cX11_partItem 101 = .ok (.iadd, 1) := by decide +kernel
theorem dX11_partItem_102 : decode cX11_partItem 102 = .ok (.aload_n 0, 1) := by decide +kernel
theorem dX11_partItem_103 : decode cX11_partItem 103 = .ok (.getfield 73, 3) := by decide +kernel
theorem dX11_partItem_106 : decode cX11_partItem 106 = .ok (.iconst 2, 1) := by decide +kernel
theorem dX11_partItem_107 : decode cX11_partItem 107 = .ok (.iaload, 1) := by decide +kernel
theorem dX11_partItem_108 : decode cX11_partItem 108 = .ok (.iastore, 1) := by decide +kernel
theorem dX11_partItem_109 : decode cX11_partItem 109 = .ok (.aload_n 0, 1) := by decide +kernel
theorem dX11_partItem_110 : decode cX11_partItem 110 = .ok (.getfield 34, 3) := by decide +kernel
theorem dX11_partItem_113 : decode cX11_partItem 113 = .ok (.bipush 8, 2) := by decide +kernel
theorem dX11_partItem_115 : decode cX11_partItem 115 = .ok (.iload_n 1, 1) := by decide +kernel
theorem dX11_partItem_116 : decode cX11_partItem 116 = .ok (.iadd, 1) := by decide +kernel
theorem dX11_partItem_117 : decode cX11_partItem 117 = .ok (.aload_n 0, 1) := by decide +kernel
theorem dX11_partItem_118 : decode cX11_partItem 118 = .ok (.getfield 73, 3) := by decide +kernel
theorem dX11_partItem_121 : decode cX11_partItem 121 = .ok (.iconst 3, 1) := by decide +kernel
theorem dX11_partItem_122 : decode cX11_partItem 122 = .ok (.iaload, 1) := by decide +kernel
theorem dX11_partItem_123 : decode cX11_partItem 123 = .ok (.iastore, 1) := by decide +kernel
theorem dX11_partItem_124 : decode cX11_partItem 124 = .ok (.aload_n 0, 1) := by decide +kernel
theorem dX11_partItem_125 : decode cX11_partItem 125 = .ok (.getfield 22, 3) := by decide +kernel
theorem dX11_partItem_128 : decode cX11_partItem 128 = .ok (.iconst 1, 1) := by decide +kernel
theorem dX11_partItem_129 : decode cX11_partItem 129 = .ok (.dup2, 1) := by decide +kernel
theorem dX11_partItem_130 : decode cX11_partItem 130 = .ok (.iaload, 1) := by decide +kernel
theorem dX11_partItem_131 : decode cX11_partItem 131 = .ok (.iconst 1, 1) := by decide +kernel
theorem dX11_partItem_132 : decode cX11_partItem 132 = .ok (.iadd, 1) := by decide +kernel
theorem dX11_partItem_133 : decode cX11_partItem 133 = .ok (.iastore, 1) := by decide +kernel
theorem dX11_partItem_134 : decode cX11_partItem 134 = .ok (.iconst 1, 1) := by decide +kernel
theorem dX11_partItem_135 : decode cX11_partItem 135 = .ok (.ireturn, 1) := by decide +kernel
theorem dX11_sceneItem_0 : decode cX11_sceneItem 0 = .ok (.aload_n 0, 1) := by decide +kernel
theorem dX11_sceneItem_1 : decode cX11_sceneItem 1 = .ok (.getfield 40, 3) := by decide +kernel
theorem dX11_sceneItem_4 : decode cX11_sceneItem 4 = .ok (.iconst 1, 1) := by decide +kernel
theorem dX11_sceneItem_5 : decode cX11_sceneItem 5 = .ok (.iaload, 1) := by decide +kernel
theorem dX11_sceneItem_6 : decode cX11_sceneItem 6 = .ok (.istore_n 1, 1) := by decide +kernel
theorem dX11_sceneItem_7 : decode cX11_sceneItem 7 = .ok (.aload_n 0, 1) := by decide +kernel
theorem dX11_sceneItem_8 : decode cX11_sceneItem 8 = .ok (.iconst 2, 1) := by decide +kernel
theorem dX11_sceneItem_9 : decode cX11_sceneItem 9 = .ok (.invokevirtual 147, 3) := by decide +kernel
theorem dX11_sceneItem_12 : decode cX11_sceneItem 12 = .ok (.ifCond .eq 51, 3) := by decide +kernel
theorem dX11_sceneItem_15 : decode cX11_sceneItem 15 = .ok (.iload_n 1, 1) := by decide +kernel
theorem dX11_sceneItem_16 : decode cX11_sceneItem 16 = .ok (.bipush 10, 2) := by decide +kernel
theorem dX11_sceneItem_18 : decode cX11_sceneItem 18 = .ok (.if_icmp .eq 45, 3) := by decide +kernel
theorem dX11_sceneItem_21 : decode cX11_sceneItem 21 = .ok (.aload_n 0, 1) := by decide +kernel
theorem dX11_sceneItem_22 : decode cX11_sceneItem 22 = .ok (.getfield 73, 3) := by decide +kernel
theorem dX11_sceneItem_25 : decode cX11_sceneItem 25 = .ok (.iconst 0, 1) := by decide +kernel
theorem dX11_sceneItem_26 : decode cX11_sceneItem 26 = .ok (.iaload, 1) := by decide +kernel
theorem dX11_sceneItem_27 : decode cX11_sceneItem 27 = .ok (.i2l, 1) := by decide +kernel
theorem dX11_sceneItem_28 : decode cX11_sceneItem 28 = .ok (.lconst 1, 1) := by decide +kernel
theorem dX11_sceneItem_29 : decode cX11_sceneItem 29 = .ok (.iconst 1, 1) := by decide +kernel
theorem dX11_sceneItem_30 : decode cX11_sceneItem 30 = .ok (.aload_n 0, 1) := by decide +kernel
theorem dX11_sceneItem_31 : decode cX11_sceneItem 31 = .ok (.getfield 22, 3) := by decide +kernel
theorem dX11_sceneItem_34 : decode cX11_sceneItem 34 = .ok (.iconst 1, 1) := by decide +kernel
theorem dX11_sceneItem_35 : decode cX11_sceneItem 35 = .ok (.iaload, 1) := by decide +kernel
theorem dX11_sceneItem_36 : decode cX11_sceneItem 36 = .ok (.ishl, 1) := by decide +kernel
theorem dX11_sceneItem_37 : decode cX11_sceneItem 37 = .ok (.iconst 1, 1) := by decide +kernel
theorem dX11_sceneItem_38 : decode cX11_sceneItem 38 = .ok (.isub, 1) := by decide +kernel
theorem dX11_sceneItem_39 : decode cX11_sceneItem 39 = .ok (.i2l, 1) := by decide +kernel
theorem dX11_sceneItem_40 : decode cX11_sceneItem 40 = .ok (.invokestatic 124, 3) := by decide +kernel
theorem dX11_sceneItem_43 : decode cX11_sceneItem 43 = .ok (.ifCond .eq 20, 3) := by decide +kernel
theorem dX11_sceneItem_46 : decode cX11_sceneItem 46 = .ok (.aload_n 0, 1) := by decide +kernel
theorem dX11_sceneItem_47 : decode cX11_sceneItem 47 = .ok (.getfield 73, 3) := by decide +kernel
theorem dX11_sceneItem_50 : decode cX11_sceneItem 50 = .ok (.iconst 1, 1) := by decide +kernel
theorem dX11_sceneItem_51 : decode cX11_sceneItem 51 = .ok (.iaload, 1) := by decide +kernel
theorem dX11_sceneItem_52 : decode cX11_sceneItem 52 = .ok (.i2l, 1) := by decide +kernel
theorem dX11_sceneItem_53 : decode cX11_sceneItem 53 = .ok (.lconst 1, 1) := by decide +kernel
theorem dX11_sceneItem_54 : decode cX11_sceneItem 54 = .ok (.ldc2_w 151, 3) := by decide +kernel
theorem dX11_sceneItem_57 : decode cX11_sceneItem 57 = .ok (.invokestatic 124, 3) := by decide +kernel
theorem dX11_sceneItem_60 : decode cX11_sceneItem 60 = .ok (.ifCond .ne 5, 3) := by decide +kernel
theorem dX11_sceneItem_63 : decode cX11_sceneItem 63 = .ok (.iconst 0, 1) := by decide +kernel
theorem dX11_sceneItem_64 : decode cX11_sceneItem 64 = .ok (.ireturn, 1) := by decide +kernel
theorem dX11_sceneItem_65 : decode cX11_sceneItem 65 = .ok (.aload_n 0, 1) := by decide +kernel
theorem dX11_sceneItem_66 : decode cX11_sceneItem 66 = .ok (.getfield 43, 3) := by decide +kernel
theorem dX11_sceneItem_69 : decode cX11_sceneItem 69 = .ok (.bipush 10, 2) := by decide +kernel
theorem dX11_sceneItem_71 : decode cX11_sceneItem 71 = .ok (.iload_n 1, 1) := by decide +kernel
theorem dX11_sceneItem_72 : decode cX11_sceneItem 72 = .ok (.iadd, 1) := by decide +kernel
theorem dX11_sceneItem_73 : decode cX11_sceneItem 73 = .ok (.aload_n 0, 1) := by decide +kernel
theorem dX11_sceneItem_74 : decode cX11_sceneItem 74 = .ok (.getfield 73, 3) := by decide +kernel
theorem dX11_sceneItem_77 : decode cX11_sceneItem 77 = .ok (.iconst 0, 1) := by decide +kernel
theorem dX11_sceneItem_78 : decode cX11_sceneItem 78 = .ok (.iaload, 1) := by decide +kernel
theorem dX11_sceneItem_79 : decode cX11_sceneItem 79 = .ok (.iastore, 1) := by decide +kernel
theorem dX11_sceneItem_80 : decode cX11_sceneItem 80 = .ok (.aload_n 0, 1) := by decide +kernel
theorem dX11_sceneItem_81 : decode cX11_sceneItem 81 = .ok (.getfield 46, 3) := by decide +kernel
theorem dX11_sceneItem_84 : decode cX11_sceneItem 84 = .ok (.bipush 10, 2) := by decide +kernel
theorem dX11_sceneItem_86 : decode cX11_sceneItem 86 = .ok (.iload_n 1, 1) := by decide +kernel
theorem dX11_sceneItem_87 : decode cX11_sceneItem 87 = .ok (.iadd, 1) := by decide +kernel
theorem dX11_sceneItem_88 : decode cX11_sceneItem 88 = .ok (.aload_n 0, 1) := by decide +kernel
theorem dX11_sceneItem_89 : decode cX11_sceneItem 89 = .ok (.getfield 73, 3) := by decide +kernel
theorem dX11_sceneItem_92 : decode cX11_sceneItem 92 = .ok (.iconst 1, 1) := by decide +kernel
theorem dX11_sceneItem_93 : decode cX11_sceneItem 93 = .ok (.iaload, 1) := by decide +kernel
theorem dX11_sceneItem_94 : decode cX11_sceneItem 94 = .ok (.iastore, 1) := by decide +kernel
theorem dX11_sceneItem_95 : decode cX11_sceneItem 95 = .ok (.aload_n 0, 1) := by decide +kernel
theorem dX11_sceneItem_96 : decode cX11_sceneItem 96 = .ok (.getfield 40, 3) := by decide +kernel
theorem dX11_sceneItem_99 : decode cX11_sceneItem 99 = .ok (.iconst 1, 1) := by decide +kernel
theorem dX11_sceneItem_100 : decode cX11_sceneItem 100 = .ok (.dup2, 1) := by decide +kernel
theorem dX11_sceneItem_101 : decode cX11_sceneItem 101 = .ok (.iaload, 1) := by decide +kernel
theorem dX11_sceneItem_102 : decode cX11_sceneItem 102 = .ok (.iconst 1, 1) := by decide +kernel
theorem dX11_sceneItem_103 : decode cX11_sceneItem 103 = .ok (.iadd, 1) := by decide +kernel
theorem dX11_sceneItem_104 : decode cX11_sceneItem 104 = .ok (.iastore, 1) := by decide +kernel
theorem dX11_sceneItem_105 : decode cX11_sceneItem 105 = .ok (.iconst 1, 1) := by decide +kernel
theorem dX11_sceneItem_106 : decode cX11_sceneItem 106 = .ok (.ireturn, 1) := by decide +kernel
theorem dX11_isPair_0 : decode cX11_isPair 0 = .ok (.aload_n 0, 1) := by decide +kernel
theorem dX11_isPair_1 : decode cX11_isPair 1 = .ok (.iconst 2, 1) := by decide +kernel
theorem dX11_isPair_2 : decode cX11_isPair 2 = .ok (.invokevirtual 147, 3) := by decide +kernel
theorem dX11_isPair_5 : decode cX11_isPair 5 = .ok (.ifCond .eq 37, 3) := by decide +kernel
theorem dX11_isPair_8 : decode cX11_isPair 8 = .ok (.aload_n 0, 1) := by decide +kernel
theorem dX11_isPair_9 : decode cX11_isPair 9 = .ok (.getfield 73, 3) := by decide +kernel
theorem dX11_isPair_12 : decode cX11_isPair 12 = .ok (.iconst 0, 1) := by decide +kernel
theorem dX11_isPair_13 : decode cX11_isPair 13 = .ok (.iaload, 1) := by decide +kernel
theorem dX11_isPair_14 : decode cX11_isPair 14 = .ok (.aload_n 0, 1) := by decide +kernel
theorem dX11_isPair_15 : decode cX11_isPair 15 = .ok (.getfield 13, 3) := by decide +kernel
theorem dX11_isPair_18 : decode cX11_isPair 18 = .ok (.iconst 1, 1) := by decide +kernel
theorem dX11_isPair_19 : decode cX11_isPair 19 = .ok (.iaload, 1) := by decide +kernel
theorem dX11_isPair_20 : decode cX11_isPair 20 = .ok (.if_icmp .ge 22, 3) := by decide +kernel
theorem dX11_isPair_23 : decode cX11_isPair 23 = .ok (.aload_n 0, 1) := by decide +kernel
theorem dX11_isPair_24 : decode cX11_isPair 24 = .ok (.getfield 73, 3) := by decide +kernel
theorem dX11_isPair_27 : decode cX11_isPair 27 = .ok (.iconst 1, 1) := by decide +kernel
theorem dX11_isPair_28 : decode cX11_isPair 28 = .ok (.iaload, 1) := by decide +kernel
theorem dX11_isPair_29 : decode cX11_isPair 29 = .ok (.aload_n 0, 1) := by decide +kernel
theorem dX11_isPair_30 : decode cX11_isPair 30 = .ok (.getfield 22, 3) := by decide +kernel
theorem dX11_isPair_33 : decode cX11_isPair 33 = .ok (.iconst 1, 1) := by decide +kernel
theorem dX11_isPair_34 : decode cX11_isPair 34 = .ok (.iaload, 1) := by decide +kernel
theorem dX11_isPair_35 : decode cX11_isPair 35 = .ok (.if_icmp .ge 7, 3) := by decide +kernel
theorem dX11_isPair_38 : decode cX11_isPair 38 = .ok (.iconst 1, 1) := by decide +kernel
theorem dX11_isPair_39 : decode cX11_isPair 39 = .ok (.goto 4, 3) := by decide +kernel
theorem dX11_isPair_42 : decode cX11_isPair 42 = .ok (.iconst 0, 1) := by decide +kernel
theorem dX11_isPair_43 : decode cX11_isPair 43 = .ok (.ireturn, 1) := by decide +kernel
theorem dX11_coldItem_0 : decode cX11_coldItem 0 = .ok (.aload_n 0, 1) := by decide +kernel
theorem dX11_coldItem_1 : decode cX11_coldItem 1 = .ok (.iconst 3, 1) := by decide +kernel
theorem dX11_coldItem_2 : decode cX11_coldItem 2 = .ok (.invokevirtual 147, 3) := by decide +kernel
theorem dX11_coldItem_5 : decode cX11_coldItem 5 = .ok (.ifCond .eq 59, 3) := by decide +kernel
theorem dX11_coldItem_8 : decode cX11_coldItem 8 = .ok (.aload_n 0, 1) := by decide +kernel
theorem dX11_coldItem_9 : decode cX11_coldItem 9 = .ok (.getfield 73, 3) := by decide +kernel
theorem dX11_coldItem_12 : decode cX11_coldItem 12 = .ok (.iconst 0, 1) := by decide +kernel
theorem dX11_coldItem_13 : decode cX11_coldItem 13 = .ok (.iaload, 1) := by decide +kernel
theorem dX11_coldItem_14 : decode cX11_coldItem 14 = .ok (.aload_n 0, 1) := by decide +kernel
theorem dX11_coldItem_15 : decode cX11_coldItem 15 = .ok (.getfield 13, 3) := by decide +kernel
theorem dX11_coldItem_18 : decode cX11_coldItem 18 = .ok (.iconst 1, 1) := by decide +kernel
theorem dX11_coldItem_19 : decode cX11_coldItem 19 = .ok (.iaload, 1) := by decide +kernel
theorem dX11_coldItem_20 : decode cX11_coldItem 20 = .ok (.if_icmp .ge 44, 3) := by decide +kernel
theorem dX11_coldItem_23 : decode cX11_coldItem 23 = .ok (.aload_n 0, 1) := by decide +kernel
theorem dX11_coldItem_24 : decode cX11_coldItem 24 = .ok (.getfield 73, 3) := by decide +kernel
theorem dX11_coldItem_27 : decode cX11_coldItem 27 = .ok (.iconst 1, 1) := by decide +kernel
theorem dX11_coldItem_28 : decode cX11_coldItem 28 = .ok (.iaload, 1) := by decide +kernel
theorem dX11_coldItem_29 : decode cX11_coldItem 29 = .ok (.aload_n 0, 1) := by decide +kernel
theorem dX11_coldItem_30 : decode cX11_coldItem 30 = .ok (.getfield 13, 3) := by decide +kernel
theorem dX11_coldItem_33 : decode cX11_coldItem 33 = .ok (.iconst 1, 1) := by decide +kernel
theorem dX11_coldItem_34 : decode cX11_coldItem 34 = .ok (.iaload, 1) := by decide +kernel
theorem dX11_coldItem_35 : decode cX11_coldItem 35 = .ok (.if_icmp .ge 29, 3) := by decide +kernel
theorem dX11_coldItem_38 : decode cX11_coldItem 38 = .ok (.aload_n 0, 1) := by decide +kernel
theorem dX11_coldItem_39 : decode cX11_coldItem 39 = .ok (.getfield 73, 3) := by decide +kernel
theorem dX11_coldItem_42 : decode cX11_coldItem 42 = .ok (.iconst 0, 1) := by decide +kernel
theorem dX11_coldItem_43 : decode cX11_coldItem 43 = .ok (.iaload, 1) := by decide +kernel
theorem dX11_coldItem_44 : decode cX11_coldItem 44 = .ok (.aload_n 0, 1) := by decide +kernel
theorem dX11_coldItem_45 : decode cX11_coldItem 45 = .ok (.getfield 73, 3) := by decide +kernel
theorem dX11_coldItem_48 : decode cX11_coldItem 48 = .ok (.iconst 1, 1) := by decide +kernel
theorem dX11_coldItem_49 : decode cX11_coldItem 49 = .ok (.iaload, 1) := by decide +kernel
theorem dX11_coldItem_50 : decode cX11_coldItem 50 = .ok (.if_icmp .eq 14, 3) := by decide +kernel
theorem dX11_coldItem_53 : decode cX11_coldItem 53 = .ok (.aload_n 0, 1) := by decide +kernel
theorem dX11_coldItem_54 : decode cX11_coldItem 54 = .ok (.getfield 73, 3) := by decide +kernel
theorem dX11_coldItem_57 : decode cX11_coldItem 57 = .ok (.iconst 2, 1) := by decide +kernel
theorem dX11_coldItem_58 : decode cX11_coldItem 58 = .ok (.iaload, 1) := by decide +kernel
theorem dX11_coldItem_59 : decode cX11_coldItem 59 = .ok (.bipush 100, 2) := by decide +kernel
theorem dX11_coldItem_61 : decode cX11_coldItem 61 = .ok (.if_icmp .le 5, 3) := by decide +kernel
theorem dX11_coldItem_64 : decode cX11_coldItem 64 = .ok (.iconst 0, 1) := by decide +kernel
theorem dX11_coldItem_65 : decode cX11_coldItem 65 = .ok (.ireturn, 1) := by decide +kernel
theorem dX11_coldItem_66 : decode cX11_coldItem 66 = .ok (.aload_n 0, 1) := by decide +kernel
theorem dX11_coldItem_67 : decode cX11_coldItem 67 = .ok (.getfield 55, 3) := by decide +kernel
theorem dX11_coldItem_70 : decode cX11_coldItem 70 = .ok (.bipush 100, 2) := by decide +kernel
theorem dX11_coldItem_72 : decode cX11_coldItem 72 = .ok (.bipush 10, 2) := by decide +kernel
theorem dX11_coldItem_74 : decode cX11_coldItem 74 = .ok (.aload_n 0, 1) := by decide +kernel
theorem dX11_coldItem_75 : decode cX11_coldItem 75 = .ok (.getfield 73, 3) := by decide +kernel
theorem dX11_coldItem_78 : decode cX11_coldItem 78 = .ok (.iconst 0, 1) := by decide +kernel
theorem dX11_coldItem_79 : decode cX11_coldItem 79 = .ok (.iaload, 1) := by decide +kernel
theorem dX11_coldItem_80 : decode cX11_coldItem 80 = .ok (.imul, 1) := by decide +kernel
theorem dX11_coldItem_81 : decode cX11_coldItem 81 = .ok (.iadd, 1) := by decide +kernel
theorem dX11_coldItem_82 : decode cX11_coldItem 82 = .ok (.aload_n 0, 1) := by decide +kernel
theorem dX11_coldItem_83 : decode cX11_coldItem 83 = .ok (.getfield 73, 3) := by decide +kernel
theorem dX11_coldItem_86 : decode cX11_coldItem 86 = .ok (.iconst 1, 1) := by decide +kernel
theorem dX11_coldItem_87 : decode cX11_coldItem 87 = .ok (.iaload, 1) := by decide +kernel
theorem dX11_coldItem_88 : decode cX11_coldItem 88 = .ok (.iadd, 1) := by decide +kernel
theorem dX11_coldItem_89 : decode cX11_coldItem 89 = .ok (.aload_n 0, 1) := by decide +kernel
theorem dX11_coldItem_90 : decode cX11_coldItem 90 = .ok (.getfield 73, 3) := by decide +kernel
theorem dX11_coldItem_93 : decode cX11_coldItem 93 = .ok (.iconst 2, 1) := by decide +kernel
theorem dX11_coldItem_94 : decode cX11_coldItem 94 = .ok (.iaload, 1) := by decide +kernel
theorem dX11_coldItem_95 : decode cX11_coldItem 95 = .ok (.iastore, 1) := by decide +kernel
theorem dX11_coldItem_96 : decode cX11_coldItem 96 = .ok (.aload_n 0, 1) := by decide +kernel
theorem dX11_coldItem_97 : decode cX11_coldItem 97 = .ok (.getfield 55, 3) := by decide +kernel
theorem dX11_coldItem_100 : decode cX11_coldItem 100 = .ok (.bipush 100, 2) := by decide +kernel
theorem dX11_coldItem_102 : decode cX11_coldItem 102 = .ok (.bipush 10, 2) := by decide +kernel
theorem dX11_coldItem_104 : decode cX11_coldItem 104 = .ok (.aload_n 0, 1) := by decide +kernel
theorem dX11_coldItem_105 : decode cX11_coldItem 105 = .ok (.getfield 73, 3) := by decide +kernel
theorem dX11_coldItem_108 : decode cX11_coldItem 108 = .ok (.iconst 1, 1) := by decide +kernel
theorem dX11_coldItem_109 : decode cX11_coldItem 109 = .ok (.iaload, 1) := by decide +kernel
theorem dX11_coldItem_110 : decode cX11_coldItem 110 = .ok (.imul, 1) := by decide +kernel
theorem dX11_coldItem_111 : decode cX11_coldItem 111 = .ok (.iadd, 1) := by decide +kernel
theorem dX11_coldItem_112 : decode cX11_coldItem 112 = .ok (.aload_n 0, 1) := by decide +kernel
theorem dX11_coldItem_113 : decode cX11_coldItem 113 = .ok (.getfield 73, 3) := by decide +kernel
theorem dX11_coldItem_116 : decode cX11_coldItem 116 = .ok (.iconst 0, 1) := by decide +kernel
theorem dX11_coldItem_117 : decode cX11_coldItem 117 = .ok (.iaload, 1) := by decide +kernel
theorem dX11_coldItem_118 : decode cX11_coldItem 118 = .ok (.iadd, 1) := by decide +kernel
theorem dX11_coldItem_119 : decode cX11_coldItem 119 = .ok (.aload_n 0, 1) := by decide +kernel
theorem dX11_coldItem_120 : decode cX11_coldItem 120 = .ok (.getfield 73, 3) := by decide +kernel
theorem dX11_coldItem_123 : decode cX11_coldItem 123 = .ok (.iconst 2, 1) := by decide +kernel
theorem dX11_coldItem_124 : decode cX11_coldItem 124 = .ok (.iaload, 1) := by decide +kernel
theorem dX11_coldItem_125 : decode cX11_coldItem 125 = .ok (.iastore, 1) := by decide +kernel
theorem dX11_coldItem_126 : decode cX11_coldItem 126 = .ok (.iconst 1, 1) := by decide +kernel
theorem dX11_coldItem_127 : decode cX11_coldItem 127 = .ok (.ireturn, 1) := by decide +kernel
theorem dX11_numberItem_0 : decode cX11_numberItem 0 = .ok (.aload_n 0, 1) := by decide +kernel
theorem dX11_numberItem_1 : decode cX11_numberItem 1 = .ok (.iconst 1, 1) := by decide +kernel
theorem dX11_numberItem_2 : decode cX11_numberItem 2 = .ok (.invokevirtual 147, 3) := by decide +kernel
theorem dX11_numberItem_5 : decode cX11_numberItem 5 = .ok (.ifCond .eq 13, 3) := by decide +kernel
theorem dX11_numberItem_8 : decode cX11_numberItem 8 = .ok (.aload_n 0, 1) := by decide +kernel
theorem dX11_numberItem_9 : decode cX11_numberItem 9 = .ok (.getfield 73, 3) := by decide +kernel
theorem dX11_numberItem_12 : decode cX11_numberItem 12 = .ok (.iconst 0, 1) := by decide +kernel
theorem dX11_numberItem_13 : decode cX11_numberItem 13 = .ok (.iaload, 1) := by decide +kernel
theorem dX11_numberItem_14 : decode cX11_numberItem 14 = .ok (.iload_n 2, 1) := by decide +kernel
theorem dX11_numberItem_15 : decode cX11_numberItem 15 = .ok (.if_icmp .le 5, 3) := by decide +kernel
theorem dX11_numberItem_18 : decode cX11_numberItem 18 = .ok (.iconst 0, 1) := by decide +kernel
theorem dX11_numberItem_19 : decode cX11_numberItem 19 = .ok (.ireturn, 1) := by decide +kernel
theorem dX11_numberItem_20 : decode cX11_numberItem 20 = .ok (.aload_n 0, 1) := by decide +kernel
theorem dX11_numberItem_21 : decode cX11_numberItem 21 = .ok (.getfield 58, 3) := by decide +kernel
theorem dX11_numberItem_24 : decode cX11_numberItem 24 = .ok (.iconst 5, 1) := by decide +kernel
theorem dX11_numberItem_25 : decode cX11_numberItem 25 = .ok (.iload_n 1, 1) := by decide +kernel
theorem dX11_numberItem_26 : decode cX11_numberItem 26 = .ok (.iadd, 1) := by decide +kernel
theorem dX11_numberItem_27 : decode cX11_numberItem 27 = .ok (.aload_n 0, 1) := by decide +kernel
theorem dX11_numberItem_28 : decode cX11_numberItem 28 = .ok (.getfield 73, 3) := by decide +kernel
theorem dX11_numberItem_31 : decode cX11_numberItem 31 = .ok (.iconst 0, 1) := by decide +kernel
theorem dX11_numberItem_32 : decode cX11_numberItem 32 = .ok (.iaload, 1) := by decide +kernel
theorem dX11_numberItem_33 : decode cX11_numberItem 33 = .ok (.iastore, 1) := by decide +kernel
theorem dX11_numberItem_34 : decode cX11_numberItem 34 = .ok (.iconst 1, 1) := by decide +kernel
theorem dX11_numberItem_35 : decode cX11_numberItem 35 = .ok (.ireturn, 1) := by decide +kernel
theorem dX11_item_0 : decode cX11_item 0 = .ok (.aload_n 0, 1) := by decide +kernel
theorem dX11_item_1 : decode cX11_item 1 = .ok (.aload_n 0, 1) := by decide +kernel
theorem dX11_item_2 : decode cX11_item 2 = .ok (.getfield 134, 3) := by decide +kernel
theorem dX11_item_5 : decode cX11_item 5 = .ok (.invokevirtual 137, 3) := by decide +kernel
theorem dX11_item_8 : decode cX11_item 8 = .ok (.istore_n 1, 1) := by decide +kernel
theorem dX11_item_9 : decode cX11_item 9 = .ok (.aload_n 0, 1) := by decide +kernel
theorem dX11_item_10 : decode cX11_item 10 = .ok (.dup, 1) := by decide +kernel
theorem dX11_item_11 : decode cX11_item 11 = .ok (.getfield 134, 3) := by decide +kernel
theorem dX11_item_14 : decode cX11_item 14 = .ok (.iconst 1, 1) := by decide +kernel
theorem dX11_item_15 : decode cX11_item 15 = .ok (.iadd, 1) := by decide +kernel
theorem dX11_item_16 : decode cX11_item 16 = .ok (.putfield 134, 3) := by decide +kernel
theorem dX11_item_19 : decode cX11_item 19 = .ok (.iload_n 1, 1) := by decide +kernel
theorem dX11_item_20 : decode cX11_item 20 = .ok (.tableswitch 293 97 120 #[112, 293, 122, 293, 293, 236, 293, 293, 293, 293, 158, 293, 220, 293, 127, 117, 293, 293, 293, 228, 293, 293, 244, 215], 112) := by decide +kernel
theorem dX11_item_132 : decode cX11_item 132 = .ok (.aload_n 0, 1) := by decide +kernel
theorem dX11_item_133 : decode cX11_item 133 = .ok (.invokevirtual 153, 3) := by decide +kernel
theorem dX11_item_136 : decode cX11_item 136 = .ok (.ireturn, 1) := by decide +kernel
theorem dX11_item_137 : decode cX11_item 137 = .ok (.aload_n 0, 1) := by decide +kernel
theorem dX11_item_138 : decode cX11_item 138 = .ok (.invokevirtual 157, 3) := by decide +kernel
theorem dX11_item_141 : decode cX11_item 141 = .ok (.ireturn, 1) := by decide +kernel
theorem dX11_item_142 : decode cX11_item 142 = .ok (.aload_n 0, 1) := by decide +kernel
theorem dX11_item_143 : decode cX11_item 143 = .ok (.invokevirtual 160, 3) := by decide +kernel
theorem dX11_item_146 : decode cX11_item 146 = .ok (.ireturn, 1) := by decide +kernel
theorem dX11_item_147 : decode cX11_item 147 = .ok (.aload_n 0, 1) := by decide +kernel
theorem dX11_item_148 : decode cX11_item 148 = .ok (.invokevirtual 163, 3) := by decide +kernel
theorem dX11_item_151 : decode cX11_item 151 = .ok (.ifCond .ne 5, 3) := by decide +kernel
theorem dX11_item_154 : decode cX11_item 154 = .ok (.iconst 0, 1) := by decide +kernel
theorem dX11_item_155 : decode cX11_item 155 = .ok (.ireturn, 1) := by decide +kernel
theorem dX11_item_156 : decode cX11_item 156 = .ok (.aload_n 0, 1) := by decide +kernel
theorem dX11_item_157 : decode cX11_item 157 = .ok (.getfield 37, 3) := by decide +kernel
theorem dX11_item_160 : decode cX11_item 160 = .ok (.bipush 8, 2) := by decide +kernel
theorem dX11_item_162 : decode cX11_item 162 = .ok (.aload_n 0, 1) := by decide +kernel
theorem dX11_item_163 : decode cX11_item 163 = .ok (.getfield 73, 3) := by decide +kernel
theorem dX11_item_166 : decode cX11_item 166 = .ok (.iconst 1, 1) := by decide +kernel
theorem dX11_item_167 : decode cX11_item 167 = .ok (.iaload, 1) := by decide +kernel
theorem dX11_item_168 : decode cX11_item 168 = .ok (.iadd, 1) := by decide +kernel
theorem dX11_item_169 : decode cX11_item 169 = .ok (.aload_n 0, 1) := by decide +kernel
theorem dX11_item_170 : decode cX11_item 170 = .ok (.getfield 73, 3) := by decide +kernel
theorem dX11_item_173 : decode cX11_item 173 = .ok (.iconst 0, 1) := by decide +kernel
theorem dX11_item_174 : decode cX11_item 174 = .ok (.iaload, 1) := by decide +kernel
theorem dX11_item_175 : decode cX11_item 175 = .ok (.iastore, 1) := by decide +kernel
theorem dX11_item_176 : decode cX11_item 176 = .ok (.iconst 1, 1) := by decide +kernel
theorem dX11_item_177 : decode cX11_item 177 = .ok (.ireturn, 1) := by decide +kernel
theorem dX11_item_178 : decode cX11_item 178 = .ok (.aload_n 0, 1) := by decide +kernel
theorem dX11_item_179 : decode cX11_item 179 = .ok (.invokevirtual 163, 3) := by decide +kernel
theorem dX11_item_182 : decode cX11_item 182 = .ok (.ifCond .eq 14, 3) := by decide +kernel
theorem dX11_item_185 : decode cX11_item 185 = .ok (.aload_n 0, 1) := by decide +kernel
theorem dX11_item_186 : decode cX11_item 186 = .ok (.getfield 49, 3) := by decide +kernel
theorem dX11_item_189 : decode cX11_item 189 = .ok (.iconst 1, 1) := by decide +kernel
theorem dX11_item_190 : decode cX11_item 190 = .ok (.iaload, 1) := by decide +kernel
theorem dX11_item_191 : decode cX11_item 191 = .ok (.bipush 24, 2) := by decide +kernel
theorem dX11_item_193 : decode cX11_item 193 = .ok (.if_icmp .ne 5, 3) := by decide +kernel
theorem dX11_item_196 : decode cX11_item 196 = .ok (.iconst 0, 1) := by decide +kernel
theorem dX11_item_197 : decode cX11_item 197 = .ok (.ireturn, 1) := by decide +kernel
theorem dX11_item_198 : decode cX11_item 198 = .ok (.aload_n 0, 1) := by decide +kernel
theorem dX11_item_199 : decode cX11_item 199 = .ok (.getfield 52, 3) := by decide +kernel
theorem dX11_item_202 : decode cX11_item 202 = .ok (.bipush 10, 2) := by decide +kernel
theorem dX11_item_204 : decode cX11_item 204 = .ok (.aload_n 0, 1) := by decide +kernel
theorem dX11_item_205 : decode cX11_item 205 = .ok (.getfield 73, 3) := by decide +kernel
theorem dX11_item_208 : decode cX11_item 208 = .ok (.iconst 0, 1) := by decide +kernel
theorem dX11_item_209 : decode cX11_item 209 = .ok (.iaload, 1) := by decide +kernel
theorem dX11_item_210 : decode cX11_item 210 = .ok (.iadd, 1) := by decide +kernel
theorem dX11_item_211 : decode cX11_item 211 = .ok (.dup2, 1) := by decide +kernel
theorem dX11_item_212 : decode cX11_item 212 = .ok (.iaload, 1) := by decide +kernel
theorem dX11_item_213 : decode cX11_item 213 = .ok (.iconst 1, 1) := by decide +kernel
theorem dX11_item_214 : decode cX11_item 214 = .ok (.aload_n 0, 1) := by decide +kernel
theorem dX11_item_215 : decode cX11_item 215 = .ok (.getfield 73, 3) := by decide +kernel
theorem dX11_item_218 : decode cX11_item 218 = .ok (.iconst 1, 1) := by decide +kernel
theorem dX11_item_219 : decode cX11_item 219 = .ok (.iaload, 1) := by decide +kernel
theorem dX11_item_220 : decode cX11_item 220 = .ok (.ishl, 1) := by decide +kernel
theorem dX11_item_221 : decode cX11_item 221 = .ok (.ior, 1) := by decide +kernel
theorem dX11_item_222 : decode cX11_item 222 = .ok (.iastore, 1) := by decide +kernel
theorem dX11_item_223 : decode cX11_item 223 = .ok (.aload_n 0, 1) := by decide +kernel
theorem dX11_item_224 : decode cX11_item 224 = .ok (.getfield 49, 3) := by decide +kernel
theorem dX11_item_227 : decode cX11_item 227 = .ok (.iconst 1, 1) := by decide +kernel
theorem dX11_item_228 : decode cX11_item 228 = .ok (.dup2, 1) := by decide +kernel
theorem dX11_item_229 : decode cX11_item 229 = .ok (.iaload, 1) := by decide +kernel
theorem dX11_item_230 : decode cX11_item 230 = .ok (.iconst 1, 1) := by decide +kernel
theorem dX11_item_231 : decode cX11_item 231 = .ok (.iadd, 1) := by decide +kernel
theorem dX11_item_232 : decode cX11_item 232 = .ok (.iastore, 1) := by decide +kernel
theorem dX11_item_233 : decode cX11_item 233 = .ok (.iconst 1, 1) := by decide +kernel
theorem dX11_item_234 : decode cX11_item 234 = .ok (.ireturn, 1) := by decide +kernel
theorem dX11_item_235 : decode cX11_item 235 = .ok (.aload_n 0, 1) := by decide +kernel
theorem dX11_item_236 : decode cX11_item 236 = .ok (.invokevirtual 166, 3) := by decide +kernel
theorem dX11_item_239 : decode cX11_item 239 = .ok (.ireturn, 1) := by decide +kernel
theorem dX11_item_240 : decode cX11_item 240 = .ok (.aload_n 0, 1) := by decide +kernel
theorem dX11_item_241 : decode cX11_item 241 = .ok (.iconst 0, 1) := by decide +kernel
theorem dX11_item_242 : decode cX11_item 242 = .ok (.bipush 99, 2) := by decide +kernel
theorem dX11_item_244 : decode cX11_item 244 = .ok (.invokevirtual 169, 3) := by decide +kernel
theorem dX11_item_247 : decode cX11_item 247 = .ok (.ireturn, 1) := by decide +kernel
theorem dX11_item_248 : decode cX11_item 248 = .ok (.aload_n 0, 1) := by decide +kernel
theorem dX11_item_249 : decode cX11_item 249 = .ok (.iconst 1, 1) := by decide +kernel
theorem dX11_item_250 : decode cX11_item 250 = .ok (.bipush 9, 2) := by decide +kernel
theorem dX11_item_252 : decode cX11_item 252 = .ok (.invokevirtual 169, 3) := by decide +kernel
theorem dX11_item_255 : decode cX11_item 255 = .ok (.ireturn, 1) := by decide +kernel
theorem dX11_item_256 : decode cX11_item 256 = .ok (.aload_n 0, 1) := by decide +kernel
theorem dX11_item_257 : decode cX11_item 257 = .ok (.iconst 2, 1) := by decide +kernel
theorem dX11_item_258 : decode cX11_item 258 = .ok (.bipush 99, 2) := by decide +kernel
theorem dX11_item_260 : decode cX11_item 260 = .ok (.invokevirtual 169, 3) := by decide +kernel
theorem dX11_item_263 : decode cX11_item 263 = .ok (.ireturn, 1) := by decide +kernel
theorem dX11_item_264 : decode cX11_item 264 = .ok (.aload_n 0, 1) := by decide +kernel
theorem dX11_item_265 : decode cX11_item 265 = .ok (.iconst 2, 1) := by decide +kernel
theorem dX11_item_266 : decode cX11_item 266 = .ok (.invokevirtual 147, 3) := by decide +kernel
theorem dX11_item_269 : decode cX11_item 269 = .ok (.ifCond .eq 14, 3) := by decide +kernel
theorem dX11_item_272 : decode cX11_item 272 = .ok (.aload_n 0, 1) := by decide +kernel
theorem dX11_item_273 : decode cX11_item 273 = .ok (.getfield 73, 3) := by decide +kernel
theorem dX11_item_276 : decode cX11_item 276 = .ok (.iconst 1, 1) := by decide +kernel
theorem dX11_item_277 : decode cX11_item 277 = .ok (.iaload, 1) := by decide +kernel
theorem dX11_item_278 : decode cX11_item 278 = .ok (.bipush 99, 2) := by decide +kernel
theorem dX11_item_280 : decode cX11_item 280 = .ok (.if_icmp .le 5, 3) := by decide +kernel
theorem dX11_item_283 : decode cX11_item 283 = .ok (.iconst 0, 1) := by decide +kernel
theorem dX11_item_284 : decode cX11_item 284 = .ok (.ireturn, 1) := by decide +kernel
theorem dX11_item_285 : decode cX11_item 285 = .ok (.aload_n 0, 1) := by decide +kernel
theorem dX11_item_286 : decode cX11_item 286 = .ok (.getfield 58, 3) := by decide +kernel
theorem dX11_item_289 : decode cX11_item 289 = .ok (.bipush 8, 2) := by decide +kernel
theorem dX11_item_291 : decode cX11_item 291 = .ok (.aload_n 0, 1) := by decide +kernel
theorem dX11_item_292 : decode cX11_item 292 = .ok (.getfield 73, 3) := by decide +kernel
theorem dX11_item_295 : decode cX11_item 295 = .ok (.iconst 0, 1) := by decide +kernel
theorem dX11_item_296 : decode cX11_item 296 = .ok (.iaload, 1) := by decide +kernel
theorem dX11_item_297 : decode cX11_item 297 = .ok (.iastore, 1) := by decide +kernel
theorem dX11_item_298 : decode cX11_item 298 = .ok (.aload_n 0, 1) := by decide +kernel
theorem dX11_item_299 : decode cX11_item 299 = .ok (.getfield 58, 3) := by decide +kernel
theorem dX11_item_302 : decode cX11_item 302 = .ok (.bipush 9, 2) := by decide +kernel
theorem dX11_item_304 : decode cX11_item 304 = .ok (.aload_n 0, 1) := by decide +kernel
theorem dX11_item_305 : decode cX11_item 305 = .ok (.getfield 73, 3) := by decide +kernel
theorem dX11_item_308 : decode cX11_item 308 = .ok (.iconst 1, 1) := by decide +kernel
theorem dX11_item_309 : decode cX11_item 309 = .ok (.iaload, 1) := by decide +kernel
theorem dX11_item_310 : decode cX11_item 310 = .ok (.iastore, 1) := by decide +kernel
theorem dX11_item_311 : decode cX11_item 311 = .ok (.iconst 1, 1) := by decide +kernel
theorem dX11_item_312 : decode cX11_item 312 = .ok (.ireturn, 1) := by decide +kernel
theorem dX11_item_313 : decode cX11_item 313 = .ok (.iconst 0, 1) := by decide +kernel
theorem dX11_item_314 : decode cX11_item 314 = .ok (.ireturn, 1) := by decide +kernel
theorem dX11_readAll_0 : decode cX11_readAll 0 = .ok (.aload_n 0, 1) := by decide +kernel
theorem dX11_readAll_1 : decode cX11_readAll 1 = .ok (.iconst 1, 1) := by decide +kernel
theorem dX11_readAll_2 : decode cX11_readAll 2 = .ok (.invokevirtual 115, 3) := by decide +kernel
theorem dX11_readAll_5 : decode cX11_readAll 5 = .ok (.aload_n 0, 1) := by decide +kernel
theorem dX11_readAll_6 : decode cX11_readAll 6 = .ok (.iconst 0, 1) := by decide +kernel
theorem dX11_readAll_7 : decode cX11_readAll 7 = .ok (.putfield 134, 3) := by decide +kernel
theorem dX11_readAll_10 : decode cX11_readAll 10 = .ok (.aload_n 0, 1) := by decide +kernel
theorem dX11_readAll_11 : decode cX11_readAll 11 = .ok (.getfield 134, 3) := by decide +kernel
theorem dX11_readAll_14 : decode cX11_readAll 14 = .ok (.aload_n 0, 1) := by decide +kernel
theorem dX11_readAll_15 : decode cX11_readAll 15 = .ok (.getfield 128, 3) := by decide +kernel
theorem dX11_readAll_18 : decode cX11_readAll 18 = .ok (.if_icmp .ge 20, 3) := by decide +kernel
theorem dX11_readAll_21 : decode cX11_readAll 21 = .ok (.aload_n 0, 1) := by decide +kernel
theorem dX11_readAll_22 : decode cX11_readAll 22 = .ok (.getfield 134, 3) := by decide +kernel
theorem dX11_readAll_25 : decode cX11_readAll 25 = .ok (.istore_n 1, 1) := by decide +kernel
theorem dX11_readAll_26 : decode cX11_readAll 26 = .ok (.aload_n 0, 1) := by decide +kernel
theorem dX11_readAll_27 : decode cX11_readAll 27 = .ok (.invokevirtual 173, 3) := by decide +kernel
theorem dX11_readAll_30 : decode cX11_readAll 30 = .ok (.ifCond .ne 5, 3) := by decide +kernel
theorem dX11_readAll_33 : decode cX11_readAll 33 = .ok (.iload_n 1, 1) := by decide +kernel
theorem dX11_readAll_34 : decode cX11_readAll 34 = .ok (.ireturn, 1) := by decide +kernel
theorem dX11_readAll_35 : decode cX11_readAll 35 = .ok (.goto (-25), 3) := by decide +kernel
theorem dX11_readAll_38 : decode cX11_readAll 38 = .ok (.bipush (-4), 2) := by decide +kernel
theorem dX11_readAll_40 : decode cX11_readAll 40 = .ok (.ireturn, 1) := by decide +kernel
theorem dX11_fault_0 : decode cX11_fault 0 = .ok (.aload_n 0, 1) := by decide +kernel
theorem dX11_fault_1 : decode cX11_fault 1 = .ok (.invokevirtual 176, 3) := by decide +kernel
theorem dX11_fault_4 : decode cX11_fault 4 = .ok (.ireturn, 1) := by decide +kernel
theorem dX11_lay_0 : decode cX11_lay 0 = .ok (.aload_n 0, 1) := by decide +kernel
theorem dX11_lay_1 : decode cX11_lay 1 = .ok (.invokevirtual 176, 3) := by decide +kernel
theorem dX11_lay_4 : decode cX11_lay 4 = .ok (.bipush (-4), 2) := by decide +kernel
theorem dX11_lay_6 : decode cX11_lay 6 = .ok (.if_icmp .ne 21, 3) := by decide +kernel
theorem dX11_lay_9 : decode cX11_lay 9 = .ok (.aload_n 0, 1) := by decide +kernel
theorem dX11_lay_10 : decode cX11_lay 10 = .ok (.getfield 13, 3) := by decide +kernel
theorem dX11_lay_13 : decode cX11_lay 13 = .ok (.iconst 1, 1) := by decide +kernel
theorem dX11_lay_14 : decode cX11_lay 14 = .ok (.iaload, 1) := by decide +kernel
theorem dX11_lay_15 : decode cX11_lay 15 = .ok (.ifCond .eq 12, 3) := by decide +kernel
theorem dX11_lay_18 : decode cX11_lay 18 = .ok (.aload_n 0, 1) := by decide +kernel
theorem dX11_lay_19 : decode cX11_lay 19 = .ok (.getfield 22, 3) := by decide +kernel
theorem dX11_lay_22 : decode cX11_lay 22 = .ok (.iconst 1, 1) := by decide +kernel
theorem dX11_lay_23 : decode cX11_lay 23 = .ok (.iaload, 1) := by decide +kernel
theorem dX11_lay_24 : decode cX11_lay 24 = .ok (.ifCond .ne 6, 3) := by decide +kernel
theorem dX11_lay_27 : decode cX11_lay 27 = .ok (.bipush (-2), 2) := by decide +kernel
theorem dX11_lay_29 : decode cX11_lay 29 = .ok (.ireturn, 1) := by decide +kernel
theorem dX11_lay_30 : decode cX11_lay 30 = .ok (.aload_n 0, 1) := by decide +kernel
theorem dX11_lay_31 : decode cX11_lay 31 = .ok (.getfield 13, 3) := by decide +kernel
theorem dX11_lay_34 : decode cX11_lay 34 = .ok (.iconst 0, 1) := by decide +kernel
theorem dX11_lay_35 : decode cX11_lay 35 = .ok (.aload_n 0, 1) := by decide +kernel
theorem dX11_lay_36 : decode cX11_lay 36 = .ok (.getfield 13, 3) := by decide +kernel
theorem dX11_lay_39 : decode cX11_lay 39 = .ok (.iconst 1, 1) := by decide +kernel
theorem dX11_lay_40 : decode cX11_lay 40 = .ok (.iaload, 1) := by decide +kernel
theorem dX11_lay_41 : decode cX11_lay 41 = .ok (.iastore, 1) := by decide +kernel
theorem dX11_lay_42 : decode cX11_lay 42 = .ok (.aload_n 0, 1) := by decide +kernel
theorem dX11_lay_43 : decode cX11_lay 43 = .ok (.getfield 22, 3) := by decide +kernel
theorem dX11_lay_46 : decode cX11_lay 46 = .ok (.iconst 0, 1) := by decide +kernel
theorem dX11_lay_47 : decode cX11_lay 47 = .ok (.aload_n 0, 1) := by decide +kernel
theorem dX11_lay_48 : decode cX11_lay 48 = .ok (.getfield 22, 3) := by decide +kernel
theorem dX11_lay_51 : decode cX11_lay 51 = .ok (.iconst 1, 1) := by decide +kernel
theorem dX11_lay_52 : decode cX11_lay 52 = .ok (.iaload, 1) := by decide +kernel
theorem dX11_lay_53 : decode cX11_lay 53 = .ok (.iastore, 1) := by decide +kernel
theorem dX11_lay_54 : decode cX11_lay 54 = .ok (.aload_n 0, 1) := by decide +kernel
theorem dX11_lay_55 : decode cX11_lay 55 = .ok (.getfield 40, 3) := by decide +kernel
theorem dX11_lay_58 : decode cX11_lay 58 = .ok (.iconst 0, 1) := by decide +kernel
theorem dX11_lay_59 : decode cX11_lay 59 = .ok (.aload_n 0, 1) := by decide +kernel
theorem dX11_lay_60 : decode cX11_lay 60 = .ok (.getfield 40, 3) := by decide +kernel
theorem dX11_lay_63 : decode cX11_lay 63 = .ok (.iconst 1, 1) := by decide +kernel
theorem dX11_lay_64 : decode cX11_lay 64 = .ok (.iaload, 1) := by decide +kernel
theorem dX11_lay_65 : decode cX11_lay 65 = .ok (.iastore, 1) := by decide +kernel
theorem dX11_lay_66 : decode cX11_lay 66 = .ok (.aload_n 0, 1) := by decide +kernel
theorem dX11_lay_67 : decode cX11_lay 67 = .ok (.getfield 49, 3) := by decide +kernel
theorem dX11_lay_70 : decode cX11_lay 70 = .ok (.iconst 0, 1) := by decide +kernel
theorem dX11_lay_71 : decode cX11_lay 71 = .ok (.aload_n 0, 1) := by decide +kernel
theorem dX11_lay_72 : decode cX11_lay 72 = .ok (.getfield 49, 3) := by decide +kernel
theorem dX11_lay_75 : decode cX11_lay 75 = .ok (.iconst 1, 1) := by decide +kernel
theorem dX11_lay_76 : decode cX11_lay 76 = .ok (.iaload, 1) := by decide +kernel
theorem dX11_lay_77 : decode cX11_lay 77 = .ok (.iastore, 1) := by decide +kernel
theorem dX11_lay_78 : decode cX11_lay 78 = .ok (.iconst 0, 1) := by decide +kernel
theorem dX11_lay_79 : decode cX11_lay 79 = .ok (.istore_n 1, 1) := by decide +kernel
theorem dX11_lay_80 : decode cX11_lay 80 = .ok (.iload_n 1, 1) := by decide +kernel
theorem dX11_lay_81 : decode cX11_lay 81 = .ok (.bipush 10, 2) := by decide +kernel
theorem dX11_lay_83 : decode cX11_lay 83 = .ok (.if_icmp .ge 84, 3) := by decide +kernel
theorem dX11_lay_86 : decode cX11_lay 86 = .ok (.aload_n 0, 1) := by decide +kernel
theorem dX11_lay_87 : decode cX11_lay 87 = .ok (.getfield 16, 3) := by decide +kernel
theorem dX11_lay_90 : decode cX11_lay 90 = .ok (.iload_n 1, 1) := by decide +kernel
theorem dX11_lay_91 : decode cX11_lay 91 = .ok (.aload_n 0, 1) := by decide +kernel
theorem dX11_lay_92 : decode cX11_lay 92 = .ok (.getfield 16, 3) := by decide +kernel
theorem dX11_lay_95 : decode cX11_lay 95 = .ok (.bipush 10, 2) := by decide +kernel
theorem dX11_lay_97 : decode cX11_lay 97 = .ok (.iload_n 1, 1) := by decide +kernel
theorem dX11_lay_98 : decode cX11_lay 98 = .ok (.iadd, 1) := by decide +kernel
theorem dX11_lay_99 : decode cX11_lay 99 = .ok (.iaload, 1) := by decide +kernel
theorem dX11_lay_100 : decode cX11_lay 100 = .ok (.iastore, 1) := by decide +kernel
theorem dX11_lay_101 : decode cX11_lay 101 = .ok (.aload_n 0, 1) := by decide +kernel
theorem dX11_lay_102 : decode cX11_lay 102 = .ok (.getfield 19, 3) := by decide +kernel
theorem dX11_lay_105 : decode cX11_lay 105 = .ok (.iload_n 1, 1) := by decide +kernel
theorem dX11_lay_106 : decode cX11_lay 106 = .ok (.aload_n 0, 1) := by decide +kernel
theorem dX11_lay_107 : decode cX11_lay 107 = .ok (.getfield 19, 3) := by decide +kernel
theorem dX11_lay_110 : decode cX11_lay 110 = .ok (.bipush 10, 2) := by decide +kernel
theorem dX11_lay_112 : decode cX11_lay 112 = .ok (.iload_n 1, 1) := by decide +kernel
theorem dX11_lay_113 : decode cX11_lay 113 = .ok (.iadd, 1) := by decide +kernel
theorem dX11_lay_114 : decode cX11_lay 114 = .ok (.iaload, 1) := by decide +kernel
theorem dX11_lay_115 : decode cX11_lay 115 = .ok (.iastore, 1) := by decide +kernel
theorem dX11_lay_116 : decode cX11_lay 116 = .ok (.aload_n 0, 1) := by decide +kernel
theorem dX11_lay_117 : decode cX11_lay 117 = .ok (.getfield 52, 3) := by decide +kernel
theorem dX11_lay_120 : decode cX11_lay 120 = .ok (.iload_n 1, 1) := by decide +kernel
theorem dX11_lay_121 : decode cX11_lay 121 = .ok (.aload_n 0, 1) := by decide +kernel
theorem dX11_lay_122 : decode cX11_lay 122 = .ok (.getfield 52, 3) := by decide +kernel
theorem dX11_lay_125 : decode cX11_lay 125 = .ok (.bipush 10, 2) := by decide +kernel
theorem dX11_lay_127 : decode cX11_lay 127 = .ok (.iload_n 1, 1) := by decide +kernel
theorem dX11_lay_128 : decode cX11_lay 128 = .ok (.iadd, 1) := by decide +kernel
theorem dX11_lay_129 : decode cX11_lay 129 = .ok (.iaload, 1) := by decide +kernel
theorem dX11_lay_130 : decode cX11_lay 130 = .ok (.iastore, 1) := by decide +kernel
theorem dX11_lay_131 : decode cX11_lay 131 = .ok (.aload_n 0, 1) := by decide +kernel
theorem dX11_lay_132 : decode cX11_lay 132 = .ok (.getfield 43, 3) := by decide +kernel
theorem dX11_lay_135 : decode cX11_lay 135 = .ok (.iload_n 1, 1) := by decide +kernel
theorem dX11_lay_136 : decode cX11_lay 136 = .ok (.aload_n 0, 1) := by decide +kernel
theorem dX11_lay_137 : decode cX11_lay 137 = .ok (.getfield 43, 3) := by decide +kernel
theorem dX11_lay_140 : decode cX11_lay 140 = .ok (.bipush 10, 2) := by decide +kernel
theorem dX11_lay_142 : decode cX11_lay 142 = .ok (.iload_n 1, 1) := by decide +kernel
theorem dX11_lay_143 : decode cX11_lay 143 = .ok (.iadd, 1) := by decide +kernel
theorem dX11_lay_144 : decode cX11_lay 144 = .ok (.iaload, 1) := by decide +kernel
theorem dX11_lay_145 : decode cX11_lay 145 = .ok (.iastore, 1) := by decide +kernel
theorem dX11_lay_146 : decode cX11_lay 146 = .ok (.aload_n 0, 1) := by decide +kernel
theorem dX11_lay_147 : decode cX11_lay 147 = .ok (.getfield 46, 3) := by decide +kernel
theorem dX11_lay_150 : decode cX11_lay 150 = .ok (.iload_n 1, 1) := by decide +kernel
theorem dX11_lay_151 : decode cX11_lay 151 = .ok (.aload_n 0, 1) := by decide +kernel
theorem dX11_lay_152 : decode cX11_lay 152 = .ok (.getfield 46, 3) := by decide +kernel
theorem dX11_lay_155 : decode cX11_lay 155 = .ok (.bipush 10, 2) := by decide +kernel
theorem dX11_lay_157 : decode cX11_lay 157 = .ok (.iload_n 1, 1) := by decide +kernel
theorem dX11_lay_158 : decode cX11_lay 158 = .ok (.iadd, 1) := by decide +kernel
theorem dX11_lay_159 : decode cX11_lay 159 = .ok (.iaload, 1) := by decide +kernel
theorem dX11_lay_160 : decode cX11_lay 160 = .ok (.iastore, 1) := by decide +kernel
theorem dX11_lay_161 : decode cX11_lay 161 = .ok (.iinc 1 1, 3) := by decide +kernel
theorem dX11_lay_164 : decode cX11_lay 164 = .ok (.goto (-84), 3) := by decide +kernel
theorem dX11_lay_167 : decode cX11_lay 167 = .ok (.iconst 0, 1) := by decide +kernel
theorem dX11_lay_168 : decode cX11_lay 168 = .ok (.istore_n 1, 1) := by decide +kernel
theorem dX11_lay_169 : decode cX11_lay 169 = .ok (.iload_n 1, 1) := by decide +kernel
theorem dX11_lay_170 : decode cX11_lay 170 = .ok (.bipush 8, 2) := by decide +kernel
theorem dX11_lay_172 : decode cX11_lay 172 = .ok (.if_icmp .ge 84, 3) := by decide +kernel
theorem dX11_lay_175 : decode cX11_lay 175 = .ok (.aload_n 0, 1) := by decide +kernel
theorem dX11_lay_176 : decode cX11_lay 176 = .ok (.getfield 25, 3) := by decide +kernel
theorem dX11_lay_179 : decode cX11_lay 179 = .ok (.iload_n 1, 1) := by decide +kernel
theorem dX11_lay_180 : decode cX11_lay 180 = .ok (.aload_n 0, 1) := by decide +kernel
theorem dX11_lay_181 : decode cX11_lay 181 = .ok (.getfield 25, 3) := by decide +kernel
theorem dX11_lay_184 : decode cX11_lay 184 = .ok (.bipush 8, 2) := by decide +kernel
theorem dX11_lay_186 : decode cX11_lay 186 = .ok (.iload_n 1, 1) := by decide +kernel
theorem dX11_lay_187 : decode cX11_lay 187 = .ok (.iadd, 1) := by decide +kernel
theorem dX11_lay_188 : decode cX11_lay 188 = .ok (.iaload, 1) := by decide +kernel
theorem dX11_lay_189 : decode cX11_lay 189 = .ok (.iastore, 1) := by decide +kernel
theorem dX11_lay_190 : decode cX11_lay 190 = .ok (.aload_n 0, 1) := by decide +kernel
theorem dX11_lay_191 : decode cX11_lay 191 = .ok (.getfield 28, 3) := by decide +kernel
theorem dX11_lay_194 : decode cX11_lay 194 = .ok (.iload_n 1, 1) := by decide +kernel
theorem dX11_lay_195 : decode cX11_lay 195 = .ok (.aload_n 0, 1) := by decide +kernel
theorem dX11_lay_196 : decode cX11_lay 196 = .ok (.getfield 28, 3) := by decide +kernel
theorem dX11_lay_199 : decode cX11_lay 199 = .ok (.bipush 8, 2) := by decide +kernel
theorem dX11_lay_201 : decode cX11_lay 201 = .ok (.iload_n 1, 1) := by decide +kernel
theorem dX11_lay_202 : decode cX11_lay 202 = .ok (.iadd, 1) := by decide +kernel
theorem dX11_lay_203 : decode cX11_lay 203 = .ok (.iaload, 1) := by decide +kernel
theorem dX11_lay_204 : decode cX11_lay 204 = .ok (.iastore, 1) := by decide +kernel
theorem dX11_lay_205 : decode cX11_lay 205 = .ok (.aload_n 0, 1) := by decide +kernel
theorem dX11_lay_206 : decode cX11_lay 206 = .ok (.getfield 31, 3) := by decide +kernel
theorem dX11_lay_209 : decode cX11_lay 209 = .ok (.iload_n 1, 1) := by decide +kernel
theorem dX11_lay_210 : decode cX11_lay 210 = .ok (.aload_n 0, 1) := by decide +kernel
theorem dX11_lay_211 : decode cX11_lay 211 = .ok (.getfield 31, 3) := by decide +kernel
theorem dX11_lay_214 : decode cX11_lay 214 = .ok (.bipush 8, 2) := by decide +kernel
theorem dX11_lay_216 : decode cX11_lay 216 = .ok (.iload_n 1, 1) := by decide +kernel
theorem dX11_lay_217 : decode cX11_lay 217 = .ok (.iadd, 1) := by decide +kernel
theorem dX11_lay_218 : decode cX11_lay 218 = .ok (.iaload, 1) := by decide +kernel
theorem dX11_lay_219 : decode cX11_lay 219 = .ok (.iastore, 1) := by decide +kernel
theorem dX11_lay_220 : decode cX11_lay 220 = .ok (.aload_n 0, 1) := by decide +kernel
theorem dX11_lay_221 : decode cX11_lay 221 = .ok (.getfield 34, 3) := by decide +kernel
theorem dX11_lay_224 : decode cX11_lay 224 = .ok (.iload_n 1, 1) := by decide +kernel
theorem dX11_lay_225 : decode cX11_lay 225 = .ok (.aload_n 0, 1) := by decide +kernel
theorem dX11_lay_226 : decode cX11_lay 226 = .ok (.getfield 34, 3) := by decide +kernel
theorem dX11_lay_229 : decode cX11_lay 229 = .ok (.bipush 8, 2) := by decide +kernel
theorem dX11_lay_231 : decode cX11_lay 231 = .ok (.iload_n 1, 1) := by decide +kernel
theorem dX11_lay_232 : decode cX11_lay 232 = .ok (.iadd, 1) := by decide +kernel
theorem dX11_lay_233 : decode cX11_lay 233 = .ok (.iaload, 1) := by decide +kernel
theorem dX11_lay_234 : decode cX11_lay 234 = .ok (.iastore, 1) := by decide +kernel
theorem dX11_lay_235 : decode cX11_lay 235 = .ok (.aload_n 0, 1) := by decide +kernel
theorem dX11_lay_236 : decode cX11_lay 236 = .ok (.getfield 37, 3) := by decide +kernel
theorem dX11_lay_239 : decode cX11_lay 239 = .ok (.iload_n 1, 1) := by decide +kernel
theorem dX11_lay_240 : decode cX11_lay 240 = .ok (.aload_n 0, 1) := by decide +kernel
theorem dX11_lay_241 : decode cX11_lay 241 = .ok (.getfield 37, 3) := by decide +kernel
theorem dX11_lay_244 : decode cX11_lay 244 = .ok (.bipush 8, 2) := by decide +kernel
theorem dX11_lay_246 : decode cX11_lay 246 = .ok (.iload_n 1, 1) := by decide +kernel
theorem dX11_lay_247 : decode cX11_lay 247 = .ok (.iadd, 1) := by decide +kernel
theorem dX11_lay_248 : decode cX11_lay 248 = .ok (.iaload, 1) := by decide +kernel
theorem dX11_lay_249 : decode cX11_lay 249 = .ok (.iastore, 1) := by decide +kernel
theorem dX11_lay_250 : decode cX11_lay 250 = .ok (.iinc 1 1, 3) := by decide +kernel
theorem dX11_lay_253 : decode cX11_lay 253 = .ok (.goto (-84), 3) := by decide +kernel
theorem dX11_lay_256 : decode cX11_lay 256 = .ok (.iconst 0, 1) := by decide +kernel
theorem dX11_lay_257 : decode cX11_lay 257 = .ok (.istore_n 1, 1) := by decide +kernel
theorem dX11_lay_258 : decode cX11_lay 258 = .ok (.iload_n 1, 1) := by decide +kernel
theorem dX11_lay_259 : decode cX11_lay 259 = .ok (.bipush 100, 2) := by decide +kernel
theorem dX11_lay_261 : decode cX11_lay 261 = .ok (.if_icmp .ge 24, 3) := by decide +kernel
theorem dX11_lay_264 : decode cX11_lay 264 = .ok (.aload_n 0, 1) := by decide +kernel
theorem dX11_lay_265 : decode cX11_lay 265 = .ok (.getfield 55, 3) := by decide +kernel
theorem dX11_lay_268 : decode cX11_lay 268 = .ok (.iload_n 1, 1) := by decide +kernel
theorem dX11_lay_269 : decode cX11_lay 269 = .ok (.aload_n 0, 1) := by decide +kernel
theorem dX11_lay_270 : decode cX11_lay 270 = .ok (.getfield 55, 3) := by decide +kernel
theorem dX11_lay_273 : decode cX11_lay 273 = .ok (.bipush 100, 2) := by decide +kernel
theorem dX11_lay_275 : decode cX11_lay 275 = .ok (.iload_n 1, 1) := by decide +kernel
theorem dX11_lay_276 : decode cX11_lay 276 = .ok (.iadd, 1) := by decide +kernel
theorem dX11_lay_277 : decode cX11_lay 277 = .ok (.iaload, 1) := by decide +kernel
theorem dX11_lay_278 : decode cX11_lay 278 = .ok (.iastore, 1) := by decide +kernel
theorem dX11_lay_279 : decode cX11_lay 279 = .ok (.iinc 1 1, 3) := by decide +kernel
theorem dX11_lay_282 : decode cX11_lay 282 = .ok (.goto (-24), 3) := by decide +kernel
theorem dX11_lay_285 : decode cX11_lay 285 = .ok (.iconst 0, 1) := by decide +kernel
theorem dX11_lay_286 : decode cX11_lay 286 = .ok (.istore_n 1, 1) := by decide +kernel
theorem dX11_lay_287 : decode cX11_lay 287 = .ok (.iload_n 1, 1) := by decide +kernel
theorem dX11_lay_288 : decode cX11_lay 288 = .ok (.iconst 5, 1) := by decide +kernel
theorem dX11_lay_289 : decode cX11_lay 289 = .ok (.if_icmp .ge 23, 3) := by decide +kernel
theorem dX11_lay_292 : decode cX11_lay 292 = .ok (.aload_n 0, 1) := by decide +kernel
theorem dX11_lay_293 : decode cX11_lay 293 = .ok (.getfield 58, 3) := by decide +kernel
theorem dX11_lay_296 : decode cX11_lay 296 = .ok (.iload_n 1, 1) := by decide +kernel
theorem dX11_lay_297 : decode cX11_lay 297 = .ok (.aload_n 0, 1) := by decide +kernel
theorem dX11_lay_298 : decode cX11_lay 298 = .ok (.getfield 58, 3) := by decide +kernel
theorem dX11_lay_301 : decode cX11_lay 301 = .ok (.iconst 5, 1) := by decide +kernel
theorem dX11_lay_302 : decode cX11_lay 302 = .ok (.iload_n 1, 1) := by decide +kernel
theorem dX11_lay_303 : decode cX11_lay 303 = .ok (.iadd, 1) := by decide +kernel
theorem dX11_lay_304 : decode cX11_lay 304 = .ok (.iaload, 1) := by decide +kernel
theorem dX11_lay_305 : decode cX11_lay 305 = .ok (.iastore, 1) := by decide +kernel
theorem dX11_lay_306 : decode cX11_lay 306 = .ok (.iinc 1 1, 3) := by decide +kernel
theorem dX11_lay_309 : decode cX11_lay 309 = .ok (.goto (-22), 3) := by decide +kernel
theorem dX11_lay_312 : decode cX11_lay 312 = .ok (.iconst 0, 1) := by decide +kernel
theorem dX11_lay_313 : decode cX11_lay 313 = .ok (.istore_n 1, 1) := by decide +kernel
theorem dX11_lay_314 : decode cX11_lay 314 = .ok (.iload_n 1, 1) := by decide +kernel
theorem dX11_lay_315 : decode cX11_lay 315 = .ok (.bipush 80, 2) := by decide +kernel
theorem dX11_lay_317 : decode cX11_lay 317 = .ok (.if_icmp .ge 16, 3) := by decide +kernel
theorem dX11_lay_320 : decode cX11_lay 320 = .ok (.aload_n 0, 1) := by decide +kernel
theorem dX11_lay_321 : decode cX11_lay 321 = .ok (.getfield 61, 3) := by decide +kernel
theorem dX11_lay_324 : decode cX11_lay 324 = .ok (.iload_n 1, 1) := by decide +kernel
theorem dX11_lay_325 : decode cX11_lay 325 = .ok (.iconst 0, 1) := by decide +kernel
theorem dX11_lay_326 : decode cX11_lay 326 = .ok (.iastore, 1) := by decide +kernel
theorem dX11_lay_327 : decode cX11_lay 327 = .ok (.iinc 1 1, 3) := by decide +kernel
theorem dX11_lay_330 : decode cX11_lay 330 = .ok (.goto (-16), 3) := by decide +kernel
theorem dX11_lay_333 : decode cX11_lay 333 = .ok (.iconst 0, 1) := by decide +kernel
theorem dX11_lay_334 : decode cX11_lay 334 = .ok (.istore_n 1, 1) := by decide +kernel
theorem dX11_lay_335 : decode cX11_lay 335 = .ok (.iload_n 1, 1) := by decide +kernel
theorem dX11_lay_336 : decode cX11_lay 336 = .ok (.bipush 10, 2) := by decide +kernel
theorem dX11_lay_338 : decode cX11_lay 338 = .ok (.if_icmp .ge 23, 3) := by decide +kernel
theorem dX11_lay_341 : decode cX11_lay 341 = .ok (.aload_n 0, 1) := by decide +kernel
theorem dX11_lay_342 : decode cX11_lay 342 = .ok (.getfield 67, 3) := by decide +kernel
theorem dX11_lay_345 : decode cX11_lay 345 = .ok (.iload_n 1, 1) := by decide +kernel
theorem dX11_lay_346 : decode cX11_lay 346 = .ok (.iconst 0, 1) := by decide +kernel
theorem dX11_lay_347 : decode cX11_lay 347 = .ok (.iastore, 1) := by decide +kernel
theorem dX11_lay_348 : decode cX11_lay 348 = .ok (.aload_n 0, 1) := by decide +kernel
theorem dX11_lay_349 : decode cX11_lay 349 = .ok (.getfield 70, 3) := by decide +kernel
theorem dX11_lay_352 : decode cX11_lay 352 = .ok (.iload_n 1, 1) := by decide +kernel
theorem dX11_lay_353 : decode cX11_lay 353 = .ok (.iconst 0, 1) := by decide +kernel
theorem dX11_lay_354 : decode cX11_lay 354 = .ok (.iastore, 1) := by decide +kernel
theorem dX11_lay_355 : decode cX11_lay 355 = .ok (.iinc 1 1, 3) := by decide +kernel
theorem dX11_lay_358 : decode cX11_lay 358 = .ok (.goto (-23), 3) := by decide +kernel
theorem dX11_lay_361 : decode cX11_lay 361 = .ok (.aload_n 0, 1) := by decide +kernel
theorem dX11_lay_362 : decode cX11_lay 362 = .ok (.getfield 64, 3) := by decide +kernel
theorem dX11_lay_365 : decode cX11_lay 365 = .ok (.iconst 0, 1) := by decide +kernel
theorem dX11_lay_366 : decode cX11_lay 366 = .ok (.iconst 0, 1) := by decide +kernel
theorem dX11_lay_367 : decode cX11_lay 367 = .ok (.iastore, 1) := by decide +kernel
theorem dX11_lay_368 : decode cX11_lay 368 = .ok (.aload_n 0, 1) := by decide +kernel
theorem dX11_lay_369 : decode cX11_lay 369 = .ok (.iconst 0, 1) := by decide +kernel
theorem dX11_lay_370 : decode cX11_lay 370 = .ok (.putfield 180, 3) := by decide +kernel
theorem dX11_lay_373 : decode cX11_lay 373 = .ok (.aload_n 0, 1) := by decide +kernel
theorem dX11_lay_374 : decode cX11_lay 374 = .ok (.invokevirtual 119, 3) := by decide +kernel
theorem dX11_lay_377 : decode cX11_lay 377 = .ok (.aload_n 0, 1) := by decide +kernel
theorem dX11_lay_378 : decode cX11_lay 378 = .ok (.getfield 13, 3) := by decide +kernel
theorem dX11_lay_381 : decode cX11_lay 381 = .ok (.iconst 0, 1) := by decide +kernel
theorem dX11_lay_382 : decode cX11_lay 382 = .ok (.iaload, 1) := by decide +kernel
theorem dX11_lay_383 : decode cX11_lay 383 = .ok (.ireturn, 1) := by decide +kernel
theorem dX11_isPlayer_0 : decode cX11_isPlayer 0 = .ok (.iload_n 1, 1) := by decide +kernel
theorem dX11_isPlayer_1 : decode cX11_isPlayer 1 = .ok (.i2l, 1) := by decide +kernel
theorem dX11_isPlayer_2 : decode cX11_isPlayer 2 = .ok (.lconst 0, 1) := by decide +kernel
theorem dX11_isPlayer_3 : decode cX11_isPlayer 3 = .ok (.aload_n 0, 1) := by decide +kernel
theorem dX11_isPlayer_4 : decode cX11_isPlayer 4 = .ok (.getfield 13, 3) := by decide +kernel
theorem dX11_isPlayer_7 : decode cX11_isPlayer 7 = .ok (.iconst 0, 1) := by decide +kernel
theorem dX11_isPlayer_8 : decode cX11_isPlayer 8 = .ok (.iaload, 1) := by decide +kernel
theorem dX11_isPlayer_9 : decode cX11_isPlayer 9 = .ok (.iconst 1, 1) := by decide +kernel
theorem dX11_isPlayer_10 : decode cX11_isPlayer 10 = .ok (.isub, 1) := by decide +kernel
theorem dX11_isPlayer_11 : decode cX11_isPlayer 11 = .ok (.i2l, 1) := by decide +kernel
theorem dX11_isPlayer_12 : decode cX11_isPlayer 12 = .ok (.invokestatic 124, 3) := by decide +kernel
theorem dX11_isPlayer_15 : decode cX11_isPlayer 15 = .ok (.ireturn, 1) := by decide +kernel
theorem dX11_isPart_0 : decode cX11_isPart 0 = .ok (.iload_n 1, 1) := by decide +kernel
theorem dX11_isPart_1 : decode cX11_isPart 1 = .ok (.i2l, 1) := by decide +kernel
theorem dX11_isPart_2 : decode cX11_isPart 2 = .ok (.lconst 0, 1) := by decide +kernel
theorem dX11_isPart_3 : decode cX11_isPart 3 = .ok (.aload_n 0, 1) := by decide +kernel
theorem dX11_isPart_4 : decode cX11_isPart 4 = .ok (.getfield 22, 3) := by decide +kernel
theorem dX11_isPart_7 : decode cX11_isPart 7 = .ok (.iconst 0, 1) := by decide +kernel
theorem dX11_isPart_8 : decode cX11_isPart 8 = .ok (.iaload, 1) := by decide +kernel
theorem dX11_isPart_9 : decode cX11_isPart 9 = .ok (.iconst 1, 1) := by decide +kernel
theorem dX11_isPart_10 : decode cX11_isPart 10 = .ok (.isub, 1) := by decide +kernel
theorem dX11_isPart_11 : decode cX11_isPart 11 = .ok (.i2l, 1) := by decide +kernel
theorem dX11_isPart_12 : decode cX11_isPart 12 = .ok (.invokestatic 124, 3) := by decide +kernel
theorem dX11_isPart_15 : decode cX11_isPart 15 = .ok (.ireturn, 1) := by decide +kernel
theorem dX11_mayPlay_0 : decode cX11_mayPlay 0 = .ok (.aload_n 0, 1) := by decide +kernel
theorem dX11_mayPlay_1 : decode cX11_mayPlay 1 = .ok (.getfield 37, 3) := by decide +kernel
theorem dX11_mayPlay_4 : decode cX11_mayPlay 4 = .ok (.iload_n 2, 1) := by decide +kernel
theorem dX11_mayPlay_5 : decode cX11_mayPlay 5 = .ok (.iaload, 1) := by decide +kernel
theorem dX11_mayPlay_6 : decode cX11_mayPlay 6 = .ok (.iload_n 1, 1) := by decide +kernel
theorem dX11_mayPlay_7 : decode cX11_mayPlay 7 = .ok (.if_icmp .eq 16, 3) := by decide +kernel
theorem dX11_mayPlay_10 : decode cX11_mayPlay 10 = .ok (.aload_n 0, 1) := by decide +kernel
theorem dX11_mayPlay_11 : decode cX11_mayPlay 11 = .ok (.getfield 52, 3) := by decide +kernel
theorem dX11_mayPlay_14 : decode cX11_mayPlay 14 = .ok (.iload_n 1, 1) := by decide +kernel
theorem dX11_mayPlay_15 : decode cX11_mayPlay 15 = .ok (.iaload, 1) := by decide +kernel
theorem dX11_mayPlay_16 : decode cX11_mayPlay 16 = .ok (.iload_n 2, 1) := by decide +kernel
theorem dX11_mayPlay_17 : decode cX11_mayPlay 17 = .ok (.invokestatic 183, 3) := by decide +kernel
theorem dX11_mayPlay_20 : decode cX11_mayPlay 20 = .ok (.ifCond .eq 29, 3) := by decide +kernel
theorem dX11_mayPlay_23 : decode cX11_mayPlay 23 = .ok (.aload_n 0, 1) := by decide +kernel
theorem dX11_mayPlay_24 : decode cX11_mayPlay 24 = .ok (.getfield 19, 3) := by decide +kernel
theorem dX11_mayPlay_27 : decode cX11_mayPlay 27 = .ok (.iload_n 1, 1) := by decide +kernel
theorem dX11_mayPlay_28 : decode cX11_mayPlay 28 = .ok (.iaload, 1) := by decide +kernel
theorem dX11_mayPlay_29 : decode cX11_mayPlay 29 = .ok (.aload_n 0, 1) := by decide +kernel
theorem dX11_mayPlay_30 : decode cX11_mayPlay 30 = .ok (.getfield 28, 3) := by decide +kernel
theorem dX11_mayPlay_33 : decode cX11_mayPlay 33 = .ok (.iload_n 2, 1) := by decide +kernel
theorem dX11_mayPlay_34 : decode cX11_mayPlay 34 = .ok (.iaload, 1) := by decide +kernel
theorem dX11_mayPlay_35 : decode cX11_mayPlay 35 = .ok (.iand, 1) := by decide +kernel
theorem dX11_mayPlay_36 : decode cX11_mayPlay 36 = .ok (.aload_n 0, 1) := by decide +kernel
theorem dX11_mayPlay_37 : decode cX11_mayPlay 37 = .ok (.getfield 28, 3) := by decide +kernel
theorem dX11_mayPlay_40 : decode cX11_mayPlay 40 = .ok (.iload_n 2, 1) := by decide +kernel
theorem dX11_mayPlay_41 : decode cX11_mayPlay 41 = .ok (.iaload, 1) := by decide +kernel
theorem dX11_mayPlay_42 : decode cX11_mayPlay 42 = .ok (.if_icmp .ne 7, 3) := by decide +kernel
theorem dX11_mayPlay_45 : decode cX11_mayPlay 45 = .ok (.iconst 1, 1) := by decide +kernel
theorem dX11_mayPlay_46 : decode cX11_mayPlay 46 = .ok (.goto 4, 3) := by decide +kernel
theorem dX11_mayPlay_49 : decode cX11_mayPlay 49 = .ok (.iconst 0, 1) := by decide +kernel
theorem dX11_mayPlay_50 : decode cX11_mayPlay 50 = .ok (.ireturn, 1) := by decide +kernel
theorem dX11_areBoth_0 : decode cX11_areBoth 0 = .ok (.bipush (-4), 2) := by decide +kernel
theorem dX11_areBoth_2 : decode cX11_areBoth 2 = .ok (.istore_n 3, 1) := by decide +kernel
theorem dX11_areBoth_3 : decode cX11_areBoth 3 = .ok (.iconst 0, 1) := by decide +kernel
theorem dX11_areBoth_4 : decode cX11_areBoth 4 = .ok (.istore 4, 2) := by decide +kernel
theorem dX11_areBoth_6 : decode cX11_areBoth 6 = .ok (.iconst 0, 1) := by decide +kernel
theorem dX11_areBoth_7 : decode cX11_areBoth 7 = .ok (.istore 5, 2) := by decide +kernel
theorem dX11_areBoth_9 : decode cX11_areBoth 9 = .ok (.iload 5, 2) := by decide +kernel
theorem dX11_areBoth_11 : decode cX11_areBoth 11 = .ok (.aload_n 0, 1) := by decide +kernel
theorem dX11_areBoth_12 : decode cX11_areBoth 12 = .ok (.getfield 40, 3) := by decide +kernel
theorem dX11_areBoth_15 : decode cX11_areBoth 15 = .ok (.iconst 0, 1) := by decide +kernel
theorem dX11_areBoth_16 : decode cX11_areBoth 16 = .ok (.iaload, 1) := by decide +kernel
theorem dX11_areBoth_17 : decode cX11_areBoth 17 = .ok (.if_icmp .ge 115, 3) := by decide +kernel
theorem dX11_areBoth_20 : decode cX11_areBoth 20 = .ok (.aload_n 0, 1) := by decide +kernel
theorem dX11_areBoth_21 : decode cX11_areBoth 21 = .ok (.getfield 43, 3) := by decide +kernel
theorem dX11_areBoth_24 : decode cX11_areBoth 24 = .ok (.iload 5, 2) := by decide +kernel
theorem dX11_areBoth_26 : decode cX11_areBoth 26 = .ok (.iaload, 1) := by decide +kernel
theorem dX11_areBoth_27 : decode cX11_areBoth 27 = .ok (.iload_n 1, 1) := by decide +kernel
theorem dX11_areBoth_28 : decode cX11_areBoth 28 = .ok (.invokestatic 183, 3) := by decide +kernel
theorem dX11_areBoth_31 : decode cX11_areBoth 31 = .ok (.istore 6, 2) := by decide +kernel
theorem dX11_areBoth_33 : decode cX11_areBoth 33 = .ok (.aload_n 0, 1) := by decide +kernel
theorem dX11_areBoth_34 : decode cX11_areBoth 34 = .ok (.getfield 43, 3) := by decide +kernel
theorem dX11_areBoth_37 : decode cX11_areBoth 37 = .ok (.iload 5, 2) := by decide +kernel
theorem dX11_areBoth_39 : decode cX11_areBoth 39 = .ok (.iaload, 1) := by decide +kernel
theorem dX11_areBoth_40 : decode cX11_areBoth 40 = .ok (.iload_n 2, 1) := by decide +kernel
theorem dX11_areBoth_41 : decode cX11_areBoth 41 = .ok (.invokestatic 183, 3) := by decide +kernel
theorem dX11_areBoth_44 : decode cX11_areBoth 44 = .ok (.istore 7, 2) := by decide +kernel
theorem dX11_areBoth_46 : decode cX11_areBoth 46 = .ok (.iload 6, 2) := by decide +kernel
theorem dX11_areBoth_48 : decode cX11_areBoth 48 = .ok (.ifCond .eq 10, 3) := by decide +kernel
theorem dX11_areBoth_51 : decode cX11_areBoth 51 = .ok (.iload 7, 2) := by decide +kernel
theorem dX11_areBoth_53 : decode cX11_areBoth 53 = .ok (.ifCond .eq 5, 3) := by decide +kernel
theorem dX11_areBoth_56 : decode cX11_areBoth 56 = .ok (.iconst 0, 1) := by decide +kernel
theorem dX11_areBoth_57 : decode cX11_areBoth 57 = .ok (.ireturn, 1) := by decide +kernel
theorem dX11_areBoth_58 : decode cX11_areBoth 58 = .ok (.iload 6, 2) := by decide +kernel
theorem dX11_areBoth_60 : decode cX11_areBoth 60 = .ok (.ifCond .ne 8, 3) := by decide +kernel
theorem dX11_areBoth_63 : decode cX11_areBoth 63 = .ok (.iload 7, 2) := by decide +kernel
theorem dX11_areBoth_65 : decode cX11_areBoth 65 = .ok (.ifCond .eq 49, 3) := by decide +kernel
theorem dX11_areBoth_68 : decode cX11_areBoth 68 = .ok (.iload 6, 2) := by decide +kernel
theorem dX11_areBoth_70 : decode cX11_areBoth 70 = .ok (.ifCond .eq 7, 3) := by decide +kernel
theorem dX11_areBoth_73 : decode cX11_areBoth 73 = .ok (.iload_n 1, 1) := by decide +kernel
theorem dX11_areBoth_74 : decode cX11_areBoth 74 = .ok (.goto 4, 3) := by decide +kernel
theorem dX11_areBoth_77 : decode cX11_areBoth 77 = .ok (.iload_n 2, 1) := by decide +kernel
theorem dX11_areBoth_78 : decode cX11_areBoth 78 = .ok (.istore 8, 2) := by decide +kernel
theorem dX11_areBoth_80 : decode cX11_areBoth 80 = .ok (.iload_n 3, 1) := by decide +kernel
theorem dX11_areBoth_81 : decode cX11_areBoth 81 = .ok (.bipush (-4), 2) := by decide +kernel
theorem dX11_areBoth_83 : decode cX11_areBoth 83 = .ok (.if_icmp .eq 22, 3) := by decide +kernel
theorem dX11_areBoth_86 : decode cX11_areBoth 86 = .ok (.iload_n 3, 1) := by decide +kernel
theorem dX11_areBoth_87 : decode cX11_areBoth 87 = .ok (.iload 8, 2) := by decide +kernel
theorem dX11_areBoth_89 : decode cX11_areBoth 89 = .ok (.if_icmp .eq 16, 3) := by decide +kernel
theorem dX11_areBoth_92 : decode cX11_areBoth 92 = .ok (.iload 4, 2) := by decide +kernel
theorem dX11_areBoth_94 : decode cX11_areBoth 94 = .ok (.aload_n 0, 1) := by decide +kernel
theorem dX11_areBoth_95 : decode cX11_areBoth 95 = .ok (.getfield 58, 3) := by decide +kernel
theorem dX11_areBoth_98 : decode cX11_areBoth 98 = .ok (.iconst 0, 1) := by decide +kernel
theorem dX11_areBoth_99 : decode cX11_areBoth 99 = .ok (.iaload, 1) := by decide +kernel
theorem dX11_areBoth_100 : decode cX11_areBoth 100 = .ok (.if_icmp .ge 5, 3) := by decide +kernel
theorem dX11_areBoth_103 : decode cX11_areBoth 103 = .ok (.iconst 0, 1) := by decide +kernel
theorem dX11_areBoth_104 : decode cX11_areBoth 104 = .ok (.ireturn, 1) := by decide +kernel
theorem dX11_areBoth_105 : decode cX11_areBoth 105 = .ok (.iload 8, 2) := by decide +kernel
theorem dX11_areBoth_107 : decode cX11_areBoth 107 = .ok (.istore_n 3, 1) := by decide +kernel
theorem dX11_areBoth_108 : decode cX11_areBoth 108 = .ok (.iconst 0, 1) := by decide +kernel
theorem dX11_areBoth_109 : decode cX11_areBoth 109 = .ok (.istore 4, 2) := by decide +kernel
theorem dX11_areBoth_111 : decode cX11_areBoth 111 = .ok (.goto 15, 3) := by decide +kernel
theorem dX11_areBoth_114 : decode cX11_areBoth 114 = .ok (.iload 4, 2) := by decide +kernel
theorem dX11_areBoth_116 : decode cX11_areBoth 116 = .ok (.aload_n 0, 1) := by decide +kernel
theorem dX11_areBoth_117 : decode cX11_areBoth 117 = .ok (.getfield 46, 3) := by decide +kernel
theorem dX11_areBoth_120 : decode cX11_areBoth 120 = .ok (.iload 5, 2) := by decide +kernel
theorem dX11_areBoth_122 : decode cX11_areBoth 122 = .ok (.iaload, 1) := by decide +kernel
theorem dX11_areBoth_123 : decode cX11_areBoth 123 = .ok (.iadd, 1) := by decide +kernel
theorem dX11_areBoth_124 : decode cX11_areBoth 124 = .ok (.istore 4, 2) := by decide +kernel
theorem dX11_areBoth_126 : decode cX11_areBoth 126 = .ok (.iinc 5 1, 3) := by decide +kernel
theorem dX11_areBoth_129 : decode cX11_areBoth 129 = .ok (.goto (-120), 3) := by decide +kernel
theorem dX11_areBoth_132 : decode cX11_areBoth 132 = .ok (.iconst 1, 1) := by decide +kernel
theorem dX11_areBoth_133 : decode cX11_areBoth 133 = .ok (.ireturn, 1) := by decide +kernel
theorem dX11_layRules_0 : decode cX11_layRules 0 = .ok (.iconst 0, 1) := by decide +kernel
theorem dX11_layRules_1 : decode cX11_layRules 1 = .ok (.istore_n 1, 1) := by decide +kernel
theorem dX11_layRules_2 : decode cX11_layRules 2 = .ok (.iload_n 1, 1) := by decide +kernel
theorem dX11_layRules_3 : decode cX11_layRules 3 = .ok (.aload_n 0, 1) := by decide +kernel
theorem dX11_layRules_4 : decode cX11_layRules 4 = .ok (.getfield 13, 3) := by decide +kernel
theorem dX11_layRules_7 : decode cX11_layRules 7 = .ok (.iconst 0, 1) := by decide +kernel
theorem dX11_layRules_8 : decode cX11_layRules 8 = .ok (.iaload, 1) := by decide +kernel
theorem dX11_layRules_9 : decode cX11_layRules 9 = .ok (.if_icmp .ge 14, 3) := by decide +kernel
theorem dX11_layRules_12 : decode cX11_layRules 12 = .ok (.aload_n 0, 1) := by decide +kernel
theorem dX11_layRules_13 : decode cX11_layRules 13 = .ok (.iload_n 1, 1) := by decide +kernel
theorem dX11_layRules_14 : decode cX11_layRules 14 = .ok (.invokevirtual 186, 3) := by decide +kernel
theorem dX11_layRules_17 : decode cX11_layRules 17 = .ok (.iinc 1 1, 3) := by decide +kernel
theorem dX11_layRules_20 : decode cX11_layRules 20 = .ok (.goto (-18), 3) := by decide +kernel
theorem dX11_layRules_23 : decode cX11_layRules 23 = .ok (.iconst 0, 1) := by decide +kernel
theorem dX11_layRules_24 : decode cX11_layRules 24 = .ok (.istore_n 1, 1) := by decide +kernel
theorem dX11_layRules_25 : decode cX11_layRules 25 = .ok (.iload_n 1, 1) := by decide +kernel
theorem dX11_layRules_26 : decode cX11_layRules 26 = .ok (.aload_n 0, 1) := by decide +kernel
theorem dX11_layRules_27 : decode cX11_layRules 27 = .ok (.getfield 22, 3) := by decide +kernel
theorem dX11_layRules_30 : decode cX11_layRules 30 = .ok (.iconst 0, 1) := by decide +kernel
theorem dX11_layRules_31 : decode cX11_layRules 31 = .ok (.iaload, 1) := by decide +kernel
theorem dX11_layRules_32 : decode cX11_layRules 32 = .ok (.if_icmp .ge 64, 3) := by decide +kernel
theorem dX11_layRules_35 : decode cX11_layRules 35 = .ok (.aload_n 0, 1) := by decide +kernel
theorem dX11_layRules_36 : decode cX11_layRules 36 = .ok (.getfield 79, 3) := by decide +kernel
theorem dX11_layRules_39 : decode cX11_layRules 39 = .ok (.iload_n 1, 1) := by decide +kernel
theorem dX11_layRules_40 : decode cX11_layRules 40 = .ok (.iconst 0, 1) := by decide +kernel
theorem dX11_layRules_41 : decode cX11_layRules 41 = .ok (.iastore, 1) := by decide +kernel
theorem dX11_layRules_42 : decode cX11_layRules 42 = .ok (.iconst 0, 1) := by decide +kernel
theorem dX11_layRules_43 : decode cX11_layRules 43 = .ok (.istore_n 2, 1) := by decide +kernel
theorem dX11_layRules_44 : decode cX11_layRules 44 = .ok (.iload_n 2, 1) := by decide +kernel
theorem dX11_layRules_45 : decode cX11_layRules 45 = .ok (.aload_n 0, 1) := by decide +kernel
theorem dX11_layRules_46 : decode cX11_layRules 46 = .ok (.getfield 22, 3) := by decide +kernel
theorem dX11_layRules_49 : decode cX11_layRules 49 = .ok (.iconst 0, 1) := by decide +kernel
theorem dX11_layRules_50 : decode cX11_layRules 50 = .ok (.iaload, 1) := by decide +kernel
theorem dX11_layRules_51 : decode cX11_layRules 51 = .ok (.if_icmp .ge 39, 3) := by decide +kernel
theorem dX11_layRules_54 : decode cX11_layRules 54 = .ok (.aload_n 0, 1) := by decide +kernel
theorem dX11_layRules_55 : decode cX11_layRules 55 = .ok (.getfield 79, 3) := by decide +kernel
theorem dX11_layRules_58 : decode cX11_layRules 58 = .ok (.iload_n 1, 1) := by decide +kernel
theorem dX11_layRules_59 : decode cX11_layRules 59 = .ok (.dup2, 1) := by decide +kernel
theorem dX11_layRules_60 : decode cX11_layRules 60 = .ok (.iaload, 1) := by decide +kernel
theorem dX11_layRules_61 : decode cX11_layRules 61 = .ok (.iload_n 1, 1) := by decide +kernel
theorem dX11_layRules_62 : decode cX11_layRules 62 = .ok (.iload_n 2, 1) := by decide +kernel
theorem dX11_layRules_63 : decode cX11_layRules 63 = .ok (.if_icmp .eq 18, 3) := by decide +kernel
theorem dX11_layRules_66 : decode cX11_layRules 66 = .ok (.aload_n 0, 1) := by decide +kernel
theorem dX11_layRules_67 : decode cX11_layRules 67 = .ok (.iload_n 1, 1) := by decide +kernel
theorem dX11_layRules_68 : decode cX11_layRules 68 = .ok (.iload_n 2, 1) := by decide +kernel
theorem dX11_layRules_69 : decode cX11_layRules 69 = .ok (.invokevirtual 189, 3) := by decide +kernel
theorem dX11_layRules_72 : decode cX11_layRules 72 = .ok (.ifCond .eq 9, 3) := by decide +kernel
theorem dX11_layRules_75 : decode cX11_layRules 75 = .ok (.iconst 1, 1) := by decide +kernel
theorem dX11_layRules_76 : decode cX11_layRules 76 = .ok (.iload_n 2, 1) := by decide +kernel
theorem dX11_layRules_77 : decode cX11_layRules 77 = .ok (.ishl, 1) := by decide +kernel
theorem dX11_layRules_78 : decode cX11_layRules 78 = .ok (.goto 4, 3) := by decide +kernel
theorem dX11_layRules_81 : decode cX11_layRules 81 = .ok (.iconst 0, 1) := by decide +kernel
theorem dX11_layRules_82 : decode cX11_layRules 82 = .ok (.ior, 1) := by decide +kernel
theorem dX11_layRules_83 : decode cX11_layRules 83 = .ok (.iastore, 1) := by decide +kernel
theorem dX11_layRules_84 : decode cX11_layRules 84 = .ok (.iinc 2 1, 3) := by decide +kernel
theorem dX11_layRules_87 : decode cX11_layRules 87 = .ok (.goto (-43), 3) := by decide +kernel
theorem dX11_layRules_90 : decode cX11_layRules 90 = .ok (.iinc 1 1, 3) := by decide +kernel
theorem dX11_layRules_93 : decode cX11_layRules 93 = .ok (.goto (-68), 3) := by decide +kernel
theorem dX11_layRules_96 : decode cX11_layRules 96 = .ok (.return_, 1) := by decide +kernel
theorem dX11_layMays_0 : decode cX11_layMays 0 = .ok (.aload_n 0, 1) := by decide +kernel
theorem dX11_layMays_1 : decode cX11_layMays 1 = .ok (.getfield 76, 3) := by decide +kernel
theorem dX11_layMays_4 : decode cX11_layMays 4 = .ok (.iload_n 1, 1) := by decide +kernel
theorem dX11_layMays_5 : decode cX11_layMays 5 = .ok (.iconst 0, 1) := by decide +kernel
theorem dX11_layMays_6 : decode cX11_layMays 6 = .ok (.iastore, 1) := by decide +kernel
theorem dX11_layMays_7 : decode cX11_layMays 7 = .ok (.iconst 0, 1) := by decide +kernel
theorem dX11_layMays_8 : decode cX11_layMays 8 = .ok (.istore_n 2, 1) := by decide +kernel
theorem dX11_layMays_9 : decode cX11_layMays 9 = .ok (.iload_n 2, 1) := by decide +kernel
theorem dX11_layMays_10 : decode cX11_layMays 10 = .ok (.aload_n 0, 1) := by decide +kernel
theorem dX11_layMays_11 : decode cX11_layMays 11 = .ok (.getfield 22, 3) := by decide +kernel
theorem dX11_layMays_14 : decode cX11_layMays 14 = .ok (.iconst 0, 1) := by decide +kernel
theorem dX11_layMays_15 : decode cX11_layMays 15 = .ok (.iaload, 1) := by decide +kernel
theorem dX11_layMays_16 : decode cX11_layMays 16 = .ok (.if_icmp .ge 34, 3) := by decide +kernel
theorem dX11_layMays_19 : decode cX11_layMays 19 = .ok (.aload_n 0, 1) := by decide +kernel
theorem dX11_layMays_20 : decode cX11_layMays 20 = .ok (.getfield 76, 3) := by decide +kernel
theorem dX11_layMays_23 : decode cX11_layMays 23 = .ok (.iload_n 1, 1) := by decide +kernel
theorem dX11_layMays_24 : decode cX11_layMays 24 = .ok (.dup2, 1) := by decide +kernel
theorem dX11_layMays_25 : decode cX11_layMays 25 = .ok (.iaload, 1) := by decide +kernel
theorem dX11_layMays_26 : decode cX11_layMays 26 = .ok (.aload_n 0, 1) := by decide +kernel
theorem dX11_layMays_27 : decode cX11_layMays 27 = .ok (.iload_n 1, 1) := by decide +kernel
theorem dX11_layMays_28 : decode cX11_layMays 28 = .ok (.iload_n 2, 1) := by decide +kernel
theorem dX11_layMays_29 : decode cX11_layMays 29 = .ok (.invokevirtual 192, 3) := by decide +kernel
theorem dX11_layMays_32 : decode cX11_layMays 32 = .ok (.ifCond .eq 9, 3) := by decide +kernel
theorem dX11_layMays_35 : decode cX11_layMays 35 = .ok (.iconst 1, 1) := by decide +kernel
theorem dX11_layMays_36 : decode cX11_layMays 36 = .ok (.iload_n 2, 1) := by decide +kernel
theorem dX11_layMays_37 : decode cX11_layMays 37 = .ok (.ishl, 1) := by decide +kernel
theorem dX11_layMays_38 : decode cX11_layMays 38 = .ok (.goto 4, 3) := by decide +kernel
theorem dX11_layMays_41 : decode cX11_layMays 41 = .ok (.iconst 0, 1) := by decide +kernel
theorem dX11_layMays_42 : decode cX11_layMays 42 = .ok (.ior, 1) := by decide +kernel
theorem dX11_layMays_43 : decode cX11_layMays 43 = .ok (.iastore, 1) := by decide +kernel
theorem dX11_layMays_44 : decode cX11_layMays 44 = .ok (.iinc 2 1, 3) := by decide +kernel
theorem dX11_layMays_47 : decode cX11_layMays 47 = .ok (.goto (-38), 3) := by decide +kernel
theorem dX11_layMays_50 : decode cX11_layMays 50 = .ok (.return_, 1) := by decide +kernel
theorem dX11_player_0 : decode cX11_player 0 = .ok (.aload_n 0, 1) := by decide +kernel
theorem dX11_player_1 : decode cX11_player 1 = .ok (.iload_n 1, 1) := by decide +kernel
theorem dX11_player_2 : decode cX11_player 2 = .ok (.invokevirtual 195, 3) := by decide +kernel
theorem dX11_player_5 : decode cX11_player 5 = .ok (.ifCond .eq 15, 3) := by decide +kernel
theorem dX11_player_8 : decode cX11_player 8 = .ok (.iload_n 2, 1) := by decide +kernel
theorem dX11_player_9 : decode cX11_player 9 = .ok (.i2l, 1) := by decide +kernel
theorem dX11_player_10 : decode cX11_player 10 = .ok (.lconst 0, 1) := by decide +kernel
theorem dX11_player_11 : decode cX11_player 11 = .ok (.ldc2_w 198, 3) := by decide +kernel
theorem dX11_player_14 : decode cX11_player 14 = .ok (.invokestatic 124, 3) := by decide +kernel
theorem dX11_player_17 : decode cX11_player 17 = .ok (.ifCond .ne 5, 3) := by decide +kernel
theorem dX11_player_20 : decode cX11_player 20 = .ok (.iconst (-1), 1) := by decide +kernel
theorem dX11_player_21 : decode cX11_player 21 = .ok (.ireturn, 1) := by decide +kernel
theorem dX11_player_22 : decode cX11_player 22 = .ok (.iconst 0, 1) := by decide +kernel
theorem dX11_player_23 : decode cX11_player 23 = .ok (.istore_n 3, 1) := by decide +kernel
theorem dX11_player_24 : decode cX11_player 24 = .ok (.iconst 0, 1) := by decide +kernel
theorem dX11_player_25 : decode cX11_player 25 = .ok (.istore 4, 2) := by decide +kernel
theorem dX11_player_27 : decode cX11_player 27 = .ok (.iload 4, 2) := by decide +kernel
theorem dX11_player_29 : decode cX11_player 29 = .ok (.aload_n 0, 1) := by decide +kernel
theorem dX11_player_30 : decode cX11_player 30 = .ok (.getfield 22, 3) := by decide +kernel
theorem dX11_player_33 : decode cX11_player 33 = .ok (.iconst 0, 1) := by decide +kernel
theorem dX11_player_34 : decode cX11_player 34 = .ok (.iaload, 1) := by decide +kernel
theorem dX11_player_35 : decode cX11_player 35 = .ok (.if_icmp .ge 31, 3) := by decide +kernel
theorem dX11_player_38 : decode cX11_player 38 = .ok (.iload_n 3, 1) := by decide +kernel
theorem dX11_player_39 : decode cX11_player 39 = .ok (.aload_n 0, 1) := by decide +kernel
theorem dX11_player_40 : decode cX11_player 40 = .ok (.getfield 37, 3) := by decide +kernel
theorem dX11_player_43 : decode cX11_player 43 = .ok (.iload 4, 2) := by decide +kernel
theorem dX11_player_45 : decode cX11_player 45 = .ok (.iaload, 1) := by decide +kernel
theorem dX11_player_46 : decode cX11_player 46 = .ok (.iload_n 1, 1) := by decide +kernel
theorem dX11_player_47 : decode cX11_player 47 = .ok (.if_icmp .ne 10, 3) := by decide +kernel
theorem dX11_player_50 : decode cX11_player 50 = .ok (.iconst 1, 1) := by decide +kernel
theorem dX11_player_51 : decode cX11_player 51 = .ok (.iload 4, 2) := by decide +kernel
theorem dX11_player_53 : decode cX11_player 53 = .ok (.ishl, 1) := by decide +kernel
theorem dX11_player_54 : decode cX11_player 54 = .ok (.goto 4, 3) := by decide +kernel
theorem dX11_player_57 : decode cX11_player 57 = .ok (.iconst 0, 1) := by decide +kernel
theorem dX11_player_58 : decode cX11_player 58 = .ok (.ior, 1) := by decide +kernel
theorem dX11_player_59 : decode cX11_player 59 = .ok (.istore_n 3, 1) := by decide +kernel
theorem dX11_player_60 : decode cX11_player 60 = .ok (.iinc 4 1, 3) := by decide +kernel
theorem dX11_player_63 : decode cX11_player 63 = .ok (.goto (-36), 3) := by decide +kernel
theorem dX11_player_66 : decode cX11_player 66 = .ok (.iload_n 2, 1) := by decide +kernel
theorem dX11_player_67 : decode cX11_player 67 = .ok (.tableswitch 52 0 3 #[29, 36, 43, 45], 29) := by decide +kernel
theorem dX11_player_96 : decode cX11_player 96 = .ok (.aload_n 0, 1) := by decide +kernel
theorem dX11_player_97 : decode cX11_player 97 = .ok (.getfield 16, 3) := by decide +kernel
theorem dX11_player_100 : decode cX11_player 100 = .ok (.iload_n 1, 1) := by decide +kernel
theorem dX11_player_101 : decode cX11_player 101 = .ok (.iaload, 1) := by decide +kernel
theorem dX11_player_102 : decode cX11_player 102 = .ok (.ireturn, 1) := by decide +kernel
theorem dX11_player_103 : decode cX11_player 103 = .ok (.aload_n 0, 1) := by decide +kernel
theorem dX11_player_104 : decode cX11_player 104 = .ok (.getfield 19, 3) := by decide +kernel
theorem dX11_player_107 : decode cX11_player 107 = .ok (.iload_n 1, 1) := by decide +kernel
theorem dX11_player_108 : decode cX11_player 108 = .ok (.iaload, 1) := by decide +kernel
theorem dX11_player_109 : decode cX11_player 109 = .ok (.ireturn, 1) := by decide +kernel
theorem dX11_player_110 : decode cX11_player 110 = .ok (.iload_n 3, 1) := by decide +kernel
theorem dX11_player_111 : decode cX11_player 111 = .ok (.ireturn, 1) := by decide +kernel
theorem dX11_player_112 : decode cX11_player 112 = .ok (.aload_n 0, 1) := by decide +kernel
theorem dX11_player_113 : decode cX11_player 113 = .ok (.getfield 52, 3) := by decide +kernel
theorem dX11_player_116 : decode cX11_player 116 = .ok (.iload_n 1, 1) := by decide +kernel
theorem dX11_player_117 : decode cX11_player 117 = .ok (.iaload, 1) := by decide +kernel
theorem dX11_player_118 : decode cX11_player 118 = .ok (.ireturn, 1) := by decide +kernel
theorem dX11_player_119 : decode cX11_player 119 = .ok (.aload_n 0, 1) := by decide +kernel
theorem dX11_player_120 : decode cX11_player 120 = .ok (.getfield 76, 3) := by decide +kernel
theorem dX11_player_123 : decode cX11_player 123 = .ok (.iload_n 1, 1) := by decide +kernel
theorem dX11_player_124 : decode cX11_player 124 = .ok (.iaload, 1) := by decide +kernel
theorem dX11_player_125 : decode cX11_player 125 = .ok (.ireturn, 1) := by decide +kernel
theorem dX11_part_0 : decode cX11_part 0 = .ok (.aload_n 0, 1) := by decide +kernel
theorem dX11_part_1 : decode cX11_part 1 = .ok (.iload_n 1, 1) := by decide +kernel
theorem dX11_part_2 : decode cX11_part 2 = .ok (.invokevirtual 200, 3) := by decide +kernel
theorem dX11_part_5 : decode cX11_part 5 = .ok (.ifCond .eq 15, 3) := by decide +kernel
theorem dX11_part_8 : decode cX11_part 8 = .ok (.iload_n 2, 1) := by decide +kernel
theorem dX11_part_9 : decode cX11_part 9 = .ok (.i2l, 1) := by decide +kernel
theorem dX11_part_10 : decode cX11_part 10 = .ok (.lconst 0, 1) := by decide +kernel
theorem dX11_part_11 : decode cX11_part 11 = .ok (.ldc2_w 203, 3) := by decide +kernel
theorem dX11_part_14 : decode cX11_part 14 = .ok (.invokestatic 124, 3) := by decide +kernel
theorem dX11_part_17 : decode cX11_part 17 = .ok (.ifCond .ne 5, 3) := by decide +kernel
theorem dX11_part_20 : decode cX11_part 20 = .ok (.iconst (-1), 1) := by decide +kernel
theorem dX11_part_21 : decode cX11_part 21 = .ok (.ireturn, 1) := by decide +kernel
theorem dX11_part_22 : decode cX11_part 22 = .ok (.iconst 0, 1) := by decide +kernel
theorem dX11_part_23 : decode cX11_part 23 = .ok (.istore_n 3, 1) := by decide +kernel
theorem dX11_part_24 : decode cX11_part 24 = .ok (.iconst 0, 1) := by decide +kernel
theorem dX11_part_25 : decode cX11_part 25 = .ok (.istore 4, 2) := by decide +kernel
theorem dX11_part_27 : decode cX11_part 27 = .ok (.iload 4, 2) := by decide +kernel
theorem dX11_part_29 : decode cX11_part 29 = .ok (.aload_n 0, 1) := by decide +kernel
theorem dX11_part_30 : decode cX11_part 30 = .ok (.getfield 40, 3) := by decide +kernel
theorem dX11_part_33 : decode cX11_part 33 = .ok (.iconst 0, 1) := by decide +kernel
theorem dX11_part_34 : decode cX11_part 34 = .ok (.iaload, 1) := by decide +kernel
theorem dX11_part_35 : decode cX11_part 35 = .ok (.if_icmp .ge 34, 3) := by decide +kernel
theorem dX11_part_38 : decode cX11_part 38 = .ok (.iload_n 3, 1) := by decide +kernel
theorem dX11_part_39 : decode cX11_part 39 = .ok (.aload_n 0, 1) := by decide +kernel
theorem dX11_part_40 : decode cX11_part 40 = .ok (.getfield 43, 3) := by decide +kernel
theorem dX11_part_43 : decode cX11_part 43 = .ok (.iload 4, 2) := by decide +kernel
theorem dX11_part_45 : decode cX11_part 45 = .ok (.iaload, 1) := by decide +kernel
theorem dX11_part_46 : decode cX11_part 46 = .ok (.iload_n 1, 1) := by decide +kernel
theorem dX11_part_47 : decode cX11_part 47 = .ok (.invokestatic 183, 3) := by decide +kernel
theorem dX11_part_50 : decode cX11_part 50 = .ok (.ifCond .eq 10, 3) := by decide +kernel
theorem dX11_part_53 : decode cX11_part 53 = .ok (.iconst 1, 1) := by decide +kernel
theorem dX11_part_54 : decode cX11_part 54 = .ok (.iload 4, 2) := by decide +kernel
theorem dX11_part_56 : decode cX11_part 56 = .ok (.ishl, 1) := by decide +kernel
theorem dX11_part_57 : decode cX11_part 57 = .ok (.goto 4, 3) := by decide +kernel
theorem dX11_part_60 : decode cX11_part 60 = .ok (.iconst 0, 1) := by decide +kernel
theorem dX11_part_61 : decode cX11_part 61 = .ok (.ior, 1) := by decide +kernel
theorem dX11_part_62 : decode cX11_part 62 = .ok (.istore_n 3, 1) := by decide +kernel
theorem dX11_part_63 : decode cX11_part 63 = .ok (.iinc 4 1, 3) := by decide +kernel
theorem dX11_part_66 : decode cX11_part 66 = .ok (.goto (-39), 3) := by decide +kernel
theorem dX11_part_69 : decode cX11_part 69 = .ok (.iload_n 2, 1) := by decide +kernel
theorem dX11_part_70 : decode cX11_part 70 = .ok (.tableswitch 64 0 4 #[34, 41, 48, 55, 62], 34) := by decide +kernel
theorem dX11_part_104 : decode cX11_part 104 = .ok (.aload_n 0, 1) := by decide +kernel
theorem dX11_part_105 : decode cX11_part 105 = .ok (.getfield 25, 3) := by decide +kernel
theorem dX11_part_108 : decode cX11_part 108 = .ok (.iload_n 1, 1) := by decide +kernel
theorem dX11_part_109 : decode cX11_part 109 = .ok (.iaload, 1) := by decide +kernel
theorem dX11_part_110 : decode cX11_part 110 = .ok (.ireturn, 1) := by decide +kernel
theorem dX11_part_111 : decode cX11_part 111 = .ok (.aload_n 0, 1) := by decide +kernel
theorem dX11_part_112 : decode cX11_part 112 = .ok (.getfield 28, 3) := by decide +kernel
theorem dX11_part_115 : decode cX11_part 115 = .ok (.iload_n 1, 1) := by decide +kernel
theorem dX11_part_116 : decode cX11_part 116 = .ok (.iaload, 1) := by decide +kernel
theorem dX11_part_117 : decode cX11_part 117 = .ok (.ireturn, 1) := by decide +kernel
theorem dX11_part_118 : decode cX11_part 118 = .ok (.aload_n 0, 1) := by decide +kernel
theorem dX11_part_119 : decode cX11_part 119 = .ok (.getfield 31, 3) := by decide +kernel
theorem dX11_part_122 : decode cX11_part 122 = .ok (.iload_n 1, 1) := by decide +kernel
theorem dX11_part_123 : decode cX11_part 123 = .ok (.iaload, 1) := by decide +kernel
theorem dX11_part_124 : decode cX11_part 124 = .ok (.ireturn, 1) := by decide +kernel
theorem dX11_part_125 : decode cX11_part 125 = .ok (.aload_n 0, 1) := by decide +kernel
theorem dX11_part_126 : decode cX11_part 126 = .ok (.getfield 34, 3) := by decide +kernel
theorem dX11_part_129 : decode cX11_part 129 = .ok (.iload_n 1, 1) := by decide +kernel
theorem dX11_part_130 : decode cX11_part 130 = .ok (.iaload, 1) := by decide +kernel
theorem dX11_part_131 : decode cX11_part 131 = .ok (.ireturn, 1) := by decide +kernel
theorem dX11_part_132 : decode cX11_part 132 = .ok (.iload_n 3, 1) := by decide +kernel
theorem dX11_part_133 : decode cX11_part 133 = .ok (.ireturn, 1) := by decide +kernel
theorem dX11_part_134 : decode cX11_part 134 = .ok (.aload_n 0, 1) := by decide +kernel
theorem dX11_part_135 : decode cX11_part 135 = .ok (.getfield 37, 3) := by decide +kernel
theorem dX11_part_138 : decode cX11_part 138 = .ok (.iload_n 1, 1) := by decide +kernel
theorem dX11_part_139 : decode cX11_part 139 = .ok (.iaload, 1) := by decide +kernel
theorem dX11_part_140 : decode cX11_part 140 = .ok (.ireturn, 1) := by decide +kernel
theorem dX11_both_0 : decode cX11_both 0 = .ok (.aload_n 0, 1) := by decide +kernel
theorem dX11_both_1 : decode cX11_both 1 = .ok (.iload_n 1, 1) := by decide +kernel
theorem dX11_both_2 : decode cX11_both 2 = .ok (.invokevirtual 200, 3) := by decide +kernel
theorem dX11_both_5 : decode cX11_both 5 = .ok (.ifCond .eq 16, 3) := by decide +kernel
theorem dX11_both_8 : decode cX11_both 8 = .ok (.aload_n 0, 1) := by decide +kernel
theorem dX11_both_9 : decode cX11_both 9 = .ok (.iload_n 2, 1) := by decide +kernel
theorem dX11_both_10 : decode cX11_both 10 = .ok (.invokevirtual 200, 3) := by decide +kernel
theorem dX11_both_13 : decode cX11_both 13 = .ok (.ifCond .eq 8, 3) := by decide +kernel
theorem dX11_both_16 : decode cX11_both 16 = .ok (.iload_n 1, 1) := by decide +kernel
theorem dX11_both_17 : decode cX11_both 17 = .ok (.iload_n 2, 1) := by decide +kernel
theorem dX11_both_18 : decode cX11_both 18 = .ok (.if_icmp .ne 5, 3) := by decide +kernel
theorem dX11_both_21 : decode cX11_both 21 = .ok (.iconst (-1), 1) := by decide +kernel
theorem dX11_both_22 : decode cX11_both 22 = .ok (.ireturn, 1) := by decide +kernel
theorem dX11_both_23 : decode cX11_both 23 = .ok (.aload_n 0, 1) := by decide +kernel
theorem dX11_both_24 : decode cX11_both 24 = .ok (.getfield 79, 3) := by decide +kernel
theorem dX11_both_27 : decode cX11_both 27 = .ok (.iload_n 1, 1) := by decide +kernel
theorem dX11_both_28 : decode cX11_both 28 = .ok (.iaload, 1) := by decide +kernel
theorem dX11_both_29 : decode cX11_both 29 = .ok (.iload_n 2, 1) := by decide +kernel
theorem dX11_both_30 : decode cX11_both 30 = .ok (.invokestatic 183, 3) := by decide +kernel
theorem dX11_both_33 : decode cX11_both 33 = .ok (.ifCond .eq 7, 3) := by decide +kernel
theorem dX11_both_36 : decode cX11_both 36 = .ok (.iconst 1, 1) := by decide +kernel
theorem dX11_both_37 : decode cX11_both 37 = .ok (.goto 4, 3) := by decide +kernel
theorem dX11_both_40 : decode cX11_both 40 = .ok (.iconst 0, 1) := by decide +kernel
theorem dX11_both_41 : decode cX11_both 41 = .ok (.ireturn, 1) := by decide +kernel
theorem dX11_kept_0 : decode cX11_kept 0 = .ok (.bipush 100, 2) := by decide +kernel
theorem dX11_kept_2 : decode cX11_kept 2 = .ok (.aload_n 0, 1) := by decide +kernel
theorem dX11_kept_3 : decode cX11_kept 3 = .ok (.getfield 58, 3) := by decide +kernel
theorem dX11_kept_6 : decode cX11_kept 6 = .ok (.iconst 2, 1) := by decide +kernel
theorem dX11_kept_7 : decode cX11_kept 7 = .ok (.iaload, 1) := by decide +kernel
theorem dX11_kept_8 : decode cX11_kept 8 = .ok (.aload_n 0, 1) := by decide +kernel
theorem dX11_kept_9 : decode cX11_kept 9 = .ok (.getfield 64, 3) := by decide +kernel
theorem dX11_kept_12 : decode cX11_kept 12 = .ok (.iconst 0, 1) := by decide +kernel
theorem dX11_kept_13 : decode cX11_kept 13 = .ok (.iaload, 1) := by decide +kernel
theorem dX11_kept_14 : decode cX11_kept 14 = .ok (.aload_n 0, 1) := by decide +kernel
theorem dX11_kept_15 : decode cX11_kept 15 = .ok (.getfield 61, 3) := by decide +kernel
theorem dX11_kept_18 : decode cX11_kept 18 = .ok (.bipush 8, 2) := by decide +kernel
theorem dX11_kept_20 : decode cX11_kept 20 = .ok (.iload_n 1, 1) := by decide +kernel
theorem dX11_kept_21 : decode cX11_kept 21 = .ok (.imul, 1) := by decide +kernel
theorem dX11_kept_22 : decode cX11_kept 22 = .ok (.iload_n 2, 1) := by decide +kernel
theorem dX11_kept_23 : decode cX11_kept 23 = .ok (.iadd, 1) := by decide +kernel
theorem dX11_kept_24 : decode cX11_kept 24 = .ok (.iaload, 1) := by decide +kernel
theorem dX11_kept_25 : decode cX11_kept 25 = .ok (.isub, 1) := by decide +kernel
theorem dX11_kept_26 : decode cX11_kept 26 = .ok (.imul, 1) := by decide +kernel
theorem dX11_kept_27 : decode cX11_kept 27 = .ok (.isub, 1) := by decide +kernel
theorem dX11_kept_28 : decode cX11_kept 28 = .ok (.istore_n 3, 1) := by decide +kernel
theorem dX11_kept_29 : decode cX11_kept 29 = .ok (.iload_n 3, 1) := by decide +kernel
theorem dX11_kept_30 : decode cX11_kept 30 = .ok (.ifCond .ge 7, 3) := by decide +kernel
theorem dX11_kept_33 : decode cX11_kept 33 = .ok (.iconst 0, 1) := by decide +kernel
theorem dX11_kept_34 : decode cX11_kept 34 = .ok (.goto 14, 3) := by decide +kernel
theorem dX11_kept_37 : decode cX11_kept 37 = .ok (.aload_n 0, 1) := by decide +kernel
theorem dX11_kept_38 : decode cX11_kept 38 = .ok (.getfield 31, 3) := by decide +kernel
theorem dX11_kept_41 : decode cX11_kept 41 = .ok (.iload_n 2, 1) := by decide +kernel
theorem dX11_kept_42 : decode cX11_kept 42 = .ok (.iaload, 1) := by decide +kernel
theorem dX11_kept_43 : decode cX11_kept 43 = .ok (.iload_n 3, 1) := by decide +kernel
theorem dX11_kept_44 : decode cX11_kept 44 = .ok (.imul, 1) := by decide +kernel
theorem dX11_kept_45 : decode cX11_kept 45 = .ok (.bipush 100, 2) := by decide +kernel
theorem dX11_kept_47 : decode cX11_kept 47 = .ok (.idiv, 1) := by decide +kernel
theorem dX11_kept_48 : decode cX11_kept 48 = .ok (.ireturn, 1) := by decide +kernel
theorem dX11_trouble_0 : decode cX11_trouble 0 = .ok (.aload_n 0, 1) := by decide +kernel
theorem dX11_trouble_1 : decode cX11_trouble 1 = .ok (.getfield 31, 3) := by decide +kernel
theorem dX11_trouble_4 : decode cX11_trouble 4 = .ok (.iload_n 2, 1) := by decide +kernel
theorem dX11_trouble_5 : decode cX11_trouble 5 = .ok (.iaload, 1) := by decide +kernel
theorem dX11_trouble_6 : decode cX11_trouble 6 = .ok (.aload_n 0, 1) := by decide +kernel
theorem dX11_trouble_7 : decode cX11_trouble 7 = .ok (.iload_n 1, 1) := by decide +kernel
theorem dX11_trouble_8 : decode cX11_trouble 8 = .ok (.iload_n 2, 1) := by decide +kernel
theorem dX11_trouble_9 : decode cX11_trouble 9 = .ok (.invokevirtual 205, 3) := by decide +kernel
theorem dX11_trouble_12 : decode cX11_trouble 12 = .ok (.isub, 1) := by decide +kernel
theorem dX11_trouble_13 : decode cX11_trouble 13 = .ok (.istore_n 3, 1) := by decide +kernel
theorem dX11_trouble_14 : decode cX11_trouble 14 = .ok (.aload_n 0, 1) := by decide +kernel
theorem dX11_trouble_15 : decode cX11_trouble 15 = .ok (.getfield 16, 3) := by decide +kernel
theorem dX11_trouble_18 : decode cX11_trouble 18 = .ok (.iload_n 1, 1) := by decide +kernel
theorem dX11_trouble_19 : decode cX11_trouble 19 = .ok (.iaload, 1) := by decide +kernel
theorem dX11_trouble_20 : decode cX11_trouble 20 = .ok (.aload_n 0, 1) := by decide +kernel
theorem dX11_trouble_21 : decode cX11_trouble 21 = .ok (.getfield 25, 3) := by decide +kernel
theorem dX11_trouble_24 : decode cX11_trouble 24 = .ok (.iload_n 2, 1) := by decide +kernel
theorem dX11_trouble_25 : decode cX11_trouble 25 = .ok (.iaload, 1) := by decide +kernel
theorem dX11_trouble_26 : decode cX11_trouble 26 = .ok (.isub, 1) := by decide +kernel
theorem dX11_trouble_27 : decode cX11_trouble 27 = .ok (.istore 4, 2) := by decide +kernel
theorem dX11_trouble_29 : decode cX11_trouble 29 = .ok (.aload_n 0, 1) := by decide +kernel
theorem dX11_trouble_30 : decode cX11_trouble 30 = .ok (.getfield 37, 3) := by decide +kernel
theorem dX11_trouble_33 : decode cX11_trouble 33 = .ok (.iload_n 2, 1) := by decide +kernel
theorem dX11_trouble_34 : decode cX11_trouble 34 = .ok (.iaload, 1) := by decide +kernel
theorem dX11_trouble_35 : decode cX11_trouble 35 = .ok (.iload_n 1, 1) := by decide +kernel
theorem dX11_trouble_36 : decode cX11_trouble 36 = .ok (.if_icmp .ne 7, 3) := by decide +kernel
theorem dX11_trouble_39 : decode cX11_trouble 39 = .ok (.iload_n 3, 1) := by decide +kernel
theorem dX11_trouble_40 : decode cX11_trouble 40 = .ok (.goto 28, 3) := by decide +kernel
theorem dX11_trouble_43 : decode cX11_trouble 43 = .ok (.bipush 100, 2) := by decide +kernel
theorem dX11_trouble_45 : decode cX11_trouble 45 = .ok (.aload_n 0, 1) := by decide +kernel
theorem dX11_trouble_46 : decode cX11_trouble 46 = .ok (.getfield 58, 3) := by decide +kernel
theorem dX11_trouble_49 : decode cX11_trouble 49 = .ok (.iconst 1, 1) := by decide +kernel
theorem dX11_trouble_50 : decode cX11_trouble 50 = .ok (.iaload, 1) := by decide +kernel
theorem dX11_trouble_51 : decode cX11_trouble 51 = .ok (.iload 4, 2) := by decide +kernel
theorem dX11_trouble_53 : decode cX11_trouble 53 = .ok (.ifCond .ge 9, 3) := by decide +kernel
theorem dX11_trouble_56 : decode cX11_trouble 56 = .ok (.iload 4, 2) := by decide +kernel
theorem dX11_trouble_58 : decode cX11_trouble 58 = .ok (.ineg, 1) := by decide +kernel
theorem dX11_trouble_59 : decode cX11_trouble 59 = .ok (.goto 5, 3) := by decide +kernel
theorem dX11_trouble_62 : decode cX11_trouble 62 = .ok (.iload 4, 2) := by decide +kernel
theorem dX11_trouble_64 : decode cX11_trouble 64 = .ok (.imul, 1) := by decide +kernel
theorem dX11_trouble_65 : decode cX11_trouble 65 = .ok (.iadd, 1) := by decide +kernel
theorem dX11_trouble_66 : decode cX11_trouble 66 = .ok (.iload_n 3, 1) := by decide +kernel
theorem dX11_trouble_67 : decode cX11_trouble 67 = .ok (.iadd, 1) := by decide +kernel
theorem dX11_trouble_68 : decode cX11_trouble 68 = .ok (.ireturn, 1) := by decide +kernel
theorem dX11_nextFor_0 : decode cX11_nextFor 0 = .ok (.iload_n 2, 1) := by decide +kernel
theorem dX11_nextFor_1 : decode cX11_nextFor 1 = .ok (.istore 4, 2) := by decide +kernel
theorem dX11_nextFor_3 : decode cX11_nextFor 3 = .ok (.iload 4, 2) := by decide +kernel
theorem dX11_nextFor_5 : decode cX11_nextFor 5 = .ok (.aload_n 0, 1) := by decide +kernel
theorem dX11_nextFor_6 : decode cX11_nextFor 6 = .ok (.getfield 13, 3) := by decide +kernel
theorem dX11_nextFor_9 : decode cX11_nextFor 9 = .ok (.iconst 0, 1) := by decide +kernel
theorem dX11_nextFor_10 : decode cX11_nextFor 10 = .ok (.iaload, 1) := by decide +kernel
theorem dX11_nextFor_11 : decode cX11_nextFor 11 = .ok (.if_icmp .ge 54, 3) := by decide +kernel
theorem dX11_nextFor_14 : decode cX11_nextFor 14 = .ok (.iload_n 3, 1) := by decide +kernel
theorem dX11_nextFor_15 : decode cX11_nextFor 15 = .ok (.iload 4, 2) := by decide +kernel
theorem dX11_nextFor_17 : decode cX11_nextFor 17 = .ok (.invokestatic 183, 3) := by decide +kernel
theorem dX11_nextFor_20 : decode cX11_nextFor 20 = .ok (.ifCond .ne 39, 3) := by decide +kernel
theorem dX11_nextFor_23 : decode cX11_nextFor 23 = .ok (.aload_n 0, 1) := by decide +kernel
theorem dX11_nextFor_24 : decode cX11_nextFor 24 = .ok (.getfield 76, 3) := by decide +kernel
theorem dX11_nextFor_27 : decode cX11_nextFor 27 = .ok (.iload 4, 2) := by decide +kernel
theorem dX11_nextFor_29 : decode cX11_nextFor 29 = .ok (.iaload, 1) := by decide +kernel
theorem dX11_nextFor_30 : decode cX11_nextFor 30 = .ok (.iload_n 1, 1) := by decide +kernel
theorem dX11_nextFor_31 : decode cX11_nextFor 31 = .ok (.invokestatic 183, 3) := by decide +kernel
theorem dX11_nextFor_34 : decode cX11_nextFor 34 = .ok (.ifCond .eq 25, 3) := by decide +kernel
theorem dX11_nextFor_37 : decode cX11_nextFor 37 = .ok (.aload_n 0, 1) := by decide +kernel
theorem dX11_nextFor_38 : decode cX11_nextFor 38 = .ok (.getfield 88, 3) := by decide +kernel
theorem dX11_nextFor_41 : decode cX11_nextFor 41 = .ok (.iload 4, 2) := by decide +kernel
theorem dX11_nextFor_43 : decode cX11_nextFor 43 = .ok (.iaload, 1) := by decide +kernel
theorem dX11_nextFor_44 : decode cX11_nextFor 44 = .ok (.aload_n 0, 1) := by decide +kernel
theorem dX11_nextFor_45 : decode cX11_nextFor 45 = .ok (.getfield 79, 3) := by decide +kernel
theorem dX11_nextFor_48 : decode cX11_nextFor 48 = .ok (.iload_n 1, 1) := by decide +kernel
theorem dX11_nextFor_49 : decode cX11_nextFor 49 = .ok (.iaload, 1) := by decide +kernel
theorem dX11_nextFor_50 : decode cX11_nextFor 50 = .ok (.iconst (-1), 1) := by decide +kernel
theorem dX11_nextFor_51 : decode cX11_nextFor 51 = .ok (.ixor, 1) := by decide +kernel
theorem dX11_nextFor_52 : decode cX11_nextFor 52 = .ok (.iand, 1) := by decide +kernel
theorem dX11_nextFor_53 : decode cX11_nextFor 53 = .ok (.ifCond .ne 6, 3) := by decide +kernel
theorem dX11_nextFor_56 : decode cX11_nextFor 56 = .ok (.iload 4, 2) := by decide +kernel
theorem dX11_nextFor_58 : decode cX11_nextFor 58 = .ok (.ireturn, 1) := by decide +kernel
theorem dX11_nextFor_59 : decode cX11_nextFor 59 = .ok (.iinc 4 1, 3) := by decide +kernel
theorem dX11_nextFor_62 : decode cX11_nextFor 62 = .ok (.goto (-59), 3) := by decide +kernel
theorem dX11_nextFor_65 : decode cX11_nextFor 65 = .ok (.bipush (-4), 2) := by decide +kernel
theorem dX11_nextFor_67 : decode cX11_nextFor 67 = .ok (.ireturn, 1) := by decide +kernel
theorem dX11_pileTrouble_0 : decode cX11_pileTrouble 0 = .ok (.iconst 0, 1) := by decide +kernel
theorem dX11_pileTrouble_1 : decode cX11_pileTrouble 1 = .ok (.istore_n 2, 1) := by decide +kernel
theorem dX11_pileTrouble_2 : decode cX11_pileTrouble 2 = .ok (.iconst 0, 1) := by decide +kernel
theorem dX11_pileTrouble_3 : decode cX11_pileTrouble 3 = .ok (.istore_n 3, 1) := by decide +kernel
theorem dX11_pileTrouble_4 : decode cX11_pileTrouble 4 = .ok (.iload_n 3, 1) := by decide +kernel
theorem dX11_pileTrouble_5 : decode cX11_pileTrouble 5 = .ok (.aload_n 0, 1) := by decide +kernel
theorem dX11_pileTrouble_6 : decode cX11_pileTrouble 6 = .ok (.getfield 22, 3) := by decide +kernel
theorem dX11_pileTrouble_9 : decode cX11_pileTrouble 9 = .ok (.iconst 0, 1) := by decide +kernel
theorem dX11_pileTrouble_10 : decode cX11_pileTrouble 10 = .ok (.iaload, 1) := by decide +kernel
theorem dX11_pileTrouble_11 : decode cX11_pileTrouble 11 = .ok (.if_icmp .ge 35, 3) := by decide +kernel
theorem dX11_pileTrouble_14 : decode cX11_pileTrouble 14 = .ok (.iload_n 2, 1) := by decide +kernel
theorem dX11_pileTrouble_15 : decode cX11_pileTrouble 15 = .ok (.iload_n 1, 1) := by decide +kernel
theorem dX11_pileTrouble_16 : decode cX11_pileTrouble 16 = .ok (.iload_n 3, 1) := by decide +kernel
theorem dX11_pileTrouble_17 : decode cX11_pileTrouble 17 = .ok (.invokestatic 183, 3) := by decide +kernel
theorem dX11_pileTrouble_20 : decode cX11_pileTrouble 20 = .ok (.ifCond .eq 7, 3) := by decide +kernel
theorem dX11_pileTrouble_23 : decode cX11_pileTrouble 23 = .ok (.iconst 0, 1) := by decide +kernel
theorem dX11_pileTrouble_24 : decode cX11_pileTrouble 24 = .ok (.goto 14, 3) := by decide +kernel
theorem dX11_pileTrouble_27 : decode cX11_pileTrouble 27 = .ok (.aload_n 0, 1) := by decide +kernel
theorem dX11_pileTrouble_28 : decode cX11_pileTrouble 28 = .ok (.aload_n 0, 1) := by decide +kernel
theorem dX11_pileTrouble_29 : decode cX11_pileTrouble 29 = .ok (.getfield 82, 3) := by decide +kernel
theorem dX11_pileTrouble_32 : decode cX11_pileTrouble 32 = .ok (.iload_n 3, 1) := by decide +kernel
theorem dX11_pileTrouble_33 : decode cX11_pileTrouble 33 = .ok (.iaload, 1) := by decide +kernel
theorem dX11_pileTrouble_34 : decode cX11_pileTrouble 34 = .ok (.iload_n 3, 1) := by decide +kernel
theorem dX11_pileTrouble_35 : decode cX11_pileTrouble 35 = .ok (.invokevirtual 209, 3) := by decide +kernel
theorem dX11_pileTrouble_38 : decode cX11_pileTrouble 38 = .ok (.iadd, 1) := by decide +kernel
theorem dX11_pileTrouble_39 : decode cX11_pileTrouble 39 = .ok (.istore_n 2, 1) := by decide +kernel
theorem dX11_pileTrouble_40 : decode cX11_pileTrouble 40 = .ok (.iinc 3 1, 3) := by decide +kernel
theorem dX11_pileTrouble_43 : decode cX11_pileTrouble 43 = .ok (.goto (-39), 3) := by decide +kernel
theorem dX11_pileTrouble_46 : decode cX11_pileTrouble 46 = .ok (.iload_n 2, 1) := by decide +kernel
theorem dX11_pileTrouble_47 : decode cX11_pileTrouble 47 = .ok (.ireturn, 1) := by decide +kernel
theorem dX11_cast_0 : decode cX11_cast 0 = .ok (.aload_n 0, 1) := by decide +kernel
theorem dX11_cast_1 : decode cX11_cast 1 = .ok (.lconst 0, 1) := by decide +kernel
theorem dX11_cast_2 : decode cX11_cast 2 = .ok (.putfield 212, 3) := by decide +kernel
theorem dX11_cast_5 : decode cX11_cast 5 = .ok (.aload_n 0, 1) := by decide +kernel
theorem dX11_cast_6 : decode cX11_cast 6 = .ok (.bipush (-4), 2) := by decide +kernel
theorem dX11_cast_8 : decode cX11_cast 8 = .ok (.putfield 216, 3) := by decide +kernel
theorem dX11_cast_11 : decode cX11_cast 11 = .ok (.iconst 0, 1) := by decide +kernel
theorem dX11_cast_12 : decode cX11_cast 12 = .ok (.istore 4, 2) := by decide +kernel
theorem dX11_cast_14 : decode cX11_cast 14 = .ok (.iload 4, 2) := by decide +kernel
theorem dX11_cast_16 : decode cX11_cast 16 = .ok (.bipush 10, 2) := by decide +kernel
theorem dX11_cast_18 : decode cX11_cast 18 = .ok (.if_icmp .ge 17, 3) := by decide +kernel
theorem dX11_cast_21 : decode cX11_cast 21 = .ok (.aload_n 0, 1) := by decide +kernel
theorem dX11_cast_22 : decode cX11_cast 22 = .ok (.getfield 88, 3) := by decide +kernel
theorem dX11_cast_25 : decode cX11_cast 25 = .ok (.iload 4, 2) := by decide +kernel
theorem dX11_cast_27 : decode cX11_cast 27 = .ok (.iconst 0, 1) := by decide +kernel
theorem dX11_cast_28 : decode cX11_cast 28 = .ok (.iastore, 1) := by decide +kernel
theorem dX11_cast_29 : decode cX11_cast 29 = .ok (.iinc 4 1, 3) := by decide +kernel
theorem dX11_cast_32 : decode cX11_cast 32 = .ok (.goto (-18), 3) := by decide +kernel
theorem dX11_cast_35 : decode cX11_cast 35 = .ok (.iconst 0, 1) := by decide +kernel
theorem dX11_cast_36 : decode cX11_cast 36 = .ok (.istore 4, 2) := by decide +kernel
theorem dX11_cast_38 : decode cX11_cast 38 = .ok (.iload 4, 2) := by decide +kernel
theorem dX11_cast_40 : decode cX11_cast 40 = .ok (.bipush 8, 2) := by decide +kernel
theorem dX11_cast_42 : decode cX11_cast 42 = .ok (.if_icmp .ge 18, 3) := by decide +kernel
theorem dX11_cast_45 : decode cX11_cast 45 = .ok (.aload_n 0, 1) := by decide +kernel
theorem dX11_cast_46 : decode cX11_cast 46 = .ok (.getfield 82, 3) := by decide +kernel
theorem dX11_cast_49 : decode cX11_cast 49 = .ok (.iload 4, 2) := by decide +kernel
theorem dX11_cast_51 : decode cX11_cast 51 = .ok (.bipush (-4), 2) := by decide +kernel
theorem dX11_cast_53 : decode cX11_cast 53 = .ok (.iastore, 1) := by decide +kernel
theorem dX11_cast_54 : decode cX11_cast 54 = .ok (.iinc 4 1, 3) := by decide +kernel
theorem dX11_cast_57 : decode cX11_cast 57 = .ok (.goto (-19), 3) := by decide +kernel
theorem dX11_cast_60 : decode cX11_cast 60 = .ok (.iconst 0, 1) := by decide +kernel
theorem dX11_cast_61 : decode cX11_cast 61 = .ok (.istore 4, 2) := by decide +kernel
theorem dX11_cast_63 : decode cX11_cast 63 = .ok (.iload 4, 2) := by decide +kernel
theorem dX11_cast_65 : decode cX11_cast 65 = .ok (.ifCond .lt 241, 3) := by decide +kernel
theorem dX11_cast_68 : decode cX11_cast 68 = .ok (.iload 4, 2) := by decide +kernel
theorem dX11_cast_70 : decode cX11_cast 70 = .ok (.aload_n 0, 1) := by decide +kernel
theorem dX11_cast_71 : decode cX11_cast 71 = .ok (.getfield 22, 3) := by decide +kernel
theorem dX11_cast_74 : decode cX11_cast 74 = .ok (.iconst 0, 1) := by decide +kernel
theorem dX11_cast_75 : decode cX11_cast 75 = .ok (.iaload, 1) := by decide +kernel
theorem dX11_cast_76 : decode cX11_cast 76 = .ok (.if_icmp .ne 95, 3) := by decide +kernel
theorem dX11_cast_79 : decode cX11_cast 79 = .ok (.aload_n 0, 1) := by decide +kernel
theorem dX11_cast_80 : decode cX11_cast 80 = .ok (.dup, 1) := by decide +kernel
theorem dX11_cast_81 : decode cX11_cast 81 = .ok (.getfield 212, 3) := by decide +kernel
theorem dX11_cast_84 : decode cX11_cast 84 = .ok (.lconst 1, 1) := by decide +kernel
theorem dX11_cast_85 : decode cX11_cast 85 = .ok (.ladd, 1) := by decide +kernel
theorem dX11_cast_86 : decode cX11_cast 86 = .ok (.putfield 212, 3) := by decide +kernel
theorem dX11_cast_89 : decode cX11_cast 89 = .ok (.iload_n 3, 1) := by decide +kernel
theorem dX11_cast_90 : decode cX11_cast 90 = .ok (.ifCond .ne 5, 3) := by decide +kernel
theorem dX11_cast_93 : decode cX11_cast 93 = .ok (.iconst 1, 1) := by decide +kernel
theorem dX11_cast_94 : decode cX11_cast 94 = .ok (.ireturn, 1) := by decide +kernel
theorem dX11_cast_95 : decode cX11_cast 95 = .ok (.aload_n 0, 1) := by decide +kernel
theorem dX11_cast_96 : decode cX11_cast 96 = .ok (.iload_n 2, 1) := by decide +kernel
theorem dX11_cast_97 : decode cX11_cast 97 = .ok (.invokevirtual 219, 3) := by decide +kernel
theorem dX11_cast_100 : decode cX11_cast 100 = .ok (.istore 5, 2) := by decide +kernel
theorem dX11_cast_102 : decode cX11_cast 102 = .ok (.aload_n 0, 1) := by decide +kernel
theorem dX11_cast_103 : decode cX11_cast 103 = .ok (.getfield 216, 3) := by decide +kernel
theorem dX11_cast_106 : decode cX11_cast 106 = .ok (.ifCond .lt 12, 3) := by decide +kernel
theorem dX11_cast_109 : decode cX11_cast 109 = .ok (.iload 5, 2) := by decide +kernel
theorem dX11_cast_111 : decode cX11_cast 111 = .ok (.aload_n 0, 1) := by decide +kernel
theorem dX11_cast_112 : decode cX11_cast 112 = .ok (.getfield 216, 3) := by decide +kernel
theorem dX11_cast_115 : decode cX11_cast 115 = .ok (.if_icmp .ge 43, 3) := by decide +kernel
theorem dX11_cast_118 : decode cX11_cast 118 = .ok (.aload_n 0, 1) := by decide +kernel
theorem dX11_cast_119 : decode cX11_cast 119 = .ok (.iload 5, 2) := by decide +kernel
theorem dX11_cast_121 : decode cX11_cast 121 = .ok (.putfield 216, 3) := by decide +kernel
theorem dX11_cast_124 : decode cX11_cast 124 = .ok (.iconst 0, 1) := by decide +kernel
theorem dX11_cast_125 : decode cX11_cast 125 = .ok (.istore 6, 2) := by decide +kernel
theorem dX11_cast_127 : decode cX11_cast 127 = .ok (.iload 6, 2) := by decide +kernel
theorem dX11_cast_129 : decode cX11_cast 129 = .ok (.aload_n 0, 1) := by decide +kernel
theorem dX11_cast_130 : decode cX11_cast 130 = .ok (.getfield 22, 3) := by decide +kernel
theorem dX11_cast_133 : decode cX11_cast 133 = .ok (.iconst 0, 1) := by decide +kernel
theorem dX11_cast_134 : decode cX11_cast 134 = .ok (.iaload, 1) := by decide +kernel
theorem dX11_cast_135 : decode cX11_cast 135 = .ok (.if_icmp .ge 23, 3) := by decide +kernel
theorem dX11_cast_138 : decode cX11_cast 138 = .ok (.aload_n 0, 1) := by decide +kernel
theorem dX11_cast_139 : decode cX11_cast 139 = .ok (.getfield 85, 3) := by decide +kernel
theorem dX11_cast_142 : decode cX11_cast 142 = .ok (.iload 6, 2) := by decide +kernel
theorem dX11_cast_144 : decode cX11_cast 144 = .ok (.aload_n 0, 1) := by decide +kernel
theorem dX11_cast_145 : decode cX11_cast 145 = .ok (.getfield 82, 3) := by decide +kernel
theorem dX11_cast_148 : decode cX11_cast 148 = .ok (.iload 6, 2) := by decide +kernel
theorem dX11_cast_150 : decode cX11_cast 150 = .ok (.iaload, 1) := by decide +kernel
theorem dX11_cast_151 : decode cX11_cast 151 = .ok (.iastore, 1) := by decide +kernel
theorem dX11_cast_152 : decode cX11_cast 152 = .ok (.iinc 6 1, 3) := by decide +kernel
theorem dX11_cast_155 : decode cX11_cast 155 = .ok (.goto (-28), 3) := by decide +kernel
theorem dX11_cast_158 : decode cX11_cast 158 = .ok (.iload 4, 2) := by decide +kernel
theorem dX11_cast_160 : decode cX11_cast 160 = .ok (.iconst 1, 1) := by decide +kernel
theorem dX11_cast_161 : decode cX11_cast 161 = .ok (.isub, 1) := by decide +kernel
theorem dX11_cast_162 : decode cX11_cast 162 = .ok (.iload_n 2, 1) := by decide +kernel
theorem dX11_cast_163 : decode cX11_cast 163 = .ok (.invokestatic 222, 3) := by decide +kernel
theorem dX11_cast_166 : decode cX11_cast 166 = .ok (.istore 4, 2) := by decide +kernel
theorem dX11_cast_168 : decode cX11_cast 168 = .ok (.goto (-105), 3) := by decide +kernel
theorem dX11_cast_171 : decode cX11_cast 171 = .ok (.iload_n 2, 1) := by decide +kernel
theorem dX11_cast_172 : decode cX11_cast 172 = .ok (.iload 4, 2) := by decide +kernel
theorem dX11_cast_174 : decode cX11_cast 174 = .ok (.invokestatic 183, 3) := by decide +kernel
theorem dX11_cast_177 : decode cX11_cast 177 = .ok (.ifCond .eq 9, 3) := by decide +kernel
theorem dX11_cast_180 : decode cX11_cast 180 = .ok (.iinc 4 1, 3) := by decide +kernel
theorem dX11_cast_183 : decode cX11_cast 183 = .ok (.goto (-120), 3) := by decide +kernel
theorem dX11_cast_186 : decode cX11_cast 186 = .ok (.aload_n 0, 1) := by decide +kernel
theorem dX11_cast_187 : decode cX11_cast 187 = .ok (.getfield 82, 3) := by decide +kernel
theorem dX11_cast_190 : decode cX11_cast 190 = .ok (.iload 4, 2) := by decide +kernel
theorem dX11_cast_192 : decode cX11_cast 192 = .ok (.iaload, 1) := by decide +kernel
theorem dX11_cast_193 : decode cX11_cast 193 = .ok (.ifCond .ge 7, 3) := by decide +kernel
theorem dX11_cast_196 : decode cX11_cast 196 = .ok (.iconst 0, 1) := by decide +kernel
theorem dX11_cast_197 : decode cX11_cast 197 = .ok (.goto 12, 3) := by decide +kernel
theorem dX11_cast_200 : decode cX11_cast 200 = .ok (.aload_n 0, 1) := by decide +kernel
theorem dX11_cast_201 : decode cX11_cast 201 = .ok (.getfield 82, 3) := by decide +kernel
theorem dX11_cast_204 : decode cX11_cast 204 = .ok (.iload 4, 2) := by decide +kernel
theorem dX11_cast_206 : decode cX11_cast 206 = .ok (.iaload, 1) := by decide +kernel
theorem dX11_cast_207 : decode cX11_cast 207 = .ok (.iconst 1, 1) := by decide +kernel
theorem dX11_cast_208 : decode cX11_cast 208 = .ok (.iadd, 1) := by decide +kernel
theorem dX11_cast_209 : decode cX11_cast 209 = .ok (.istore 5, 2) := by decide +kernel
theorem dX11_cast_211 : decode cX11_cast 211 = .ok (.aload_n 0, 1) := by decide +kernel
theorem dX11_cast_212 : decode cX11_cast 212 = .ok (.getfield 82, 3) := by decide +kernel
theorem dX11_cast_215 : decode cX11_cast 215 = .ok (.iload 4, 2) := by decide +kernel
theorem dX11_cast_217 : decode cX11_cast 217 = .ok (.iaload, 1) := by decide +kernel
theorem dX11_cast_218 : decode cX11_cast 218 = .ok (.ifCond .lt 24, 3) := by decide +kernel
theorem dX11_cast_221 : decode cX11_cast 221 = .ok (.aload_n 0, 1) := by decide +kernel
theorem dX11_cast_222 : decode cX11_cast 222 = .ok (.getfield 88, 3) := by decide +kernel
theorem dX11_cast_225 : decode cX11_cast 225 = .ok (.aload_n 0, 1) := by decide +kernel
theorem dX11_cast_226 : decode cX11_cast 226 = .ok (.getfield 82, 3) := by decide +kernel
theorem dX11_cast_229 : decode cX11_cast 229 = .ok (.iload 4, 2) := by decide +kernel
theorem dX11_cast_231 : decode cX11_cast 231 = .ok (.iaload, 1) := by decide +kernel
theorem dX11_cast_232 : decode cX11_cast 232 = .ok (.dup2, 1) := by decide +kernel
theorem dX11_cast_233 : decode cX11_cast 233 = .ok (.iaload, 1) := by decide +kernel
theorem dX11_cast_234 : decode cX11_cast 234 = .ok (.iconst 1, 1) := by decide +kernel
theorem dX11_cast_235 : decode cX11_cast 235 = .ok (.iload 4, 2) := by decide +kernel
theorem dX11_cast_237 : decode cX11_cast 237 = .ok (.ishl, 1) := by decide +kernel
theorem dX11_cast_238 : decode cX11_cast 238 = .ok (.iconst (-1), 1) := by decide +kernel
theorem dX11_cast_239 : decode cX11_cast 239 = .ok (.ixor, 1) := by decide +kernel
theorem dX11_cast_240 : decode cX11_cast 240 = .ok (.iand, 1) := by decide +kernel
theorem dX11_cast_241 : decode cX11_cast 241 = .ok (.iastore, 1) := by decide +kernel
theorem dX11_cast_242 : decode cX11_cast 242 = .ok (.aload_n 0, 1) := by decide +kernel
theorem dX11_cast_243 : decode cX11_cast 243 = .ok (.getfield 82, 3) := by decide +kernel
theorem dX11_cast_246 : decode cX11_cast 246 = .ok (.iload 4, 2) := by decide +kernel
theorem dX11_cast_248 : decode cX11_cast 248 = .ok (.aload_n 0, 1) := by decide +kernel
theorem dX11_cast_249 : decode cX11_cast 249 = .ok (.iload 4, 2) := by decide +kernel
theorem dX11_cast_251 : decode cX11_cast 251 = .ok (.iload 5, 2) := by decide +kernel
theorem dX11_cast_253 : decode cX11_cast 253 = .ok (.iload_n 1, 1) := by decide +kernel
theorem dX11_cast_254 : decode cX11_cast 254 = .ok (.invokevirtual 225, 3) := by decide +kernel
theorem dX11_cast_257 : decode cX11_cast 257 = .ok (.iastore, 1) := by decide +kernel
theorem dX11_cast_258 : decode cX11_cast 258 = .ok (.aload_n 0, 1) := by decide +kernel
theorem dX11_cast_259 : decode cX11_cast 259 = .ok (.getfield 82, 3) := by decide +kernel
theorem dX11_cast_262 : decode cX11_cast 262 = .ok (.iload 4, 2) := by decide +kernel
theorem dX11_cast_264 : decode cX11_cast 264 = .ok (.iaload, 1) := by decide +kernel
theorem dX11_cast_265 : decode cX11_cast 265 = .ok (.ifCond .lt 28, 3) := by decide +kernel
theorem dX11_cast_268 : decode cX11_cast 268 = .ok (.aload_n 0, 1) := by decide +kernel
theorem dX11_cast_269 : decode cX11_cast 269 = .ok (.getfield 88, 3) := by decide +kernel
theorem dX11_cast_272 : decode cX11_cast 272 = .ok (.aload_n 0, 1) := by decide +kernel
theorem dX11_cast_273 : decode cX11_cast 273 = .ok (.getfield 82, 3) := by decide +kernel
theorem dX11_cast_276 : decode cX11_cast 276 = .ok (.iload 4, 2) := by decide +kernel
theorem dX11_cast_278 : decode cX11_cast 278 = .ok (.iaload, 1) := by decide +kernel
theorem dX11_cast_279 : decode cX11_cast 279 = .ok (.dup2, 1) := by decide +kernel
theorem dX11_cast_280 : decode cX11_cast 280 = .ok (.iaload, 1) := by decide +kernel
theorem dX11_cast_281 : decode cX11_cast 281 = .ok (.iconst 1, 1) := by decide +kernel
theorem dX11_cast_282 : decode cX11_cast 282 = .ok (.iload 4, 2) := by decide +kernel
theorem dX11_cast_284 : decode cX11_cast 284 = .ok (.ishl, 1) := by decide +kernel
theorem dX11_cast_285 : decode cX11_cast 285 = .ok (.ior, 1) := by decide +kernel
theorem dX11_cast_286 : decode cX11_cast 286 = .ok (.iastore, 1) := by decide +kernel
theorem dX11_cast_287 : decode cX11_cast 287 = .ok (.iinc 4 1, 3) := by decide +kernel
theorem dX11_cast_290 : decode cX11_cast 290 = .ok (.goto 13, 3) := by decide +kernel
theorem dX11_cast_293 : decode cX11_cast 293 = .ok (.iload 4, 2) := by decide +kernel
theorem dX11_cast_295 : decode cX11_cast 295 = .ok (.iconst 1, 1) := by decide +kernel
theorem dX11_cast_296 : decode cX11_cast 296 = .ok (.isub, 1) := by decide +kernel
theorem dX11_cast_297 : decode cX11_cast 297 = .ok (.iload_n 2, 1) := by decide +kernel
theorem dX11_cast_298 : decode cX11_cast 298 = .ok (.invokestatic 222, 3) := by decide +kernel
theorem dX11_cast_301 : decode cX11_cast 301 = .ok (.istore 4, 2) := by decide +kernel
theorem dX11_cast_303 : decode cX11_cast 303 = .ok (.goto (-240), 3) := by decide +kernel
theorem dX11_cast_306 : decode cX11_cast 306 = .ok (.aload_n 0, 1) := by decide +kernel
theorem dX11_cast_307 : decode cX11_cast 307 = .ok (.getfield 212, 3) := by decide +kernel
theorem dX11_cast_310 : decode cX11_cast 310 = .ok (.lconst 0, 1) := by decide +kernel
theorem dX11_cast_311 : decode cX11_cast 311 = .ok (.lcmp, 1) := by decide +kernel
theorem dX11_cast_312 : decode cX11_cast 312 = .ok (.ifCond .le 7, 3) := by decide +kernel
theorem dX11_cast_315 : decode cX11_cast 315 = .ok (.iconst 1, 1) := by decide +kernel
theorem dX11_cast_316 : decode cX11_cast 316 = .ok (.goto 4, 3) := by decide +kernel
theorem dX11_cast_319 : decode cX11_cast 319 = .ok (.iconst 0, 1) := by decide +kernel
theorem dX11_cast_320 : decode cX11_cast 320 = .ok (.ireturn, 1) := by decide +kernel
theorem dX11_stepBack_0 : decode cX11_stepBack 0 = .ok (.iload_n 0, 1) := by decide +kernel
theorem dX11_stepBack_1 : decode cX11_stepBack 1 = .ok (.istore_n 2, 1) := by decide +kernel
theorem dX11_stepBack_2 : decode cX11_stepBack 2 = .ok (.iload_n 2, 1) := by decide +kernel
theorem dX11_stepBack_3 : decode cX11_stepBack 3 = .ok (.ifCond .lt 17, 3) := by decide +kernel
theorem dX11_stepBack_6 : decode cX11_stepBack 6 = .ok (.iload_n 1, 1) := by decide +kernel
theorem dX11_stepBack_7 : decode cX11_stepBack 7 = .ok (.iload_n 2, 1) := by decide +kernel
theorem dX11_stepBack_8 : decode cX11_stepBack 8 = .ok (.invokestatic 183, 3) := by decide +kernel
theorem dX11_stepBack_11 : decode cX11_stepBack 11 = .ok (.ifCond .eq 9, 3) := by decide +kernel
theorem dX11_stepBack_14 : decode cX11_stepBack 14 = .ok (.iinc 2 (-1), 3) := by decide +kernel
theorem dX11_stepBack_17 : decode cX11_stepBack 17 = .ok (.goto (-15), 3) := by decide +kernel
theorem dX11_stepBack_20 : decode cX11_stepBack 20 = .ok (.iload_n 2, 1) := by decide +kernel
theorem dX11_stepBack_21 : decode cX11_stepBack 21 = .ok (.ireturn, 1) := by decide +kernel
theorem dX11_isOff_0 : decode cX11_isOff 0 = .ok (.iload_n 1, 1) := by decide +kernel
theorem dX11_isOff_1 : decode cX11_isOff 1 = .ok (.i2l, 1) := by decide +kernel
theorem dX11_isOff_2 : decode cX11_isOff 2 = .ok (.lconst 0, 1) := by decide +kernel
theorem dX11_isOff_3 : decode cX11_isOff 3 = .ok (.iconst 1, 1) := by decide +kernel
theorem dX11_isOff_4 : decode cX11_isOff 4 = .ok (.aload_n 0, 1) := by decide +kernel
theorem dX11_isOff_5 : decode cX11_isOff 5 = .ok (.getfield 13, 3) := by decide +kernel
theorem dX11_isOff_8 : decode cX11_isOff 8 = .ok (.iconst 0, 1) := by decide +kernel
theorem dX11_isOff_9 : decode cX11_isOff 9 = .ok (.iaload, 1) := by decide +kernel
theorem dX11_isOff_10 : decode cX11_isOff 10 = .ok (.ishl, 1) := by decide +kernel
theorem dX11_isOff_11 : decode cX11_isOff 11 = .ok (.iconst 1, 1) := by decide +kernel
theorem dX11_isOff_12 : decode cX11_isOff 12 = .ok (.isub, 1) := by decide +kernel
theorem dX11_isOff_13 : decode cX11_isOff 13 = .ok (.i2l, 1) := by decide +kernel
theorem dX11_isOff_14 : decode cX11_isOff 14 = .ok (.invokestatic 124, 3) := by decide +kernel
theorem dX11_isOff_17 : decode cX11_isOff 17 = .ok (.ireturn, 1) := by decide +kernel
theorem dX11_isCut_0 : decode cX11_isCut 0 = .ok (.iload_n 1, 1) := by decide +kernel
theorem dX11_isCut_1 : decode cX11_isCut 1 = .ok (.i2l, 1) := by decide +kernel
theorem dX11_isCut_2 : decode cX11_isCut 2 = .ok (.lconst 0, 1) := by decide +kernel
theorem dX11_isCut_3 : decode cX11_isCut 3 = .ok (.iconst 1, 1) := by decide +kernel
theorem dX11_isCut_4 : decode cX11_isCut 4 = .ok (.aload_n 0, 1) := by decide +kernel
theorem dX11_isCut_5 : decode cX11_isCut 5 = .ok (.getfield 22, 3) := by decide +kernel
theorem dX11_isCut_8 : decode cX11_isCut 8 = .ok (.iconst 0, 1) := by decide +kernel
theorem dX11_isCut_9 : decode cX11_isCut 9 = .ok (.iaload, 1) := by decide +kernel
theorem dX11_isCut_10 : decode cX11_isCut 10 = .ok (.ishl, 1) := by decide +kernel
theorem dX11_isCut_11 : decode cX11_isCut 11 = .ok (.iconst 1, 1) := by decide +kernel
theorem dX11_isCut_12 : decode cX11_isCut 12 = .ok (.isub, 1) := by decide +kernel
theorem dX11_isCut_13 : decode cX11_isCut 13 = .ok (.i2l, 1) := by decide +kernel
theorem dX11_isCut_14 : decode cX11_isCut 14 = .ok (.invokestatic 124, 3) := by decide +kernel
theorem dX11_isCut_17 : decode cX11_isCut 17 = .ok (.ireturn, 1) := by decide +kernel
theorem dX11_ways_0 : decode cX11_ways 0 = .ok (.aload_n 0, 1) := by decide +kernel
theorem dX11_ways_1 : decode cX11_ways 1 = .ok (.iload_n 1, 1) := by decide +kernel
theorem dX11_ways_2 : decode cX11_ways 2 = .ok (.invokevirtual 229, 3) := by decide +kernel
theorem dX11_ways_5 : decode cX11_ways 5 = .ok (.ifCond .eq 11, 3) := by decide +kernel
theorem dX11_ways_8 : decode cX11_ways 8 = .ok (.aload_n 0, 1) := by decide +kernel
theorem dX11_ways_9 : decode cX11_ways 9 = .ok (.iload_n 2, 1) := by decide +kernel
theorem dX11_ways_10 : decode cX11_ways 10 = .ok (.invokevirtual 232, 3) := by decide +kernel
theorem dX11_ways_13 : decode cX11_ways 13 = .ok (.ifCond .ne 5, 3) := by decide +kernel
theorem dX11_ways_16 : decode cX11_ways 16 = .ok (.lconst 0, 1) := by decide +kernel
theorem dX11_ways_17 : decode cX11_ways 17 = .ok (.lreturn, 1) := by decide +kernel
theorem dX11_ways_18 : decode cX11_ways 18 = .ok (.aload_n 0, 1) := by decide +kernel
theorem dX11_ways_19 : decode cX11_ways 19 = .ok (.iload_n 1, 1) := by decide +kernel
theorem dX11_ways_20 : decode cX11_ways 20 = .ok (.iload_n 2, 1) := by decide +kernel
theorem dX11_ways_21 : decode cX11_ways 21 = .ok (.iconst 1, 1) := by decide +kernel
theorem dX11_ways_22 : decode cX11_ways 22 = .ok (.invokevirtual 235, 3) := by decide +kernel
theorem dX11_ways_25 : decode cX11_ways 25 = .ok (.pop, 1) := by decide +kernel
theorem dX11_ways_26 : decode cX11_ways 26 = .ok (.aload_n 0, 1) := by decide +kernel
theorem dX11_ways_27 : decode cX11_ways 27 = .ok (.getfield 212, 3) := by decide +kernel
theorem dX11_ways_30 : decode cX11_ways 30 = .ok (.lreturn, 1) := by decide +kernel
theorem dX11_least_0 : decode cX11_least 0 = .ok (.aload_n 0, 1) := by decide +kernel
theorem dX11_least_1 : decode cX11_least 1 = .ok (.iload_n 1, 1) := by decide +kernel
theorem dX11_least_2 : decode cX11_least 2 = .ok (.invokevirtual 229, 3) := by decide +kernel
theorem dX11_least_5 : decode cX11_least 5 = .ok (.ifCond .eq 31, 3) := by decide +kernel
theorem dX11_least_8 : decode cX11_least 8 = .ok (.aload_n 0, 1) := by decide +kernel
theorem dX11_least_9 : decode cX11_least 9 = .ok (.iload_n 2, 1) := by decide +kernel
theorem dX11_least_10 : decode cX11_least 10 = .ok (.invokevirtual 232, 3) := by decide +kernel
theorem dX11_least_13 : decode cX11_least 13 = .ok (.ifCond .eq 23, 3) := by decide +kernel
theorem dX11_least_16 : decode cX11_least 16 = .ok (.iload_n 3, 1) := by decide +kernel
theorem dX11_least_17 : decode cX11_least 17 = .ok (.i2l, 1) := by decide +kernel
theorem dX11_least_18 : decode cX11_least 18 = .ok (.ldc2_w 239, 3) := by decide +kernel
theorem dX11_least_21 : decode cX11_least 21 = .ok (.aload_n 0, 1) := by decide +kernel
theorem dX11_least_22 : decode cX11_least 22 = .ok (.getfield 22, 3) := by decide +kernel
theorem dX11_least_25 : decode cX11_least 25 = .ok (.iconst 0, 1) := by decide +kernel
theorem dX11_least_26 : decode cX11_least 26 = .ok (.iaload, 1) := by decide +kernel
theorem dX11_least_27 : decode cX11_least 27 = .ok (.iconst 1, 1) := by decide +kernel
theorem dX11_least_28 : decode cX11_least 28 = .ok (.isub, 1) := by decide +kernel
theorem dX11_least_29 : decode cX11_least 29 = .ok (.i2l, 1) := by decide +kernel
theorem dX11_least_30 : decode cX11_least 30 = .ok (.invokestatic 124, 3) := by decide +kernel
theorem dX11_least_33 : decode cX11_least 33 = .ok (.ifCond .ne 5, 3) := by decide +kernel
theorem dX11_least_36 : decode cX11_least 36 = .ok (.iconst (-1), 1) := by decide +kernel
theorem dX11_least_37 : decode cX11_least 37 = .ok (.ireturn, 1) := by decide +kernel
theorem dX11_least_38 : decode cX11_least 38 = .ok (.iload_n 3, 1) := by decide +kernel
theorem dX11_least_39 : decode cX11_least 39 = .ok (.ifCond .lt 14, 3) := by decide +kernel
theorem dX11_least_42 : decode cX11_least 42 = .ok (.iload_n 2, 1) := by decide +kernel
theorem dX11_least_43 : decode cX11_least 43 = .ok (.iload_n 3, 1) := by decide +kernel
theorem dX11_least_44 : decode cX11_least 44 = .ok (.invokestatic 183, 3) := by decide +kernel
theorem dX11_least_47 : decode cX11_least 47 = .ok (.ifCond .eq 6, 3) := by decide +kernel
theorem dX11_least_50 : decode cX11_least 50 = .ok (.bipush (-2), 2) := by decide +kernel
theorem dX11_least_52 : decode cX11_least 52 = .ok (.ireturn, 1) := by decide +kernel
theorem dX11_least_53 : decode cX11_least 53 = .ok (.aload_n 0, 1) := by decide +kernel
theorem dX11_least_54 : decode cX11_least 54 = .ok (.iload_n 1, 1) := by decide +kernel
theorem dX11_least_55 : decode cX11_least 55 = .ok (.iload_n 2, 1) := by decide +kernel
theorem dX11_least_56 : decode cX11_least 56 = .ok (.iconst 1, 1) := by decide +kernel
theorem dX11_least_57 : decode cX11_least 57 = .ok (.invokevirtual 235, 3) := by decide +kernel
theorem dX11_least_60 : decode cX11_least 60 = .ok (.ifCond .ne 6, 3) := by decide +kernel
theorem dX11_least_63 : decode cX11_least 63 = .ok (.bipush (-4), 2) := by decide +kernel
theorem dX11_least_65 : decode cX11_least 65 = .ok (.ireturn, 1) := by decide +kernel
theorem dX11_least_66 : decode cX11_least 66 = .ok (.iload_n 3, 1) := by decide +kernel
theorem dX11_least_67 : decode cX11_least 67 = .ok (.ifCond .lt 10, 3) := by decide +kernel
theorem dX11_least_70 : decode cX11_least 70 = .ok (.aload_n 0, 1) := by decide +kernel
theorem dX11_least_71 : decode cX11_least 71 = .ok (.getfield 85, 3) := by decide +kernel
theorem dX11_least_74 : decode cX11_least 74 = .ok (.iload_n 3, 1) := by decide +kernel
theorem dX11_least_75 : decode cX11_least 75 = .ok (.iaload, 1) := by decide +kernel
theorem dX11_least_76 : decode cX11_least 76 = .ok (.ireturn, 1) := by decide +kernel
theorem dX11_least_77 : decode cX11_least 77 = .ok (.iconst 0, 1) := by decide +kernel
theorem dX11_least_78 : decode cX11_least 78 = .ok (.istore 4, 2) := by decide +kernel
theorem dX11_least_80 : decode cX11_least 80 = .ok (.iconst 0, 1) := by decide +kernel
theorem dX11_least_81 : decode cX11_least 81 = .ok (.istore 5, 2) := by decide +kernel
theorem dX11_least_83 : decode cX11_least 83 = .ok (.iconst 0, 1) := by decide +kernel
theorem dX11_least_84 : decode cX11_least 84 = .ok (.istore 6, 2) := by decide +kernel
theorem dX11_least_86 : decode cX11_least 86 = .ok (.iload 6, 2) := by decide +kernel
theorem dX11_least_88 : decode cX11_least 88 = .ok (.aload_n 0, 1) := by decide +kernel
theorem dX11_least_89 : decode cX11_least 89 = .ok (.getfield 22, 3) := by decide +kernel
theorem dX11_least_92 : decode cX11_least 92 = .ok (.iconst 0, 1) := by decide +kernel
theorem dX11_least_93 : decode cX11_least 93 = .ok (.iaload, 1) := by decide +kernel
theorem dX11_least_94 : decode cX11_least 94 = .ok (.if_icmp .ge 71, 3) := by decide +kernel
theorem dX11_least_97 : decode cX11_least 97 = .ok (.iload_n 2, 1) := by decide +kernel
theorem dX11_least_98 : decode cX11_least 98 = .ok (.iload 6, 2) := by decide +kernel
theorem dX11_least_100 : decode cX11_least 100 = .ok (.invokestatic 183, 3) := by decide +kernel
theorem dX11_least_103 : decode cX11_least 103 = .ok (.ifCond .ne 56, 3) := by decide +kernel
theorem dX11_least_106 : decode cX11_least 106 = .ok (.iload 4, 2) := by decide +kernel
theorem dX11_least_108 : decode cX11_least 108 = .ok (.aload_n 0, 1) := by decide +kernel
theorem dX11_least_109 : decode cX11_least 109 = .ok (.getfield 37, 3) := by decide +kernel
theorem dX11_least_112 : decode cX11_least 112 = .ok (.iload 6, 2) := by decide +kernel
theorem dX11_least_114 : decode cX11_least 114 = .ok (.iaload, 1) := by decide +kernel
theorem dX11_least_115 : decode cX11_least 115 = .ok (.aload_n 0, 1) := by decide +kernel
theorem dX11_least_116 : decode cX11_least 116 = .ok (.getfield 85, 3) := by decide +kernel
theorem dX11_least_119 : decode cX11_least 119 = .ok (.iload 6, 2) := by decide +kernel
theorem dX11_least_121 : decode cX11_least 121 = .ok (.iaload, 1) := by decide +kernel
theorem dX11_least_122 : decode cX11_least 122 = .ok (.if_icmp .ne 7, 3) := by decide +kernel
theorem dX11_least_125 : decode cX11_least 125 = .ok (.iconst 0, 1) := by decide +kernel
theorem dX11_least_126 : decode cX11_least 126 = .ok (.goto 4, 3) := by decide +kernel
theorem dX11_least_129 : decode cX11_least 129 = .ok (.iconst 1, 1) := by decide +kernel
theorem dX11_least_130 : decode cX11_least 130 = .ok (.iadd, 1) := by decide +kernel
theorem dX11_least_131 : decode cX11_least 131 = .ok (.istore 4, 2) := by decide +kernel
theorem dX11_least_133 : decode cX11_least 133 = .ok (.iload 5, 2) := by decide +kernel
theorem dX11_least_135 : decode cX11_least 135 = .ok (.aload_n 0, 1) := by decide +kernel
theorem dX11_least_136 : decode cX11_least 136 = .ok (.getfield 31, 3) := by decide +kernel
theorem dX11_least_139 : decode cX11_least 139 = .ok (.iload 6, 2) := by decide +kernel
theorem dX11_least_141 : decode cX11_least 141 = .ok (.iaload, 1) := by decide +kernel
theorem dX11_least_142 : decode cX11_least 142 = .ok (.aload_n 0, 1) := by decide +kernel
theorem dX11_least_143 : decode cX11_least 143 = .ok (.aload_n 0, 1) := by decide +kernel
theorem dX11_least_144 : decode cX11_least 144 = .ok (.getfield 85, 3) := by decide +kernel
theorem dX11_least_147 : decode cX11_least 147 = .ok (.iload 6, 2) := by decide +kernel
theorem dX11_least_149 : decode cX11_least 149 = .ok (.iaload, 1) := by decide +kernel
theorem dX11_least_150 : decode cX11_least 150 = .ok (.iload 6, 2) := by decide +kernel
theorem dX11_least_152 : decode cX11_least 152 = .ok (.invokevirtual 205, 3) := by decide +kernel
theorem dX11_least_155 : decode cX11_least 155 = .ok (.isub, 1) := by decide +kernel
theorem dX11_least_156 : decode cX11_least 156 = .ok (.iadd, 1) := by decide +kernel
theorem dX11_least_157 : decode cX11_least 157 = .ok (.istore 5, 2) := by decide +kernel
theorem dX11_least_159 : decode cX11_least 159 = .ok (.iinc 6 1, 3) := by decide +kernel
theorem dX11_least_162 : decode cX11_least 162 = .ok (.goto (-76), 3) := by decide +kernel
theorem dX11_least_165 : decode cX11_least 165 = .ok (.iload_n 3, 1) := by decide +kernel
theorem dX11_least_166 : decode cX11_least 166 = .ok (.iconst (-1), 1) := by decide +kernel
theorem dX11_least_167 : decode cX11_least 167 = .ok (.if_icmp .ne 10, 3) := by decide +kernel
theorem dX11_least_170 : decode cX11_least 170 = .ok (.aload_n 0, 1) := by decide +kernel
theorem dX11_least_171 : decode cX11_least 171 = .ok (.getfield 216, 3) := by decide +kernel
theorem dX11_least_174 : decode cX11_least 174 = .ok (.goto 16, 3) := by decide +kernel
theorem dX11_least_177 : decode cX11_least 177 = .ok (.iload_n 3, 1) := by decide +kernel
theorem dX11_least_178 : decode cX11_least 178 = .ok (.bipush (-2), 2) := by decide +kernel
theorem dX11_least_180 : decode cX11_least 180 = .ok (.if_icmp .ne 8, 3) := by decide +kernel
theorem dX11_least_183 : decode cX11_least 183 = .ok (.iload 4, 2) := by decide +kernel
theorem dX11_least_185 : decode cX11_least 185 = .ok (.goto 5, 3) := by decide +kernel
theorem dX11_least_188 : decode cX11_least 188 = .ok (.iload 5, 2) := by decide +kernel
theorem dX11_least_190 : decode cX11_least 190 = .ok (.ireturn, 1) := by decide +kernel
theorem dX11_linesIn_0 : decode cX11_linesIn 0 = .ok (.iconst 0, 1) := by decide +kernel
theorem dX11_linesIn_1 : decode cX11_linesIn 1 = .ok (.istore_n 2, 1) := by decide +kernel
theorem dX11_linesIn_2 : decode cX11_linesIn 2 = .ok (.iconst 0, 1) := by decide +kernel
theorem dX11_linesIn_3 : decode cX11_linesIn 3 = .ok (.istore_n 3, 1) := by decide +kernel
theorem dX11_linesIn_4 : decode cX11_linesIn 4 = .ok (.iload_n 3, 1) := by decide +kernel
theorem dX11_linesIn_5 : decode cX11_linesIn 5 = .ok (.aload_n 0, 1) := by decide +kernel
theorem dX11_linesIn_6 : decode cX11_linesIn 6 = .ok (.getfield 22, 3) := by decide +kernel
theorem dX11_linesIn_9 : decode cX11_linesIn 9 = .ok (.iconst 0, 1) := by decide +kernel
theorem dX11_linesIn_10 : decode cX11_linesIn 10 = .ok (.iaload, 1) := by decide +kernel
theorem dX11_linesIn_11 : decode cX11_linesIn 11 = .ok (.if_icmp .ge 30, 3) := by decide +kernel
theorem dX11_linesIn_14 : decode cX11_linesIn 14 = .ok (.iload_n 2, 1) := by decide +kernel
theorem dX11_linesIn_15 : decode cX11_linesIn 15 = .ok (.iload_n 1, 1) := by decide +kernel
theorem dX11_linesIn_16 : decode cX11_linesIn 16 = .ok (.iload_n 3, 1) := by decide +kernel
theorem dX11_linesIn_17 : decode cX11_linesIn 17 = .ok (.invokestatic 183, 3) := by decide +kernel
theorem dX11_linesIn_20 : decode cX11_linesIn 20 = .ok (.ifCond .eq 12, 3) := by decide +kernel
theorem dX11_linesIn_23 : decode cX11_linesIn 23 = .ok (.aload_n 0, 1) := by decide +kernel
theorem dX11_linesIn_24 : decode cX11_linesIn 24 = .ok (.getfield 31, 3) := by decide +kernel
theorem dX11_linesIn_27 : decode cX11_linesIn 27 = .ok (.iload_n 3, 1) := by decide +kernel
theorem dX11_linesIn_28 : decode cX11_linesIn 28 = .ok (.iaload, 1) := by decide +kernel
theorem dX11_linesIn_29 : decode cX11_linesIn 29 = .ok (.goto 4, 3) := by decide +kernel
theorem dX11_linesIn_32 : decode cX11_linesIn 32 = .ok (.iconst 0, 1) := by decide +kernel
theorem dX11_linesIn_33 : decode cX11_linesIn 33 = .ok (.iadd, 1) := by decide +kernel
theorem dX11_linesIn_34 : decode cX11_linesIn 34 = .ok (.istore_n 2, 1) := by decide +kernel
theorem dX11_linesIn_35 : decode cX11_linesIn 35 = .ok (.iinc 3 1, 3) := by decide +kernel
theorem dX11_linesIn_38 : decode cX11_linesIn 38 = .ok (.goto (-34), 3) := by decide +kernel
theorem dX11_linesIn_41 : decode cX11_linesIn 41 = .ok (.iload_n 2, 1) := by decide +kernel
theorem dX11_linesIn_42 : decode cX11_linesIn 42 = .ok (.ireturn, 1) := by decide +kernel
theorem dX11_cuts_0 : decode cX11_cuts 0 = .ok (.aload_n 0, 1) := by decide +kernel
theorem dX11_cuts_1 : decode cX11_cuts 1 = .ok (.iload_n 1, 1) := by decide +kernel
theorem dX11_cuts_2 : decode cX11_cuts 2 = .ok (.invokevirtual 229, 3) := by decide +kernel
theorem dX11_cuts_5 : decode cX11_cuts 5 = .ok (.ifCond .eq 13, 3) := by decide +kernel
theorem dX11_cuts_8 : decode cX11_cuts 8 = .ok (.iload_n 2, 1) := by decide +kernel
theorem dX11_cuts_9 : decode cX11_cuts 9 = .ok (.i2l, 1) := by decide +kernel
theorem dX11_cuts_10 : decode cX11_cuts 10 = .ok (.lconst 0, 1) := by decide +kernel
theorem dX11_cuts_11 : decode cX11_cuts 11 = .ok (.lconst 1, 1) := by decide +kernel
theorem dX11_cuts_12 : decode cX11_cuts 12 = .ok (.invokestatic 124, 3) := by decide +kernel
theorem dX11_cuts_15 : decode cX11_cuts 15 = .ok (.ifCond .ne 5, 3) := by decide +kernel
theorem dX11_cuts_18 : decode cX11_cuts 18 = .ok (.iconst (-1), 1) := by decide +kernel
theorem dX11_cuts_19 : decode cX11_cuts 19 = .ok (.ireturn, 1) := by decide +kernel
theorem dX11_cuts_20 : decode cX11_cuts 20 = .ok (.iconst 0, 1) := by decide +kernel
theorem dX11_cuts_21 : decode cX11_cuts 21 = .ok (.istore_n 3, 1) := by decide +kernel
theorem dX11_cuts_22 : decode cX11_cuts 22 = .ok (.iconst 0, 1) := by decide +kernel
theorem dX11_cuts_23 : decode cX11_cuts 23 = .ok (.istore 4, 2) := by decide +kernel
theorem dX11_cuts_25 : decode cX11_cuts 25 = .ok (.iload 4, 2) := by decide +kernel
theorem dX11_cuts_27 : decode cX11_cuts 27 = .ok (.aload_n 0, 1) := by decide +kernel
theorem dX11_cuts_28 : decode cX11_cuts 28 = .ok (.getfield 22, 3) := by decide +kernel
theorem dX11_cuts_31 : decode cX11_cuts 31 = .ok (.iconst 0, 1) := by decide +kernel
theorem dX11_cuts_32 : decode cX11_cuts 32 = .ok (.iaload, 1) := by decide +kernel
theorem dX11_cuts_33 : decode cX11_cuts 33 = .ok (.if_icmp .ge 31, 3) := by decide +kernel
theorem dX11_cuts_36 : decode cX11_cuts 36 = .ok (.iload_n 3, 1) := by decide +kernel
theorem dX11_cuts_37 : decode cX11_cuts 37 = .ok (.aload_n 0, 1) := by decide +kernel
theorem dX11_cuts_38 : decode cX11_cuts 38 = .ok (.getfield 34, 3) := by decide +kernel
theorem dX11_cuts_41 : decode cX11_cuts 41 = .ok (.iload 4, 2) := by decide +kernel
theorem dX11_cuts_43 : decode cX11_cuts 43 = .ok (.iaload, 1) := by decide +kernel
theorem dX11_cuts_44 : decode cX11_cuts 44 = .ok (.iconst 1, 1) := by decide +kernel
theorem dX11_cuts_45 : decode cX11_cuts 45 = .ok (.if_icmp .ne 10, 3) := by decide +kernel
theorem dX11_cuts_48 : decode cX11_cuts 48 = .ok (.iconst 1, 1) := by decide +kernel
theorem dX11_cuts_49 : decode cX11_cuts 49 = .ok (.iload 4, 2) := by decide +kernel
theorem dX11_cuts_51 : decode cX11_cuts 51 = .ok (.ishl, 1) := by decide +kernel
theorem dX11_cuts_52 : decode cX11_cuts 52 = .ok (.goto 4, 3) := by decide +kernel
theorem dX11_cuts_55 : decode cX11_cuts 55 = .ok (.iconst 0, 1) := by decide +kernel
theorem dX11_cuts_56 : decode cX11_cuts 56 = .ok (.ior, 1) := by decide +kernel
theorem dX11_cuts_57 : decode cX11_cuts 57 = .ok (.istore_n 3, 1) := by decide +kernel
theorem dX11_cuts_58 : decode cX11_cuts 58 = .ok (.iinc 4 1, 3) := by decide +kernel
theorem dX11_cuts_61 : decode cX11_cuts 61 = .ok (.goto (-36), 3) := by decide +kernel
theorem dX11_cuts_64 : decode cX11_cuts 64 = .ok (.bipush (-4), 2) := by decide +kernel
theorem dX11_cuts_66 : decode cX11_cuts 66 = .ok (.istore 4, 2) := by decide +kernel
theorem dX11_cuts_68 : decode cX11_cuts 68 = .ok (.iconst 0, 1) := by decide +kernel
theorem dX11_cuts_69 : decode cX11_cuts 69 = .ok (.istore 5, 2) := by decide +kernel
theorem dX11_cuts_71 : decode cX11_cuts 71 = .ok (.iload 5, 2) := by decide +kernel
theorem dX11_cuts_73 : decode cX11_cuts 73 = .ok (.iload_n 3, 1) := by decide +kernel
theorem dX11_cuts_74 : decode cX11_cuts 74 = .ok (.if_icmp .gt 53, 3) := by decide +kernel
theorem dX11_cuts_77 : decode cX11_cuts 77 = .ok (.iload 5, 2) := by decide +kernel
theorem dX11_cuts_79 : decode cX11_cuts 79 = .ok (.iload_n 3, 1) := by decide +kernel
theorem dX11_cuts_80 : decode cX11_cuts 80 = .ok (.iconst (-1), 1) := by decide +kernel
theorem dX11_cuts_81 : decode cX11_cuts 81 = .ok (.ixor, 1) := by decide +kernel
theorem dX11_cuts_82 : decode cX11_cuts 82 = .ok (.iand, 1) := by decide +kernel
theorem dX11_cuts_83 : decode cX11_cuts 83 = .ok (.ifCond .ne 38, 3) := by decide +kernel
theorem dX11_cuts_86 : decode cX11_cuts 86 = .ok (.iload 4, 2) := by decide +kernel
theorem dX11_cuts_88 : decode cX11_cuts 88 = .ok (.ifCond .lt 18, 3) := by decide +kernel
theorem dX11_cuts_91 : decode cX11_cuts 91 = .ok (.aload_n 0, 1) := by decide +kernel
theorem dX11_cuts_92 : decode cX11_cuts 92 = .ok (.iload 5, 2) := by decide +kernel
theorem dX11_cuts_94 : decode cX11_cuts 94 = .ok (.invokevirtual 241, 3) := by decide +kernel
theorem dX11_cuts_97 : decode cX11_cuts 97 = .ok (.aload_n 0, 1) := by decide +kernel
theorem dX11_cuts_98 : decode cX11_cuts 98 = .ok (.iload 4, 2) := by decide +kernel
theorem dX11_cuts_100 : decode cX11_cuts 100 = .ok (.invokevirtual 241, 3) := by decide +kernel
theorem dX11_cuts_103 : decode cX11_cuts 103 = .ok (.if_icmp .ge 18, 3) := by decide +kernel
theorem dX11_cuts_106 : decode cX11_cuts 106 = .ok (.aload_n 0, 1) := by decide +kernel
theorem dX11_cuts_107 : decode cX11_cuts 107 = .ok (.iload_n 1, 1) := by decide +kernel
theorem dX11_cuts_108 : decode cX11_cuts 108 = .ok (.iload 5, 2) := by decide +kernel
theorem dX11_cuts_110 : decode cX11_cuts 110 = .ok (.iconst 0, 1) := by decide +kernel
theorem dX11_cuts_111 : decode cX11_cuts 111 = .ok (.invokevirtual 235, 3) := by decide +kernel
theorem dX11_cuts_114 : decode cX11_cuts 114 = .ok (.ifCond .eq 7, 3) := by decide +kernel
theorem dX11_cuts_117 : decode cX11_cuts 117 = .ok (.iload 5, 2) := by decide +kernel
theorem dX11_cuts_119 : decode cX11_cuts 119 = .ok (.istore 4, 2) := by decide +kernel
theorem dX11_cuts_121 : decode cX11_cuts 121 = .ok (.iinc 5 1, 3) := by decide +kernel
theorem dX11_cuts_124 : decode cX11_cuts 124 = .ok (.goto (-53), 3) := by decide +kernel
theorem dX11_cuts_127 : decode cX11_cuts 127 = .ok (.iload 4, 2) := by decide +kernel
theorem dX11_cuts_129 : decode cX11_cuts 129 = .ok (.ifCond .ge 8, 3) := by decide +kernel
theorem dX11_cuts_132 : decode cX11_cuts 132 = .ok (.bipush (-4), 2) := by decide +kernel
theorem dX11_cuts_134 : decode cX11_cuts 134 = .ok (.goto 18, 3) := by decide +kernel
theorem dX11_cuts_137 : decode cX11_cuts 137 = .ok (.iload_n 2, 1) := by decide +kernel
theorem dX11_cuts_138 : decode cX11_cuts 138 = .ok (.ifCond .ne 8, 3) := by decide +kernel
theorem dX11_cuts_141 : decode cX11_cuts 141 = .ok (.iload 4, 2) := by decide +kernel
theorem dX11_cuts_143 : decode cX11_cuts 143 = .ok (.goto 9, 3) := by decide +kernel
theorem dX11_cuts_146 : decode cX11_cuts 146 = .ok (.aload_n 0, 1) := by decide +kernel
theorem dX11_cuts_147 : decode cX11_cuts 147 = .ok (.iload 4, 2) := by decide +kernel
theorem dX11_cuts_149 : decode cX11_cuts 149 = .ok (.invokevirtual 241, 3) := by decide +kernel
theorem dX11_cuts_152 : decode cX11_cuts 152 = .ok (.ireturn, 1) := by decide +kernel
theorem dX11_lines_0 : decode cX11_lines 0 = .ok (.aload_n 0, 1) := by decide +kernel
theorem dX11_lines_1 : decode cX11_lines 1 = .ok (.iload_n 1, 1) := by decide +kernel
theorem dX11_lines_2 : decode cX11_lines 2 = .ok (.invokevirtual 195, 3) := by decide +kernel
theorem dX11_lines_5 : decode cX11_lines 5 = .ok (.ifCond .eq 11, 3) := by decide +kernel
theorem dX11_lines_8 : decode cX11_lines 8 = .ok (.aload_n 0, 1) := by decide +kernel
theorem dX11_lines_9 : decode cX11_lines 9 = .ok (.iload_n 2, 1) := by decide +kernel
theorem dX11_lines_10 : decode cX11_lines 10 = .ok (.invokevirtual 200, 3) := by decide +kernel
theorem dX11_lines_13 : decode cX11_lines 13 = .ok (.ifCond .ne 5, 3) := by decide +kernel
theorem dX11_lines_16 : decode cX11_lines 16 = .ok (.iconst (-1), 1) := by decide +kernel
theorem dX11_lines_17 : decode cX11_lines 17 = .ok (.ireturn, 1) := by decide +kernel
theorem dX11_lines_18 : decode cX11_lines 18 = .ok (.aload_n 0, 1) := by decide +kernel
theorem dX11_lines_19 : decode cX11_lines 19 = .ok (.getfield 76, 3) := by decide +kernel
theorem dX11_lines_22 : decode cX11_lines 22 = .ok (.iload_n 1, 1) := by decide +kernel
theorem dX11_lines_23 : decode cX11_lines 23 = .ok (.iaload, 1) := by decide +kernel
theorem dX11_lines_24 : decode cX11_lines 24 = .ok (.iload_n 2, 1) := by decide +kernel
theorem dX11_lines_25 : decode cX11_lines 25 = .ok (.invokestatic 183, 3) := by decide +kernel
theorem dX11_lines_28 : decode cX11_lines 28 = .ok (.ifCond .eq 12, 3) := by decide +kernel
theorem dX11_lines_31 : decode cX11_lines 31 = .ok (.aload_n 0, 1) := by decide +kernel
theorem dX11_lines_32 : decode cX11_lines 32 = .ok (.iload_n 1, 1) := by decide +kernel
theorem dX11_lines_33 : decode cX11_lines 33 = .ok (.iload_n 2, 1) := by decide +kernel
theorem dX11_lines_34 : decode cX11_lines 34 = .ok (.invokevirtual 205, 3) := by decide +kernel
theorem dX11_lines_37 : decode cX11_lines 37 = .ok (.goto 5, 3) := by decide +kernel
theorem dX11_lines_40 : decode cX11_lines 40 = .ok (.bipush (-2), 2) := by decide +kernel
theorem dX11_lines_42 : decode cX11_lines 42 = .ok (.ireturn, 1) := by decide +kernel
theorem dX11_hoursOf_0 : decode cX11_hoursOf 0 = .ok (.aload_n 0, 1) := by decide +kernel
theorem dX11_hoursOf_1 : decode cX11_hoursOf 1 = .ok (.getfield 31, 3) := by decide +kernel
theorem dX11_hoursOf_4 : decode cX11_hoursOf 4 = .ok (.iload_n 1, 1) := by decide +kernel
theorem dX11_hoursOf_5 : decode cX11_hoursOf 5 = .ok (.iaload, 1) := by decide +kernel
theorem dX11_hoursOf_6 : decode cX11_hoursOf 6 = .ok (.bipush 99, 2) := by decide +kernel
theorem dX11_hoursOf_8 : decode cX11_hoursOf 8 = .ok (.iadd, 1) := by decide +kernel
theorem dX11_hoursOf_9 : decode cX11_hoursOf 9 = .ok (.bipush 100, 2) := by decide +kernel
theorem dX11_hoursOf_11 : decode cX11_hoursOf 11 = .ok (.idiv, 1) := by decide +kernel
theorem dX11_hoursOf_12 : decode cX11_hoursOf 12 = .ok (.ireturn, 1) := by decide +kernel
theorem dX11_rehearse_0 : decode cX11_rehearse 0 = .ok (.aload_n 0, 1) := by decide +kernel
theorem dX11_rehearse_1 : decode cX11_rehearse 1 = .ok (.iload_n 1, 1) := by decide +kernel
theorem dX11_rehearse_2 : decode cX11_rehearse 2 = .ok (.invokevirtual 195, 3) := by decide +kernel
theorem dX11_rehearse_5 : decode cX11_rehearse 5 = .ok (.ifCond .eq 11, 3) := by decide +kernel
theorem dX11_rehearse_8 : decode cX11_rehearse 8 = .ok (.aload_n 0, 1) := by decide +kernel
theorem dX11_rehearse_9 : decode cX11_rehearse 9 = .ok (.iload_n 2, 1) := by decide +kernel
theorem dX11_rehearse_10 : decode cX11_rehearse 10 = .ok (.invokevirtual 200, 3) := by decide +kernel
theorem dX11_rehearse_13 : decode cX11_rehearse 13 = .ok (.ifCond .ne 5, 3) := by decide +kernel
theorem dX11_rehearse_16 : decode cX11_rehearse 16 = .ok (.iconst (-1), 1) := by decide +kernel
theorem dX11_rehearse_17 : decode cX11_rehearse 17 = .ok (.ireturn, 1) := by decide +kernel
theorem dX11_rehearse_18 : decode cX11_rehearse 18 = .ok (.aload_n 0, 1) := by decide +kernel
theorem dX11_rehearse_19 : decode cX11_rehearse 19 = .ok (.getfield 76, 3) := by decide +kernel
theorem dX11_rehearse_22 : decode cX11_rehearse 22 = .ok (.iload_n 1, 1) := by decide +kernel
theorem dX11_rehearse_23 : decode cX11_rehearse 23 = .ok (.iaload, 1) := by decide +kernel
theorem dX11_rehearse_24 : decode cX11_rehearse 24 = .ok (.iload_n 2, 1) := by decide +kernel
theorem dX11_rehearse_25 : decode cX11_rehearse 25 = .ok (.invokestatic 183, 3) := by decide +kernel
theorem dX11_rehearse_28 : decode cX11_rehearse 28 = .ok (.ifCond .ne 6, 3) := by decide +kernel
theorem dX11_rehearse_31 : decode cX11_rehearse 31 = .ok (.bipush (-2), 2) := by decide +kernel
theorem dX11_rehearse_33 : decode cX11_rehearse 33 = .ok (.ireturn, 1) := by decide +kernel
theorem dX11_rehearse_34 : decode cX11_rehearse 34 = .ok (.aload_n 0, 1) := by decide +kernel
theorem dX11_rehearse_35 : decode cX11_rehearse 35 = .ok (.getfield 61, 3) := by decide +kernel
theorem dX11_rehearse_38 : decode cX11_rehearse 38 = .ok (.bipush 8, 2) := by decide +kernel
theorem dX11_rehearse_40 : decode cX11_rehearse 40 = .ok (.iload_n 1, 1) := by decide +kernel
theorem dX11_rehearse_41 : decode cX11_rehearse 41 = .ok (.imul, 1) := by decide +kernel
theorem dX11_rehearse_42 : decode cX11_rehearse 42 = .ok (.iload_n 2, 1) := by decide +kernel
theorem dX11_rehearse_43 : decode cX11_rehearse 43 = .ok (.iadd, 1) := by decide +kernel
theorem dX11_rehearse_44 : decode cX11_rehearse 44 = .ok (.aload_n 0, 1) := by decide +kernel
theorem dX11_rehearse_45 : decode cX11_rehearse 45 = .ok (.getfield 64, 3) := by decide +kernel
theorem dX11_rehearse_48 : decode cX11_rehearse 48 = .ok (.iconst 0, 1) := by decide +kernel
theorem dX11_rehearse_49 : decode cX11_rehearse 49 = .ok (.iaload, 1) := by decide +kernel
theorem dX11_rehearse_50 : decode cX11_rehearse 50 = .ok (.iastore, 1) := by decide +kernel
theorem dX11_rehearse_51 : decode cX11_rehearse 51 = .ok (.aload_n 0, 1) := by decide +kernel
theorem dX11_rehearse_52 : decode cX11_rehearse 52 = .ok (.iload_n 2, 1) := by decide +kernel
theorem dX11_rehearse_53 : decode cX11_rehearse 53 = .ok (.invokevirtual 244, 3) := by decide +kernel
theorem dX11_rehearse_56 : decode cX11_rehearse 56 = .ok (.ireturn, 1) := by decide +kernel
theorem dX11_layPairs_0 : decode cX11_layPairs 0 = .ok (.aload_n 0, 1) := by decide +kernel
theorem dX11_layPairs_1 : decode cX11_layPairs 1 = .ok (.iconst 0, 1) := by decide +kernel
theorem dX11_layPairs_2 : decode cX11_layPairs 2 = .ok (.putfield 247, 3) := by decide +kernel
theorem dX11_layPairs_5 : decode cX11_layPairs 5 = .ok (.iconst 0, 1) := by decide +kernel
theorem dX11_layPairs_6 : decode cX11_layPairs 6 = .ok (.istore_n 1, 1) := by decide +kernel
theorem dX11_layPairs_7 : decode cX11_layPairs 7 = .ok (.iload_n 1, 1) := by decide +kernel
theorem dX11_layPairs_8 : decode cX11_layPairs 8 = .ok (.aload_n 0, 1) := by decide +kernel
theorem dX11_layPairs_9 : decode cX11_layPairs 9 = .ok (.getfield 13, 3) := by decide +kernel
theorem dX11_layPairs_12 : decode cX11_layPairs 12 = .ok (.iconst 0, 1) := by decide +kernel
theorem dX11_layPairs_13 : decode cX11_layPairs 13 = .ok (.iaload, 1) := by decide +kernel
theorem dX11_layPairs_14 : decode cX11_layPairs 14 = .ok (.if_icmp .ge 65, 3) := by decide +kernel
theorem dX11_layPairs_17 : decode cX11_layPairs 17 = .ok (.iconst 0, 1) := by decide +kernel
theorem dX11_layPairs_18 : decode cX11_layPairs 18 = .ok (.istore_n 2, 1) := by decide +kernel
theorem dX11_layPairs_19 : decode cX11_layPairs 19 = .ok (.iload_n 2, 1) := by decide +kernel
theorem dX11_layPairs_20 : decode cX11_layPairs 20 = .ok (.aload_n 0, 1) := by decide +kernel
theorem dX11_layPairs_21 : decode cX11_layPairs 21 = .ok (.getfield 22, 3) := by decide +kernel
theorem dX11_layPairs_24 : decode cX11_layPairs 24 = .ok (.iconst 0, 1) := by decide +kernel
theorem dX11_layPairs_25 : decode cX11_layPairs 25 = .ok (.iaload, 1) := by decide +kernel
theorem dX11_layPairs_26 : decode cX11_layPairs 26 = .ok (.if_icmp .ge 47, 3) := by decide +kernel
theorem dX11_layPairs_29 : decode cX11_layPairs 29 = .ok (.aload_n 0, 1) := by decide +kernel
theorem dX11_layPairs_30 : decode cX11_layPairs 30 = .ok (.getfield 76, 3) := by decide +kernel
theorem dX11_layPairs_33 : decode cX11_layPairs 33 = .ok (.iload_n 1, 1) := by decide +kernel
theorem dX11_layPairs_34 : decode cX11_layPairs 34 = .ok (.iaload, 1) := by decide +kernel
theorem dX11_layPairs_35 : decode cX11_layPairs 35 = .ok (.iload_n 2, 1) := by decide +kernel
theorem dX11_layPairs_36 : decode cX11_layPairs 36 = .ok (.invokestatic 183, 3) := by decide +kernel
theorem dX11_layPairs_39 : decode cX11_layPairs 39 = .ok (.ifCond .eq 28, 3) := by decide +kernel
theorem dX11_layPairs_42 : decode cX11_layPairs 42 = .ok (.aload_n 0, 1) := by decide +kernel
theorem dX11_layPairs_43 : decode cX11_layPairs 43 = .ok (.getfield 91, 3) := by decide +kernel
theorem dX11_layPairs_46 : decode cX11_layPairs 46 = .ok (.aload_n 0, 1) := by decide +kernel
theorem dX11_layPairs_47 : decode cX11_layPairs 47 = .ok (.getfield 247, 3) := by decide +kernel
theorem dX11_layPairs_50 : decode cX11_layPairs 50 = .ok (.bipush 8, 2) := by decide +kernel
theorem dX11_layPairs_52 : decode cX11_layPairs 52 = .ok (.iload_n 1, 1) := by decide +kernel
theorem dX11_layPairs_53 : decode cX11_layPairs 53 = .ok (.imul, 1) := by decide +kernel
theorem dX11_layPairs_54 : decode cX11_layPairs 54 = .ok (.iload_n 2, 1) := by decide +kernel
theorem dX11_layPairs_55 : decode cX11_layPairs 55 = .ok (.iadd, 1) := by decide +kernel
theorem dX11_layPairs_56 : decode cX11_layPairs 56 = .ok (.iastore, 1) := by decide +kernel
theorem dX11_layPairs_57 : decode cX11_layPairs 57 = .ok (.aload_n 0, 1) := by decide +kernel
theorem dX11_layPairs_58 : decode cX11_layPairs 58 = .ok (.dup, 1) := by decide +kernel
theorem dX11_layPairs_59 : decode cX11_layPairs 59 = .ok (.getfield 247, 3) := by decide +kernel
theorem dX11_layPairs_62 : decode cX11_layPairs 62 = .ok (.iconst 1, 1) := by decide +kernel
theorem dX11_layPairs_63 : decode cX11_layPairs 63 = .ok (.iadd, 1) := by decide +kernel
theorem dX11_layPairs_64 : decode cX11_layPairs 64 = .ok (.putfield 247, 3) := by decide +kernel
theorem dX11_layPairs_67 : decode cX11_layPairs 67 = .ok (.iinc 2 1, 3) := by decide +kernel
theorem dX11_layPairs_70 : decode cX11_layPairs 70 = .ok (.goto (-51), 3) := by decide +kernel
theorem dX11_layPairs_73 : decode cX11_layPairs 73 = .ok (.iinc 1 1, 3) := by decide +kernel
theorem dX11_layPairs_76 : decode cX11_layPairs 76 = .ok (.goto (-69), 3) := by decide +kernel
theorem dX11_layPairs_79 : decode cX11_layPairs 79 = .ok (.return_, 1) := by decide +kernel
theorem dX11_gainOf_0 : decode cX11_gainOf 0 = .ok (.aload_n 0, 1) := by decide +kernel
theorem dX11_gainOf_1 : decode cX11_gainOf 1 = .ok (.getfield 91, 3) := by decide +kernel
theorem dX11_gainOf_4 : decode cX11_gainOf 4 = .ok (.iload_n 1, 1) := by decide +kernel
theorem dX11_gainOf_5 : decode cX11_gainOf 5 = .ok (.iaload, 1) := by decide +kernel
theorem dX11_gainOf_6 : decode cX11_gainOf 6 = .ok (.bipush 8, 2) := by decide +kernel
theorem dX11_gainOf_8 : decode cX11_gainOf 8 = .ok (.idiv, 1) := by decide +kernel
theorem dX11_gainOf_9 : decode cX11_gainOf 9 = .ok (.istore_n 2, 1) := by decide +kernel
theorem dX11_gainOf_10 : decode cX11_gainOf 10 = .ok (.aload_n 0, 1) := by decide +kernel
theorem dX11_gainOf_11 : decode cX11_gainOf 11 = .ok (.getfield 91, 3) := by decide +kernel
theorem dX11_gainOf_14 : decode cX11_gainOf 14 = .ok (.iload_n 1, 1) := by decide +kernel
theorem dX11_gainOf_15 : decode cX11_gainOf 15 = .ok (.iaload, 1) := by decide +kernel
theorem dX11_gainOf_16 : decode cX11_gainOf 16 = .ok (.bipush 8, 2) := by decide +kernel
theorem dX11_gainOf_18 : decode cX11_gainOf 18 = .ok (.irem, 1) := by decide +kernel
theorem dX11_gainOf_19 : decode cX11_gainOf 19 = .ok (.istore_n 3, 1) := by decide +kernel
theorem dX11_gainOf_20 : decode cX11_gainOf 20 = .ok (.aload_n 0, 1) := by decide +kernel
theorem dX11_gainOf_21 : decode cX11_gainOf 21 = .ok (.getfield 31, 3) := by decide +kernel
theorem dX11_gainOf_24 : decode cX11_gainOf 24 = .ok (.iload_n 3, 1) := by decide +kernel
theorem dX11_gainOf_25 : decode cX11_gainOf 25 = .ok (.iaload, 1) := by decide +kernel
theorem dX11_gainOf_26 : decode cX11_gainOf 26 = .ok (.aload_n 0, 1) := by decide +kernel
theorem dX11_gainOf_27 : decode cX11_gainOf 27 = .ok (.iload_n 2, 1) := by decide +kernel
theorem dX11_gainOf_28 : decode cX11_gainOf 28 = .ok (.iload_n 3, 1) := by decide +kernel
theorem dX11_gainOf_29 : decode cX11_gainOf 29 = .ok (.invokevirtual 205, 3) := by decide +kernel
theorem dX11_gainOf_32 : decode cX11_gainOf 32 = .ok (.isub, 1) := by decide +kernel
theorem dX11_gainOf_33 : decode cX11_gainOf 33 = .ok (.ireturn, 1) := by decide +kernel
theorem dX11_isTaken_0 : decode cX11_isTaken 0 = .ok (.aload_n 0, 1) := by decide +kernel
theorem dX11_isTaken_1 : decode cX11_isTaken 1 = .ok (.aload_n 0, 1) := by decide +kernel
theorem dX11_isTaken_2 : decode cX11_isTaken 2 = .ok (.getfield 91, 3) := by decide +kernel
theorem dX11_isTaken_5 : decode cX11_isTaken 5 = .ok (.iload_n 1, 1) := by decide +kernel
theorem dX11_isTaken_6 : decode cX11_isTaken 6 = .ok (.iaload, 1) := by decide +kernel
theorem dX11_isTaken_7 : decode cX11_isTaken 7 = .ok (.bipush 8, 2) := by decide +kernel
theorem dX11_isTaken_9 : decode cX11_isTaken 9 = .ok (.irem, 1) := by decide +kernel
theorem dX11_isTaken_10 : decode cX11_isTaken 10 = .ok (.invokevirtual 244, 3) := by decide +kernel
theorem dX11_isTaken_13 : decode cX11_isTaken 13 = .ok (.istore_n 3, 1) := by decide +kernel
theorem dX11_isTaken_14 : decode cX11_isTaken 14 = .ok (.iload_n 3, 1) := by decide +kernel
theorem dX11_isTaken_15 : decode cX11_isTaken 15 = .ok (.iload_n 2, 1) := by decide +kernel
theorem dX11_isTaken_16 : decode cX11_isTaken 16 = .ok (.if_icmp .le 5, 3) := by decide +kernel
theorem dX11_isTaken_19 : decode cX11_isTaken 19 = .ok (.iconst 0, 1) := by decide +kernel
theorem dX11_isTaken_20 : decode cX11_isTaken 20 = .ok (.ireturn, 1) := by decide +kernel
theorem dX11_isTaken_21 : decode cX11_isTaken 21 = .ok (.aload_n 0, 1) := by decide +kernel
theorem dX11_isTaken_22 : decode cX11_isTaken 22 = .ok (.iload_n 1, 1) := by decide +kernel
theorem dX11_isTaken_23 : decode cX11_isTaken 23 = .ok (.invokevirtual 250, 3) := by decide +kernel
theorem dX11_isTaken_26 : decode cX11_isTaken 26 = .ok (.aload_n 0, 1) := by decide +kernel
theorem dX11_isTaken_27 : decode cX11_isTaken 27 = .ok (.getfield 94, 3) := by decide +kernel
theorem dX11_isTaken_30 : decode cX11_isTaken 30 = .ok (.bipush 100, 2) := by decide +kernel
theorem dX11_isTaken_32 : decode cX11_isTaken 32 = .ok (.iload_n 1, 1) := by decide +kernel
end
section
theorem dX11_isTaken_33 : decode cX11_isTaken 33 = .ok (.iconst 1, 1) := by decide +kernel
theorem dX11_isTaken_34 : decode cX11_isTaken 34 = .ok (.iadd, 1) := by decide +kernel
theorem dX11_isTaken_35 : decode cX11_isTaken 35 = .ok (.imul, 1) := by decide +kernel
theorem dX11_isTaken_36 : decode cX11_isTaken 36 = .ok (.iload_n 2, 1) := by decide +kernel
theorem dX11_isTaken_37 : decode cX11_isTaken 37 = .ok (.iadd, 1) := by decide +kernel
theorem dX11_isTaken_38 : decode cX11_isTaken 38 = .ok (.iload_n 3, 1) := by decide +kernel
theorem dX11_isTaken_39 : decode cX11_isTaken 39 = .ok (.isub, 1) := by decide +kernel
theorem dX11_isTaken_40 : decode cX11_isTaken 40 = .ok (.iaload, 1) := by decide +kernel
theorem dX11_isTaken_41 : decode cX11_isTaken 41 = .ok (.iadd, 1) := by decide +kernel
theorem dX11_isTaken_42 : decode cX11_isTaken 42 = .ok (.istore 4, 2) := by decide +kernel
theorem dX11_isTaken_44 : decode cX11_isTaken 44 = .ok (.aload_n 0, 1) := by decide +kernel
theorem dX11_isTaken_45 : decode cX11_isTaken 45 = .ok (.getfield 94, 3) := by decide +kernel
theorem dX11_isTaken_48 : decode cX11_isTaken 48 = .ok (.bipush 100, 2) := by decide +kernel
theorem dX11_isTaken_50 : decode cX11_isTaken 50 = .ok (.iload_n 1, 1) := by decide +kernel
theorem dX11_isTaken_51 : decode cX11_isTaken 51 = .ok (.iconst 1, 1) := by decide +kernel
theorem dX11_isTaken_52 : decode cX11_isTaken 52 = .ok (.iadd, 1) := by decide +kernel
theorem dX11_isTaken_53 : decode cX11_isTaken 53 = .ok (.imul, 1) := by decide +kernel
theorem dX11_isTaken_54 : decode cX11_isTaken 54 = .ok (.iload_n 2, 1) := by decide +kernel
theorem dX11_isTaken_55 : decode cX11_isTaken 55 = .ok (.iadd, 1) := by decide +kernel
theorem dX11_isTaken_56 : decode cX11_isTaken 56 = .ok (.iaload, 1) := by decide +kernel
theorem dX11_isTaken_57 : decode cX11_isTaken 57 = .ok (.istore 5, 2) := by decide +kernel
theorem dX11_isTaken_59 : decode cX11_isTaken 59 = .ok (.iload 4, 2) := by decide +kernel
theorem dX11_isTaken_61 : decode cX11_isTaken 61 = .ok (.iload 5, 2) := by decide +kernel
theorem dX11_isTaken_63 : decode cX11_isTaken 63 = .ok (.if_icmp .gt 43, 3) := by decide +kernel
theorem dX11_isTaken_66 : decode cX11_isTaken 66 = .ok (.iload 4, 2) := by decide +kernel
theorem dX11_isTaken_68 : decode cX11_isTaken 68 = .ok (.iload 5, 2) := by decide +kernel
theorem dX11_isTaken_70 : decode cX11_isTaken 70 = .ok (.if_icmp .ne 40, 3) := by decide +kernel
theorem dX11_isTaken_73 : decode cX11_isTaken 73 = .ok (.iload_n 3, 1) := by decide +kernel
theorem dX11_isTaken_74 : decode cX11_isTaken 74 = .ok (.aload_n 0, 1) := by decide +kernel
theorem dX11_isTaken_75 : decode cX11_isTaken 75 = .ok (.getfield 97, 3) := by decide +kernel
theorem dX11_isTaken_78 : decode cX11_isTaken 78 = .ok (.bipush 100, 2) := by decide +kernel
theorem dX11_isTaken_80 : decode cX11_isTaken 80 = .ok (.iload_n 1, 1) := by decide +kernel
theorem dX11_isTaken_81 : decode cX11_isTaken 81 = .ok (.iconst 1, 1) := by decide +kernel
theorem dX11_isTaken_82 : decode cX11_isTaken 82 = .ok (.iadd, 1) := by decide +kernel
theorem dX11_isTaken_83 : decode cX11_isTaken 83 = .ok (.imul, 1) := by decide +kernel
theorem dX11_isTaken_84 : decode cX11_isTaken 84 = .ok (.iload_n 2, 1) := by decide +kernel
theorem dX11_isTaken_85 : decode cX11_isTaken 85 = .ok (.iadd, 1) := by decide +kernel
theorem dX11_isTaken_86 : decode cX11_isTaken 86 = .ok (.iload_n 3, 1) := by decide +kernel
theorem dX11_isTaken_87 : decode cX11_isTaken 87 = .ok (.isub, 1) := by decide +kernel
theorem dX11_isTaken_88 : decode cX11_isTaken 88 = .ok (.iaload, 1) := by decide +kernel
theorem dX11_isTaken_89 : decode cX11_isTaken 89 = .ok (.iadd, 1) := by decide +kernel
theorem dX11_isTaken_90 : decode cX11_isTaken 90 = .ok (.aload_n 0, 1) := by decide +kernel
theorem dX11_isTaken_91 : decode cX11_isTaken 91 = .ok (.getfield 97, 3) := by decide +kernel
theorem dX11_isTaken_94 : decode cX11_isTaken 94 = .ok (.bipush 100, 2) := by decide +kernel
theorem dX11_isTaken_96 : decode cX11_isTaken 96 = .ok (.iload_n 1, 1) := by decide +kernel
theorem dX11_isTaken_97 : decode cX11_isTaken 97 = .ok (.iconst 1, 1) := by decide +kernel
theorem dX11_isTaken_98 : decode cX11_isTaken 98 = .ok (.iadd, 1) := by decide +kernel
theorem dX11_isTaken_99 : decode cX11_isTaken 99 = .ok (.imul, 1) := by decide +kernel
theorem dX11_isTaken_100 : decode cX11_isTaken 100 = .ok (.iload_n 2, 1) := by decide +kernel
theorem dX11_isTaken_101 : decode cX11_isTaken 101 = .ok (.iadd, 1) := by decide +kernel
theorem dX11_isTaken_102 : decode cX11_isTaken 102 = .ok (.iaload, 1) := by decide +kernel
theorem dX11_isTaken_103 : decode cX11_isTaken 103 = .ok (.if_icmp .gt 7, 3) := by decide +kernel
theorem dX11_isTaken_106 : decode cX11_isTaken 106 = .ok (.iconst 1, 1) := by decide +kernel
theorem dX11_isTaken_107 : decode cX11_isTaken 107 = .ok (.goto 4, 3) := by decide +kernel
theorem dX11_isTaken_110 : decode cX11_isTaken 110 = .ok (.iconst 0, 1) := by decide +kernel
theorem dX11_isTaken_111 : decode cX11_isTaken 111 = .ok (.ireturn, 1) := by decide +kernel
theorem dX11_layRehearsals_0 : decode cX11_layRehearsals 0 = .ok (.aload_n 0, 1) := by decide +kernel
theorem dX11_layRehearsals_1 : decode cX11_layRehearsals 1 = .ok (.invokevirtual 253, 3) := by decide +kernel
theorem dX11_layRehearsals_4 : decode cX11_layRehearsals 4 = .ok (.aload_n 0, 1) := by decide +kernel
theorem dX11_layRehearsals_5 : decode cX11_layRehearsals 5 = .ok (.getfield 247, 3) := by decide +kernel
theorem dX11_layRehearsals_8 : decode cX11_layRehearsals 8 = .ok (.istore_n 1, 1) := by decide +kernel
theorem dX11_layRehearsals_9 : decode cX11_layRehearsals 9 = .ok (.iload_n 1, 1) := by decide +kernel
theorem dX11_layRehearsals_10 : decode cX11_layRehearsals 10 = .ok (.ifCond .lt 155, 3) := by decide +kernel
theorem dX11_layRehearsals_13 : decode cX11_layRehearsals 13 = .ok (.iconst 0, 1) := by decide +kernel
theorem dX11_layRehearsals_14 : decode cX11_layRehearsals 14 = .ok (.istore_n 2, 1) := by decide +kernel
theorem dX11_layRehearsals_15 : decode cX11_layRehearsals 15 = .ok (.iload_n 2, 1) := by decide +kernel
theorem dX11_layRehearsals_16 : decode cX11_layRehearsals 16 = .ok (.bipush 100, 2) := by decide +kernel
theorem dX11_layRehearsals_18 : decode cX11_layRehearsals 18 = .ok (.if_icmp .ge 141, 3) := by decide +kernel
theorem dX11_layRehearsals_21 : decode cX11_layRehearsals 21 = .ok (.bipush 100, 2) := by decide +kernel
theorem dX11_layRehearsals_23 : decode cX11_layRehearsals 23 = .ok (.iload_n 1, 1) := by decide +kernel
theorem dX11_layRehearsals_24 : decode cX11_layRehearsals 24 = .ok (.imul, 1) := by decide +kernel
theorem dX11_layRehearsals_25 : decode cX11_layRehearsals 25 = .ok (.iload_n 2, 1) := by decide +kernel
theorem dX11_layRehearsals_26 : decode cX11_layRehearsals 26 = .ok (.iadd, 1) := by decide +kernel
theorem dX11_layRehearsals_27 : decode cX11_layRehearsals 27 = .ok (.istore_n 3, 1) := by decide +kernel
theorem dX11_layRehearsals_28 : decode cX11_layRehearsals 28 = .ok (.iload_n 3, 1) := by decide +kernel
theorem dX11_layRehearsals_29 : decode cX11_layRehearsals 29 = .ok (.bipush 100, 2) := by decide +kernel
theorem dX11_layRehearsals_31 : decode cX11_layRehearsals 31 = .ok (.iadd, 1) := by decide +kernel
theorem dX11_layRehearsals_32 : decode cX11_layRehearsals 32 = .ok (.istore 4, 2) := by decide +kernel
theorem dX11_layRehearsals_34 : decode cX11_layRehearsals 34 = .ok (.iload_n 1, 1) := by decide +kernel
theorem dX11_layRehearsals_35 : decode cX11_layRehearsals 35 = .ok (.aload_n 0, 1) := by decide +kernel
theorem dX11_layRehearsals_36 : decode cX11_layRehearsals 36 = .ok (.getfield 247, 3) := by decide +kernel
theorem dX11_layRehearsals_39 : decode cX11_layRehearsals 39 = .ok (.if_icmp .ne 20, 3) := by decide +kernel
theorem dX11_layRehearsals_42 : decode cX11_layRehearsals 42 = .ok (.aload_n 0, 1) := by decide +kernel
theorem dX11_layRehearsals_43 : decode cX11_layRehearsals 43 = .ok (.getfield 94, 3) := by decide +kernel
theorem dX11_layRehearsals_46 : decode cX11_layRehearsals 46 = .ok (.iload_n 3, 1) := by decide +kernel
theorem dX11_layRehearsals_47 : decode cX11_layRehearsals 47 = .ok (.iconst 0, 1) := by decide +kernel
theorem dX11_layRehearsals_48 : decode cX11_layRehearsals 48 = .ok (.iastore, 1) := by decide +kernel
theorem dX11_layRehearsals_49 : decode cX11_layRehearsals 49 = .ok (.aload_n 0, 1) := by decide +kernel
theorem dX11_layRehearsals_50 : decode cX11_layRehearsals 50 = .ok (.getfield 97, 3) := by decide +kernel
theorem dX11_layRehearsals_53 : decode cX11_layRehearsals 53 = .ok (.iload_n 3, 1) := by decide +kernel
theorem dX11_layRehearsals_54 : decode cX11_layRehearsals 54 = .ok (.iconst 0, 1) := by decide +kernel
theorem dX11_layRehearsals_55 : decode cX11_layRehearsals 55 = .ok (.iastore, 1) := by decide +kernel
theorem dX11_layRehearsals_56 : decode cX11_layRehearsals 56 = .ok (.goto 97, 3) := by decide +kernel
theorem dX11_layRehearsals_59 : decode cX11_layRehearsals 59 = .ok (.aload_n 0, 1) := by decide +kernel
theorem dX11_layRehearsals_60 : decode cX11_layRehearsals 60 = .ok (.iload_n 1, 1) := by decide +kernel
theorem dX11_layRehearsals_61 : decode cX11_layRehearsals 61 = .ok (.iload_n 2, 1) := by decide +kernel
theorem dX11_layRehearsals_62 : decode cX11_layRehearsals 62 = .ok (.invokevirtual 256, 3) := by decide +kernel
theorem dX11_layRehearsals_65 : decode cX11_layRehearsals 65 = .ok (.ifCond .eq 62, 3) := by decide +kernel
theorem dX11_layRehearsals_68 : decode cX11_layRehearsals 68 = .ok (.aload_n 0, 1) := by decide +kernel
theorem dX11_layRehearsals_69 : decode cX11_layRehearsals 69 = .ok (.aload_n 0, 1) := by decide +kernel
theorem dX11_layRehearsals_70 : decode cX11_layRehearsals 70 = .ok (.getfield 91, 3) := by decide +kernel
theorem dX11_layRehearsals_73 : decode cX11_layRehearsals 73 = .ok (.iload_n 1, 1) := by decide +kernel
theorem dX11_layRehearsals_74 : decode cX11_layRehearsals 74 = .ok (.iaload, 1) := by decide +kernel
theorem dX11_layRehearsals_75 : decode cX11_layRehearsals 75 = .ok (.bipush 8, 2) := by decide +kernel
theorem dX11_layRehearsals_77 : decode cX11_layRehearsals 77 = .ok (.irem, 1) := by decide +kernel
theorem dX11_layRehearsals_78 : decode cX11_layRehearsals 78 = .ok (.invokevirtual 244, 3) := by decide +kernel
theorem dX11_layRehearsals_81 : decode cX11_layRehearsals 81 = .ok (.istore 5, 2) := by decide +kernel
theorem dX11_layRehearsals_83 : decode cX11_layRehearsals 83 = .ok (.aload_n 0, 1) := by decide +kernel
theorem dX11_layRehearsals_84 : decode cX11_layRehearsals 84 = .ok (.getfield 94, 3) := by decide +kernel
theorem dX11_layRehearsals_87 : decode cX11_layRehearsals 87 = .ok (.iload_n 3, 1) := by decide +kernel
theorem dX11_layRehearsals_88 : decode cX11_layRehearsals 88 = .ok (.aload_n 0, 1) := by decide +kernel
theorem dX11_layRehearsals_89 : decode cX11_layRehearsals 89 = .ok (.iload_n 1, 1) := by decide +kernel
theorem dX11_layRehearsals_90 : decode cX11_layRehearsals 90 = .ok (.invokevirtual 250, 3) := by decide +kernel
theorem dX11_layRehearsals_93 : decode cX11_layRehearsals 93 = .ok (.aload_n 0, 1) := by decide +kernel
theorem dX11_layRehearsals_94 : decode cX11_layRehearsals 94 = .ok (.getfield 94, 3) := by decide +kernel
theorem dX11_layRehearsals_97 : decode cX11_layRehearsals 97 = .ok (.iload 4, 2) := by decide +kernel
theorem dX11_layRehearsals_99 : decode cX11_layRehearsals 99 = .ok (.iload 5, 2) := by decide +kernel
theorem dX11_layRehearsals_101 : decode cX11_layRehearsals 101 = .ok (.isub, 1) := by decide +kernel
theorem dX11_layRehearsals_102 : decode cX11_layRehearsals 102 = .ok (.iaload, 1) := by decide +kernel
theorem dX11_layRehearsals_103 : decode cX11_layRehearsals 103 = .ok (.iadd, 1) := by decide +kernel
theorem dX11_layRehearsals_104 : decode cX11_layRehearsals 104 = .ok (.iastore, 1) := by decide +kernel
theorem dX11_layRehearsals_105 : decode cX11_layRehearsals 105 = .ok (.aload_n 0, 1) := by decide +kernel
theorem dX11_layRehearsals_106 : decode cX11_layRehearsals 106 = .ok (.getfield 97, 3) := by decide +kernel
theorem dX11_layRehearsals_109 : decode cX11_layRehearsals 109 = .ok (.iload_n 3, 1) := by decide +kernel
theorem dX11_layRehearsals_110 : decode cX11_layRehearsals 110 = .ok (.iload 5, 2) := by decide +kernel
theorem dX11_layRehearsals_112 : decode cX11_layRehearsals 112 = .ok (.aload_n 0, 1) := by decide +kernel
theorem dX11_layRehearsals_113 : decode cX11_layRehearsals 113 = .ok (.getfield 97, 3) := by decide +kernel
theorem dX11_layRehearsals_116 : decode cX11_layRehearsals 116 = .ok (.iload 4, 2) := by decide +kernel
theorem dX11_layRehearsals_118 : decode cX11_layRehearsals 118 = .ok (.iload 5, 2) := by decide +kernel
theorem dX11_layRehearsals_120 : decode cX11_layRehearsals 120 = .ok (.isub, 1) := by decide +kernel
theorem dX11_layRehearsals_121 : decode cX11_layRehearsals 121 = .ok (.iaload, 1) := by decide +kernel
theorem dX11_layRehearsals_122 : decode cX11_layRehearsals 122 = .ok (.iadd, 1) := by decide +kernel
theorem dX11_layRehearsals_123 : decode cX11_layRehearsals 123 = .ok (.iastore, 1) := by decide +kernel
theorem dX11_layRehearsals_124 : decode cX11_layRehearsals 124 = .ok (.goto 29, 3) := by decide +kernel
theorem dX11_layRehearsals_127 : decode cX11_layRehearsals 127 = .ok (.aload_n 0, 1) := by decide +kernel
theorem dX11_layRehearsals_128 : decode cX11_layRehearsals 128 = .ok (.getfield 94, 3) := by decide +kernel
theorem dX11_layRehearsals_131 : decode cX11_layRehearsals 131 = .ok (.iload_n 3, 1) := by decide +kernel
theorem dX11_layRehearsals_132 : decode cX11_layRehearsals 132 = .ok (.aload_n 0, 1) := by decide +kernel
theorem dX11_layRehearsals_133 : decode cX11_layRehearsals 133 = .ok (.getfield 94, 3) := by decide +kernel
theorem dX11_layRehearsals_136 : decode cX11_layRehearsals 136 = .ok (.iload 4, 2) := by decide +kernel
theorem dX11_layRehearsals_138 : decode cX11_layRehearsals 138 = .ok (.iaload, 1) := by decide +kernel
theorem dX11_layRehearsals_139 : decode cX11_layRehearsals 139 = .ok (.iastore, 1) := by decide +kernel
theorem dX11_layRehearsals_140 : decode cX11_layRehearsals 140 = .ok (.aload_n 0, 1) := by decide +kernel
theorem dX11_layRehearsals_141 : decode cX11_layRehearsals 141 = .ok (.getfield 97, 3) := by decide +kernel
theorem dX11_layRehearsals_144 : decode cX11_layRehearsals 144 = .ok (.iload_n 3, 1) := by decide +kernel
theorem dX11_layRehearsals_145 : decode cX11_layRehearsals 145 = .ok (.aload_n 0, 1) := by decide +kernel
theorem dX11_layRehearsals_146 : decode cX11_layRehearsals 146 = .ok (.getfield 97, 3) := by decide +kernel
theorem dX11_layRehearsals_149 : decode cX11_layRehearsals 149 = .ok (.iload 4, 2) := by decide +kernel
theorem dX11_layRehearsals_151 : decode cX11_layRehearsals 151 = .ok (.iaload, 1) := by decide +kernel
theorem dX11_layRehearsals_152 : decode cX11_layRehearsals 152 = .ok (.iastore, 1) := by decide +kernel
theorem dX11_layRehearsals_153 : decode cX11_layRehearsals 153 = .ok (.iinc 2 1, 3) := by decide +kernel
theorem dX11_layRehearsals_156 : decode cX11_layRehearsals 156 = .ok (.goto (-141), 3) := by decide +kernel
theorem dX11_layRehearsals_159 : decode cX11_layRehearsals 159 = .ok (.iinc 1 (-1), 3) := by decide +kernel
theorem dX11_layRehearsals_162 : decode cX11_layRehearsals 162 = .ok (.goto (-153), 3) := by decide +kernel
theorem dX11_layRehearsals_165 : decode cX11_layRehearsals 165 = .ok (.return_, 1) := by decide +kernel
theorem dX11_rehearsals_0 : decode cX11_rehearsals 0 = .ok (.iload_n 1, 1) := by decide +kernel
theorem dX11_rehearsals_1 : decode cX11_rehearsals 1 = .ok (.i2l, 1) := by decide +kernel
theorem dX11_rehearsals_2 : decode cX11_rehearsals 2 = .ok (.lconst 0, 1) := by decide +kernel
theorem dX11_rehearsals_3 : decode cX11_rehearsals 3 = .ok (.ldc2_w 151, 3) := by decide +kernel
theorem dX11_rehearsals_6 : decode cX11_rehearsals 6 = .ok (.invokestatic 124, 3) := by decide +kernel
theorem dX11_rehearsals_9 : decode cX11_rehearsals 9 = .ok (.ifCond .eq 9, 3) := by decide +kernel
theorem dX11_rehearsals_12 : decode cX11_rehearsals 12 = .ok (.iload_n 2, 1) := by decide +kernel
theorem dX11_rehearsals_13 : decode cX11_rehearsals 13 = .ok (.bipush (-3), 2) := by decide +kernel
theorem dX11_rehearsals_15 : decode cX11_rehearsals 15 = .ok (.if_icmp .ge 5, 3) := by decide +kernel
theorem dX11_rehearsals_18 : decode cX11_rehearsals 18 = .ok (.iconst (-1), 1) := by decide +kernel
theorem dX11_rehearsals_19 : decode cX11_rehearsals 19 = .ok (.ireturn, 1) := by decide +kernel
theorem dX11_rehearsals_20 : decode cX11_rehearsals 20 = .ok (.aload_n 0, 1) := by decide +kernel
theorem dX11_rehearsals_21 : decode cX11_rehearsals 21 = .ok (.invokevirtual 259, 3) := by decide +kernel
theorem dX11_rehearsals_24 : decode cX11_rehearsals 24 = .ok (.iload_n 2, 1) := by decide +kernel
theorem dX11_rehearsals_25 : decode cX11_rehearsals 25 = .ok (.iconst (-1), 1) := by decide +kernel
theorem dX11_rehearsals_26 : decode cX11_rehearsals 26 = .ok (.if_icmp .ne 10, 3) := by decide +kernel
theorem dX11_rehearsals_29 : decode cX11_rehearsals 29 = .ok (.aload_n 0, 1) := by decide +kernel
theorem dX11_rehearsals_30 : decode cX11_rehearsals 30 = .ok (.getfield 94, 3) := by decide +kernel
theorem dX11_rehearsals_33 : decode cX11_rehearsals 33 = .ok (.iload_n 1, 1) := by decide +kernel
theorem dX11_rehearsals_34 : decode cX11_rehearsals 34 = .ok (.iaload, 1) := by decide +kernel
theorem dX11_rehearsals_35 : decode cX11_rehearsals 35 = .ok (.ireturn, 1) := by decide +kernel
theorem dX11_rehearsals_36 : decode cX11_rehearsals 36 = .ok (.iload_n 2, 1) := by decide +kernel
theorem dX11_rehearsals_37 : decode cX11_rehearsals 37 = .ok (.bipush (-2), 2) := by decide +kernel
theorem dX11_rehearsals_39 : decode cX11_rehearsals 39 = .ok (.if_icmp .ne 10, 3) := by decide +kernel
theorem dX11_rehearsals_42 : decode cX11_rehearsals 42 = .ok (.aload_n 0, 1) := by decide +kernel
theorem dX11_rehearsals_43 : decode cX11_rehearsals 43 = .ok (.getfield 97, 3) := by decide +kernel
theorem dX11_rehearsals_46 : decode cX11_rehearsals 46 = .ok (.iload_n 1, 1) := by decide +kernel
theorem dX11_rehearsals_47 : decode cX11_rehearsals 47 = .ok (.iaload, 1) := by decide +kernel
theorem dX11_rehearsals_48 : decode cX11_rehearsals 48 = .ok (.ireturn, 1) := by decide +kernel
theorem dX11_rehearsals_49 : decode cX11_rehearsals 49 = .ok (.iload_n 1, 1) := by decide +kernel
theorem dX11_rehearsals_50 : decode cX11_rehearsals 50 = .ok (.istore_n 3, 1) := by decide +kernel
theorem dX11_rehearsals_51 : decode cX11_rehearsals 51 = .ok (.iconst 0, 1) := by decide +kernel
theorem dX11_rehearsals_52 : decode cX11_rehearsals 52 = .ok (.istore 4, 2) := by decide +kernel
theorem dX11_rehearsals_54 : decode cX11_rehearsals 54 = .ok (.iconst 0, 1) := by decide +kernel
theorem dX11_rehearsals_55 : decode cX11_rehearsals 55 = .ok (.istore 5, 2) := by decide +kernel
theorem dX11_rehearsals_57 : decode cX11_rehearsals 57 = .ok (.iload 5, 2) := by decide +kernel
theorem dX11_rehearsals_59 : decode cX11_rehearsals 59 = .ok (.aload_n 0, 1) := by decide +kernel
theorem dX11_rehearsals_60 : decode cX11_rehearsals 60 = .ok (.getfield 247, 3) := by decide +kernel
theorem dX11_rehearsals_63 : decode cX11_rehearsals 63 = .ok (.if_icmp .ge 70, 3) := by decide +kernel
theorem dX11_rehearsals_66 : decode cX11_rehearsals 66 = .ok (.aload_n 0, 1) := by decide +kernel
theorem dX11_rehearsals_67 : decode cX11_rehearsals 67 = .ok (.iload 5, 2) := by decide +kernel
theorem dX11_rehearsals_69 : decode cX11_rehearsals 69 = .ok (.iload_n 3, 1) := by decide +kernel
theorem dX11_rehearsals_70 : decode cX11_rehearsals 70 = .ok (.invokevirtual 256, 3) := by decide +kernel
theorem dX11_rehearsals_73 : decode cX11_rehearsals 73 = .ok (.ifCond .eq 54, 3) := by decide +kernel
theorem dX11_rehearsals_76 : decode cX11_rehearsals 76 = .ok (.iload 4, 2) := by decide +kernel
theorem dX11_rehearsals_78 : decode cX11_rehearsals 78 = .ok (.iload_n 2, 1) := by decide +kernel
theorem dX11_rehearsals_79 : decode cX11_rehearsals 79 = .ok (.if_icmp .ne 28, 3) := by decide +kernel
theorem dX11_rehearsals_82 : decode cX11_rehearsals 82 = .ok (.bipush 10, 2) := by decide +kernel
theorem dX11_rehearsals_84 : decode cX11_rehearsals 84 = .ok (.aload_n 0, 1) := by decide +kernel
theorem dX11_rehearsals_85 : decode cX11_rehearsals 85 = .ok (.getfield 91, 3) := by decide +kernel
theorem dX11_rehearsals_88 : decode cX11_rehearsals 88 = .ok (.iload 5, 2) := by decide +kernel
theorem dX11_rehearsals_90 : decode cX11_rehearsals 90 = .ok (.iaload, 1) := by decide +kernel
theorem dX11_rehearsals_91 : decode cX11_rehearsals 91 = .ok (.bipush 8, 2) := by decide +kernel
theorem dX11_rehearsals_93 : decode cX11_rehearsals 93 = .ok (.idiv, 1) := by decide +kernel
theorem dX11_rehearsals_94 : decode cX11_rehearsals 94 = .ok (.imul, 1) := by decide +kernel
theorem dX11_rehearsals_95 : decode cX11_rehearsals 95 = .ok (.aload_n 0, 1) := by decide +kernel
theorem dX11_rehearsals_96 : decode cX11_rehearsals 96 = .ok (.getfield 91, 3) := by decide +kernel
theorem dX11_rehearsals_99 : decode cX11_rehearsals 99 = .ok (.iload 5, 2) := by decide +kernel
theorem dX11_rehearsals_101 : decode cX11_rehearsals 101 = .ok (.iaload, 1) := by decide +kernel
theorem dX11_rehearsals_102 : decode cX11_rehearsals 102 = .ok (.bipush 8, 2) := by decide +kernel
theorem dX11_rehearsals_104 : decode cX11_rehearsals 104 = .ok (.irem, 1) := by decide +kernel
theorem dX11_rehearsals_105 : decode cX11_rehearsals 105 = .ok (.iadd, 1) := by decide +kernel
theorem dX11_rehearsals_106 : decode cX11_rehearsals 106 = .ok (.ireturn, 1) := by decide +kernel
theorem dX11_rehearsals_107 : decode cX11_rehearsals 107 = .ok (.iinc 4 1, 3) := by decide +kernel
theorem dX11_rehearsals_110 : decode cX11_rehearsals 110 = .ok (.iload_n 3, 1) := by decide +kernel
theorem dX11_rehearsals_111 : decode cX11_rehearsals 111 = .ok (.aload_n 0, 1) := by decide +kernel
theorem dX11_rehearsals_112 : decode cX11_rehearsals 112 = .ok (.aload_n 0, 1) := by decide +kernel
theorem dX11_rehearsals_113 : decode cX11_rehearsals 113 = .ok (.getfield 91, 3) := by decide +kernel
theorem dX11_rehearsals_116 : decode cX11_rehearsals 116 = .ok (.iload 5, 2) := by decide +kernel
theorem dX11_rehearsals_118 : decode cX11_rehearsals 118 = .ok (.iaload, 1) := by decide +kernel
theorem dX11_rehearsals_119 : decode cX11_rehearsals 119 = .ok (.bipush 8, 2) := by decide +kernel
theorem dX11_rehearsals_121 : decode cX11_rehearsals 121 = .ok (.irem, 1) := by decide +kernel
theorem dX11_rehearsals_122 : decode cX11_rehearsals 122 = .ok (.invokevirtual 244, 3) := by decide +kernel
theorem dX11_rehearsals_125 : decode cX11_rehearsals 125 = .ok (.isub, 1) := by decide +kernel
theorem dX11_rehearsals_126 : decode cX11_rehearsals 126 = .ok (.istore_n 3, 1) := by decide +kernel
theorem dX11_rehearsals_127 : decode cX11_rehearsals 127 = .ok (.iinc 5 1, 3) := by decide +kernel
theorem dX11_rehearsals_130 : decode cX11_rehearsals 130 = .ok (.goto (-73), 3) := by decide +kernel
theorem dX11_rehearsals_133 : decode cX11_rehearsals 133 = .ok (.iload_n 2, 1) := by decide +kernel
theorem dX11_rehearsals_134 : decode cX11_rehearsals 134 = .ok (.bipush (-3), 2) := by decide +kernel
theorem dX11_rehearsals_136 : decode cX11_rehearsals 136 = .ok (.if_icmp .ne 8, 3) := by decide +kernel
theorem dX11_rehearsals_139 : decode cX11_rehearsals 139 = .ok (.iload 4, 2) := by decide +kernel
theorem dX11_rehearsals_141 : decode cX11_rehearsals 141 = .ok (.goto 5, 3) := by decide +kernel
theorem dX11_rehearsals_144 : decode cX11_rehearsals 144 = .ok (.bipush (-4), 2) := by decide +kernel
theorem dX11_rehearsals_146 : decode cX11_rehearsals 146 = .ok (.ireturn, 1) := by decide +kernel
theorem dX11_rest_0 : decode cX11_rest 0 = .ok (.iload_n 1, 1) := by decide +kernel
theorem dX11_rest_1 : decode cX11_rest 1 = .ok (.i2l, 1) := by decide +kernel
theorem dX11_rest_2 : decode cX11_rest 2 = .ok (.lconst 1, 1) := by decide +kernel
theorem dX11_rest_3 : decode cX11_rest 3 = .ok (.ldc2_w 151, 3) := by decide +kernel
theorem dX11_rest_6 : decode cX11_rest 6 = .ok (.invokestatic 124, 3) := by decide +kernel
theorem dX11_rest_9 : decode cX11_rest 9 = .ok (.ifCond .ne 5, 3) := by decide +kernel
theorem dX11_rest_12 : decode cX11_rest 12 = .ok (.iconst (-1), 1) := by decide +kernel
theorem dX11_rest_13 : decode cX11_rest 13 = .ok (.ireturn, 1) := by decide +kernel
theorem dX11_rest_14 : decode cX11_rest 14 = .ok (.aload_n 0, 1) := by decide +kernel
theorem dX11_rest_15 : decode cX11_rest 15 = .ok (.getfield 64, 3) := by decide +kernel
theorem dX11_rest_18 : decode cX11_rest 18 = .ok (.iconst 0, 1) := by decide +kernel
theorem dX11_rest_19 : decode cX11_rest 19 = .ok (.dup2, 1) := by decide +kernel
theorem dX11_rest_20 : decode cX11_rest 20 = .ok (.iaload, 1) := by decide +kernel
theorem dX11_rest_21 : decode cX11_rest 21 = .ok (.iload_n 1, 1) := by decide +kernel
theorem dX11_rest_22 : decode cX11_rest 22 = .ok (.iadd, 1) := by decide +kernel
theorem dX11_rest_23 : decode cX11_rest 23 = .ok (.iastore, 1) := by decide +kernel
theorem dX11_rest_24 : decode cX11_rest 24 = .ok (.aload_n 0, 1) := by decide +kernel
theorem dX11_rest_25 : decode cX11_rest 25 = .ok (.getfield 64, 3) := by decide +kernel
theorem dX11_rest_28 : decode cX11_rest 28 = .ok (.iconst 0, 1) := by decide +kernel
theorem dX11_rest_29 : decode cX11_rest 29 = .ok (.iaload, 1) := by decide +kernel
theorem dX11_rest_30 : decode cX11_rest 30 = .ok (.ireturn, 1) := by decide +kernel
theorem dX11_wellOf_0 : decode cX11_wellOf 0 = .ok (.ldc2_w 262, 3) := by decide +kernel
theorem dX11_wellOf_3 : decode cX11_wellOf 3 = .ok (.lstore_n 3, 1) := by decide +kernel
theorem dX11_wellOf_4 : decode cX11_wellOf 4 = .ok (.iconst 0, 1) := by decide +kernel
theorem dX11_wellOf_5 : decode cX11_wellOf 5 = .ok (.istore 5, 2) := by decide +kernel
theorem dX11_wellOf_7 : decode cX11_wellOf 7 = .ok (.iload 5, 2) := by decide +kernel
theorem dX11_wellOf_9 : decode cX11_wellOf 9 = .ok (.aload_n 0, 1) := by decide +kernel
theorem dX11_wellOf_10 : decode cX11_wellOf 10 = .ok (.getfield 13, 3) := by decide +kernel
theorem dX11_wellOf_13 : decode cX11_wellOf 13 = .ok (.iconst 0, 1) := by decide +kernel
theorem dX11_wellOf_14 : decode cX11_wellOf 14 = .ok (.iaload, 1) := by decide +kernel
theorem dX11_wellOf_15 : decode cX11_wellOf 15 = .ok (.if_icmp .ge 45, 3) := by decide +kernel
theorem dX11_wellOf_18 : decode cX11_wellOf 18 = .ok (.iload_n 2, 1) := by decide +kernel
theorem dX11_wellOf_19 : decode cX11_wellOf 19 = .ok (.iload 5, 2) := by decide +kernel
theorem dX11_wellOf_21 : decode cX11_wellOf 21 = .ok (.invokestatic 183, 3) := by decide +kernel
theorem dX11_wellOf_24 : decode cX11_wellOf 24 = .ok (.ifCond .eq 28, 3) := by decide +kernel
theorem dX11_wellOf_27 : decode cX11_wellOf 27 = .ok (.lload_n 3, 1) := by decide +kernel
theorem dX11_wellOf_28 : decode cX11_wellOf 28 = .ok (.bipush 100, 2) := by decide +kernel
theorem dX11_wellOf_30 : decode cX11_wellOf 30 = .ok (.aload_n 0, 1) := by decide +kernel
theorem dX11_wellOf_31 : decode cX11_wellOf 31 = .ok (.getfield 55, 3) := by decide +kernel
theorem dX11_wellOf_34 : decode cX11_wellOf 34 = .ok (.bipush 10, 2) := by decide +kernel
theorem dX11_wellOf_36 : decode cX11_wellOf 36 = .ok (.iload 5, 2) := by decide +kernel
theorem dX11_wellOf_38 : decode cX11_wellOf 38 = .ok (.imul, 1) := by decide +kernel
theorem dX11_wellOf_39 : decode cX11_wellOf 39 = .ok (.iload_n 1, 1) := by decide +kernel
theorem dX11_wellOf_40 : decode cX11_wellOf 40 = .ok (.iadd, 1) := by decide +kernel
theorem dX11_wellOf_41 : decode cX11_wellOf 41 = .ok (.iaload, 1) := by decide +kernel
theorem dX11_wellOf_42 : decode cX11_wellOf 42 = .ok (.isub, 1) := by decide +kernel
theorem dX11_wellOf_43 : decode cX11_wellOf 43 = .ok (.i2l, 1) := by decide +kernel
theorem dX11_wellOf_44 : decode cX11_wellOf 44 = .ok (.lmul, 1) := by decide +kernel
theorem dX11_wellOf_45 : decode cX11_wellOf 45 = .ok (.ldc2_w 264, 3) := by decide +kernel
theorem dX11_wellOf_48 : decode cX11_wellOf 48 = .ok (.ldiv, 1) := by decide +kernel
theorem dX11_wellOf_49 : decode cX11_wellOf 49 = .ok (.goto 4, 3) := by decide +kernel
theorem dX11_wellOf_52 : decode cX11_wellOf 52 = .ok (.lload_n 3, 1) := by decide +kernel
theorem dX11_wellOf_53 : decode cX11_wellOf 53 = .ok (.lstore_n 3, 1) := by decide +kernel
theorem dX11_wellOf_54 : decode cX11_wellOf 54 = .ok (.iinc 5 1, 3) := by decide +kernel
theorem dX11_wellOf_57 : decode cX11_wellOf 57 = .ok (.goto (-50), 3) := by decide +kernel
theorem dX11_wellOf_60 : decode cX11_wellOf 60 = .ok (.lload_n 3, 1) := by decide +kernel
theorem dX11_wellOf_61 : decode cX11_wellOf 61 = .ok (.lreturn, 1) := by decide +kernel
theorem dX11_partState_0 : decode cX11_partState 0 = .ok (.iconst 0, 1) := by decide +kernel
theorem dX11_partState_1 : decode cX11_partState 1 = .ok (.istore_n 3, 1) := by decide +kernel
theorem dX11_partState_2 : decode cX11_partState 2 = .ok (.iload_n 3, 1) := by decide +kernel
theorem dX11_partState_3 : decode cX11_partState 3 = .ok (.iload_n 2, 1) := by decide +kernel
theorem dX11_partState_4 : decode cX11_partState 4 = .ok (.if_icmp .gt 16, 3) := by decide +kernel
theorem dX11_partState_7 : decode cX11_partState 7 = .ok (.aload_n 0, 1) := by decide +kernel
theorem dX11_partState_8 : decode cX11_partState 8 = .ok (.getfield 106, 3) := by decide +kernel
theorem dX11_partState_11 : decode cX11_partState 11 = .ok (.iload_n 3, 1) := by decide +kernel
theorem dX11_partState_12 : decode cX11_partState 12 = .ok (.iconst 0, 1) := by decide +kernel
theorem dX11_partState_13 : decode cX11_partState 13 = .ok (.iastore, 1) := by decide +kernel
theorem dX11_partState_14 : decode cX11_partState 14 = .ok (.iinc 3 1, 3) := by decide +kernel
theorem dX11_partState_17 : decode cX11_partState 17 = .ok (.goto (-15), 3) := by decide +kernel
theorem dX11_partState_20 : decode cX11_partState 20 = .ok (.aload_n 0, 1) := by decide +kernel
theorem dX11_partState_21 : decode cX11_partState 21 = .ok (.getfield 106, 3) := by decide +kernel
theorem dX11_partState_24 : decode cX11_partState 24 = .ok (.iconst 0, 1) := by decide +kernel
theorem dX11_partState_25 : decode cX11_partState 25 = .ok (.aload_n 0, 1) := by decide +kernel
theorem dX11_partState_26 : decode cX11_partState 26 = .ok (.getfield 100, 3) := by decide +kernel
theorem dX11_partState_29 : decode cX11_partState 29 = .ok (.iload_n 1, 1) := by decide +kernel
theorem dX11_partState_30 : decode cX11_partState 30 = .ok (.iaload, 1) := by decide +kernel
theorem dX11_partState_31 : decode cX11_partState 31 = .ok (.iastore, 1) := by decide +kernel
theorem dX11_partState_32 : decode cX11_partState 32 = .ok (.iconst 0, 1) := by decide +kernel
theorem dX11_partState_33 : decode cX11_partState 33 = .ok (.istore_n 3, 1) := by decide +kernel
theorem dX11_partState_34 : decode cX11_partState 34 = .ok (.iload_n 3, 1) := by decide +kernel
theorem dX11_partState_35 : decode cX11_partState 35 = .ok (.aload_n 0, 1) := by decide +kernel
theorem dX11_partState_36 : decode cX11_partState 36 = .ok (.getfield 13, 3) := by decide +kernel
theorem dX11_partState_39 : decode cX11_partState 39 = .ok (.iconst 0, 1) := by decide +kernel
theorem dX11_partState_40 : decode cX11_partState 40 = .ok (.iaload, 1) := by decide +kernel
theorem dX11_partState_41 : decode cX11_partState 41 = .ok (.if_icmp .ge 90, 3) := by decide +kernel
theorem dX11_partState_44 : decode cX11_partState 44 = .ok (.iload_n 1, 1) := by decide +kernel
theorem dX11_partState_45 : decode cX11_partState 45 = .ok (.iload_n 3, 1) := by decide +kernel
theorem dX11_partState_46 : decode cX11_partState 46 = .ok (.invokestatic 183, 3) := by decide +kernel
theorem dX11_partState_49 : decode cX11_partState 49 = .ok (.ifCond .ne 76, 3) := by decide +kernel
theorem dX11_partState_52 : decode cX11_partState 52 = .ok (.aload_n 0, 1) := by decide +kernel
theorem dX11_partState_53 : decode cX11_partState 53 = .ok (.iload_n 3, 1) := by decide +kernel
theorem dX11_partState_54 : decode cX11_partState 54 = .ok (.iload_n 1, 1) := by decide +kernel
theorem dX11_partState_55 : decode cX11_partState 55 = .ok (.invokevirtual 266, 3) := by decide +kernel
theorem dX11_partState_58 : decode cX11_partState 58 = .ok (.lstore 4, 2) := by decide +kernel
theorem dX11_partState_60 : decode cX11_partState 60 = .ok (.iconst 0, 1) := by decide +kernel
theorem dX11_partState_61 : decode cX11_partState 61 = .ok (.istore 6, 2) := by decide +kernel
theorem dX11_partState_63 : decode cX11_partState 63 = .ok (.iload 6, 2) := by decide +kernel
theorem dX11_partState_65 : decode cX11_partState 65 = .ok (.iconst 1, 1) := by decide +kernel
theorem dX11_partState_66 : decode cX11_partState 66 = .ok (.iload_n 3, 1) := by decide +kernel
theorem dX11_partState_67 : decode cX11_partState 67 = .ok (.ishl, 1) := by decide +kernel
theorem dX11_partState_68 : decode cX11_partState 68 = .ok (.if_icmp .ge 57, 3) := by decide +kernel
theorem dX11_partState_71 : decode cX11_partState 71 = .ok (.aload_n 0, 1) := by decide +kernel
theorem dX11_partState_72 : decode cX11_partState 72 = .ok (.getfield 106, 3) := by decide +kernel
theorem dX11_partState_75 : decode cX11_partState 75 = .ok (.iload 6, 2) := by decide +kernel
theorem dX11_partState_77 : decode cX11_partState 77 = .ok (.iaload, 1) := by decide +kernel
theorem dX11_partState_78 : decode cX11_partState 78 = .ok (.i2l, 1) := by decide +kernel
theorem dX11_partState_79 : decode cX11_partState 79 = .ok (.lload 4, 2) := by decide +kernel
theorem dX11_partState_81 : decode cX11_partState 81 = .ok (.lmul, 1) := by decide +kernel
theorem dX11_partState_82 : decode cX11_partState 82 = .ok (.ldc2_w 262, 3) := by decide +kernel
theorem dX11_partState_85 : decode cX11_partState 85 = .ok (.ldiv, 1) := by decide +kernel
theorem dX11_partState_86 : decode cX11_partState 86 = .ok (.l2i, 1) := by decide +kernel
theorem dX11_partState_87 : decode cX11_partState 87 = .ok (.istore 7, 2) := by decide +kernel
theorem dX11_partState_89 : decode cX11_partState 89 = .ok (.aload_n 0, 1) := by decide +kernel
theorem dX11_partState_90 : decode cX11_partState 90 = .ok (.getfield 106, 3) := by decide +kernel
theorem dX11_partState_93 : decode cX11_partState 93 = .ok (.iload 6, 2) := by decide +kernel
theorem dX11_partState_95 : decode cX11_partState 95 = .ok (.iconst 1, 1) := by decide +kernel
theorem dX11_partState_96 : decode cX11_partState 96 = .ok (.iload_n 3, 1) := by decide +kernel
theorem dX11_partState_97 : decode cX11_partState 97 = .ok (.ishl, 1) := by decide +kernel
theorem dX11_partState_98 : decode cX11_partState 98 = .ok (.ior, 1) := by decide +kernel
theorem dX11_partState_99 : decode cX11_partState 99 = .ok (.aload_n 0, 1) := by decide +kernel
theorem dX11_partState_100 : decode cX11_partState 100 = .ok (.getfield 106, 3) := by decide +kernel
theorem dX11_partState_103 : decode cX11_partState 103 = .ok (.iload 6, 2) := by decide +kernel
theorem dX11_partState_105 : decode cX11_partState 105 = .ok (.iaload, 1) := by decide +kernel
theorem dX11_partState_106 : decode cX11_partState 106 = .ok (.iload 7, 2) := by decide +kernel
theorem dX11_partState_108 : decode cX11_partState 108 = .ok (.isub, 1) := by decide +kernel
theorem dX11_partState_109 : decode cX11_partState 109 = .ok (.iastore, 1) := by decide +kernel
theorem dX11_partState_110 : decode cX11_partState 110 = .ok (.aload_n 0, 1) := by decide +kernel
theorem dX11_partState_111 : decode cX11_partState 111 = .ok (.getfield 106, 3) := by decide +kernel
theorem dX11_partState_114 : decode cX11_partState 114 = .ok (.iload 6, 2) := by decide +kernel
theorem dX11_partState_116 : decode cX11_partState 116 = .ok (.iload 7, 2) := by decide +kernel
theorem dX11_partState_118 : decode cX11_partState 118 = .ok (.iastore, 1) := by decide +kernel
theorem dX11_partState_119 : decode cX11_partState 119 = .ok (.iinc 6 1, 3) := by decide +kernel
theorem dX11_partState_122 : decode cX11_partState 122 = .ok (.goto (-59), 3) := by decide +kernel
theorem dX11_partState_125 : decode cX11_partState 125 = .ok (.iinc 3 1, 3) := by decide +kernel
theorem dX11_partState_128 : decode cX11_partState 128 = .ok (.goto (-94), 3) := by decide +kernel
theorem dX11_partState_131 : decode cX11_partState 131 = .ok (.iconst 0, 1) := by decide +kernel
theorem dX11_partState_132 : decode cX11_partState 132 = .ok (.istore_n 3, 1) := by decide +kernel
theorem dX11_partState_133 : decode cX11_partState 133 = .ok (.iload_n 3, 1) := by decide +kernel
theorem dX11_partState_134 : decode cX11_partState 134 = .ok (.iload_n 2, 1) := by decide +kernel
theorem dX11_partState_135 : decode cX11_partState 135 = .ok (.if_icmp .gt 26, 3) := by decide +kernel
theorem dX11_partState_138 : decode cX11_partState 138 = .ok (.aload_n 0, 1) := by decide +kernel
theorem dX11_partState_139 : decode cX11_partState 139 = .ok (.getfield 103, 3) := by decide +kernel
theorem dX11_partState_142 : decode cX11_partState 142 = .ok (.iload_n 1, 1) := by decide +kernel
theorem dX11_partState_143 : decode cX11_partState 143 = .ok (.iload_n 3, 1) := by decide +kernel
theorem dX11_partState_144 : decode cX11_partState 144 = .ok (.ior, 1) := by decide +kernel
theorem dX11_partState_145 : decode cX11_partState 145 = .ok (.dup2, 1) := by decide +kernel
theorem dX11_partState_146 : decode cX11_partState 146 = .ok (.iaload, 1) := by decide +kernel
theorem dX11_partState_147 : decode cX11_partState 147 = .ok (.aload_n 0, 1) := by decide +kernel
theorem dX11_partState_148 : decode cX11_partState 148 = .ok (.getfield 106, 3) := by decide +kernel
theorem dX11_partState_151 : decode cX11_partState 151 = .ok (.iload_n 3, 1) := by decide +kernel
theorem dX11_partState_152 : decode cX11_partState 152 = .ok (.iaload, 1) := by decide +kernel
theorem dX11_partState_153 : decode cX11_partState 153 = .ok (.iadd, 1) := by decide +kernel
theorem dX11_partState_154 : decode cX11_partState 154 = .ok (.iastore, 1) := by decide +kernel
theorem dX11_partState_155 : decode cX11_partState 155 = .ok (.iinc 3 1, 3) := by decide +kernel
theorem dX11_partState_158 : decode cX11_partState 158 = .ok (.goto (-25), 3) := by decide +kernel
theorem dX11_partState_161 : decode cX11_partState 161 = .ok (.return_, 1) := by decide +kernel
theorem dX11_layCold_0 : decode cX11_layCold 0 = .ok (.iconst 1, 1) := by decide +kernel
theorem dX11_layCold_1 : decode cX11_layCold 1 = .ok (.aload_n 0, 1) := by decide +kernel
theorem dX11_layCold_2 : decode cX11_layCold 2 = .ok (.getfield 13, 3) := by decide +kernel
theorem dX11_layCold_5 : decode cX11_layCold 5 = .ok (.iconst 0, 1) := by decide +kernel
theorem dX11_layCold_6 : decode cX11_layCold 6 = .ok (.iaload, 1) := by decide +kernel
theorem dX11_layCold_7 : decode cX11_layCold 7 = .ok (.ishl, 1) := by decide +kernel
theorem dX11_layCold_8 : decode cX11_layCold 8 = .ok (.iconst 1, 1) := by decide +kernel
theorem dX11_layCold_9 : decode cX11_layCold 9 = .ok (.isub, 1) := by decide +kernel
theorem dX11_layCold_10 : decode cX11_layCold 10 = .ok (.istore_n 3, 1) := by decide +kernel
theorem dX11_layCold_11 : decode cX11_layCold 11 = .ok (.iconst 0, 1) := by decide +kernel
theorem dX11_layCold_12 : decode cX11_layCold 12 = .ok (.istore 4, 2) := by decide +kernel
theorem dX11_layCold_14 : decode cX11_layCold 14 = .ok (.iload 4, 2) := by decide +kernel
theorem dX11_layCold_16 : decode cX11_layCold 16 = .ok (.iload_n 3, 1) := by decide +kernel
theorem dX11_layCold_17 : decode cX11_layCold 17 = .ok (.if_icmp .gt 29, 3) := by decide +kernel
theorem dX11_layCold_20 : decode cX11_layCold 20 = .ok (.aload_n 0, 1) := by decide +kernel
theorem dX11_layCold_21 : decode cX11_layCold 21 = .ok (.getfield 100, 3) := by decide +kernel
theorem dX11_layCold_24 : decode cX11_layCold 24 = .ok (.iload 4, 2) := by decide +kernel
theorem dX11_layCold_26 : decode cX11_layCold 26 = .ok (.iload 4, 2) := by decide +kernel
theorem dX11_layCold_28 : decode cX11_layCold 28 = .ok (.iload_n 1, 1) := by decide +kernel
theorem dX11_layCold_29 : decode cX11_layCold 29 = .ok (.if_icmp .ne 9, 3) := by decide +kernel
theorem dX11_layCold_32 : decode cX11_layCold 32 = .ok (.ldc_w 270, 3) := by decide +kernel
theorem dX11_layCold_35 : decode cX11_layCold 35 = .ok (.goto 4, 3) := by decide +kernel
theorem dX11_layCold_38 : decode cX11_layCold 38 = .ok (.iconst 0, 1) := by decide +kernel
theorem dX11_layCold_39 : decode cX11_layCold 39 = .ok (.iastore, 1) := by decide +kernel
theorem dX11_layCold_40 : decode cX11_layCold 40 = .ok (.iinc 4 1, 3) := by decide +kernel
theorem dX11_layCold_43 : decode cX11_layCold 43 = .ok (.goto (-29), 3) := by decide +kernel
theorem dX11_layCold_46 : decode cX11_layCold 46 = .ok (.iconst 0, 1) := by decide +kernel
theorem dX11_layCold_47 : decode cX11_layCold 47 = .ok (.istore 4, 2) := by decide +kernel
theorem dX11_layCold_49 : decode cX11_layCold 49 = .ok (.iload 4, 2) := by decide +kernel
theorem dX11_layCold_51 : decode cX11_layCold 51 = .ok (.iload_n 2, 1) := by decide +kernel
theorem dX11_layCold_52 : decode cX11_layCold 52 = .ok (.if_icmp .ge 93, 3) := by decide +kernel
theorem dX11_layCold_55 : decode cX11_layCold 55 = .ok (.iconst 0, 1) := by decide +kernel
theorem dX11_layCold_56 : decode cX11_layCold 56 = .ok (.istore 5, 2) := by decide +kernel
theorem dX11_layCold_58 : decode cX11_layCold 58 = .ok (.iload 5, 2) := by decide +kernel
theorem dX11_layCold_60 : decode cX11_layCold 60 = .ok (.iload_n 3, 1) := by decide +kernel
theorem dX11_layCold_61 : decode cX11_layCold 61 = .ok (.if_icmp .gt 17, 3) := by decide +kernel
theorem dX11_layCold_64 : decode cX11_layCold 64 = .ok (.aload_n 0, 1) := by decide +kernel
theorem dX11_layCold_65 : decode cX11_layCold 65 = .ok (.getfield 103, 3) := by decide +kernel
theorem dX11_layCold_68 : decode cX11_layCold 68 = .ok (.iload 5, 2) := by decide +kernel
theorem dX11_layCold_70 : decode cX11_layCold 70 = .ok (.iconst 0, 1) := by decide +kernel
theorem dX11_layCold_71 : decode cX11_layCold 71 = .ok (.iastore, 1) := by decide +kernel
theorem dX11_layCold_72 : decode cX11_layCold 72 = .ok (.iinc 5 1, 3) := by decide +kernel
theorem dX11_layCold_75 : decode cX11_layCold 75 = .ok (.goto (-17), 3) := by decide +kernel
theorem dX11_layCold_78 : decode cX11_layCold 78 = .ok (.iconst 0, 1) := by decide +kernel
theorem dX11_layCold_79 : decode cX11_layCold 79 = .ok (.istore 5, 2) := by decide +kernel
theorem dX11_layCold_81 : decode cX11_layCold 81 = .ok (.iload 5, 2) := by decide +kernel
theorem dX11_layCold_83 : decode cX11_layCold 83 = .ok (.iload_n 3, 1) := by decide +kernel
theorem dX11_layCold_84 : decode cX11_layCold 84 = .ok (.if_icmp .gt 26, 3) := by decide +kernel
theorem dX11_layCold_87 : decode cX11_layCold 87 = .ok (.aload_n 0, 1) := by decide +kernel
theorem dX11_layCold_88 : decode cX11_layCold 88 = .ok (.getfield 100, 3) := by decide +kernel
theorem dX11_layCold_91 : decode cX11_layCold 91 = .ok (.iload 5, 2) := by decide +kernel
theorem dX11_layCold_93 : decode cX11_layCold 93 = .ok (.iaload, 1) := by decide +kernel
theorem dX11_layCold_94 : decode cX11_layCold 94 = .ok (.ifCond .le 10, 3) := by decide +kernel
theorem dX11_layCold_97 : decode cX11_layCold 97 = .ok (.aload_n 0, 1) := by decide +kernel
theorem dX11_layCold_98 : decode cX11_layCold 98 = .ok (.iload 5, 2) := by decide +kernel
theorem dX11_layCold_100 : decode cX11_layCold 100 = .ok (.iload_n 3, 1) := by decide +kernel
theorem dX11_layCold_101 : decode cX11_layCold 101 = .ok (.invokevirtual 271, 3) := by decide +kernel
theorem dX11_layCold_104 : decode cX11_layCold 104 = .ok (.iinc 5 1, 3) := by decide +kernel
theorem dX11_layCold_107 : decode cX11_layCold 107 = .ok (.goto (-26), 3) := by decide +kernel
theorem dX11_layCold_110 : decode cX11_layCold 110 = .ok (.iconst 0, 1) := by decide +kernel
theorem dX11_layCold_111 : decode cX11_layCold 111 = .ok (.istore 5, 2) := by decide +kernel
theorem dX11_layCold_113 : decode cX11_layCold 113 = .ok (.iload 5, 2) := by decide +kernel
theorem dX11_layCold_115 : decode cX11_layCold 115 = .ok (.iload_n 3, 1) := by decide +kernel
theorem dX11_layCold_116 : decode cX11_layCold 116 = .ok (.if_icmp .gt 23, 3) := by decide +kernel
theorem dX11_layCold_119 : decode cX11_layCold 119 = .ok (.aload_n 0, 1) := by decide +kernel
theorem dX11_layCold_120 : decode cX11_layCold 120 = .ok (.getfield 100, 3) := by decide +kernel
theorem dX11_layCold_123 : decode cX11_layCold 123 = .ok (.iload 5, 2) := by decide +kernel
theorem dX11_layCold_125 : decode cX11_layCold 125 = .ok (.aload_n 0, 1) := by decide +kernel
theorem dX11_layCold_126 : decode cX11_layCold 126 = .ok (.getfield 103, 3) := by decide +kernel
theorem dX11_layCold_129 : decode cX11_layCold 129 = .ok (.iload 5, 2) := by decide +kernel
theorem dX11_layCold_131 : decode cX11_layCold 131 = .ok (.iaload, 1) := by decide +kernel
theorem dX11_layCold_132 : decode cX11_layCold 132 = .ok (.iastore, 1) := by decide +kernel
theorem dX11_layCold_133 : decode cX11_layCold 133 = .ok (.iinc 5 1, 3) := by decide +kernel
theorem dX11_layCold_136 : decode cX11_layCold 136 = .ok (.goto (-23), 3) := by decide +kernel
theorem dX11_layCold_139 : decode cX11_layCold 139 = .ok (.iinc 4 1, 3) := by decide +kernel
theorem dX11_layCold_142 : decode cX11_layCold 142 = .ok (.goto (-93), 3) := by decide +kernel
theorem dX11_layCold_145 : decode cX11_layCold 145 = .ok (.return_, 1) := by decide +kernel
theorem dX11_cold_0 : decode cX11_cold 0 = .ok (.aload_n 0, 1) := by decide +kernel
theorem dX11_cold_1 : decode cX11_cold 1 = .ok (.iload_n 1, 1) := by decide +kernel
theorem dX11_cold_2 : decode cX11_cold 2 = .ok (.invokevirtual 229, 3) := by decide +kernel
theorem dX11_cold_5 : decode cX11_cold 5 = .ok (.ifCond .eq 41, 3) := by decide +kernel
theorem dX11_cold_8 : decode cX11_cold 8 = .ok (.iload_n 2, 1) := by decide +kernel
theorem dX11_cold_9 : decode cX11_cold 9 = .ok (.i2l, 1) := by decide +kernel
theorem dX11_cold_10 : decode cX11_cold 10 = .ok (.lconst 0, 1) := by decide +kernel
theorem dX11_cold_11 : decode cX11_cold 11 = .ok (.ldc2_w 275, 3) := by decide +kernel
theorem dX11_cold_14 : decode cX11_cold 14 = .ok (.invokestatic 124, 3) := by decide +kernel
theorem dX11_cold_17 : decode cX11_cold 17 = .ok (.ifCond .eq 29, 3) := by decide +kernel
theorem dX11_cold_20 : decode cX11_cold 20 = .ok (.iload_n 3, 1) := by decide +kernel
theorem dX11_cold_21 : decode cX11_cold 21 = .ok (.i2l, 1) := by decide +kernel
theorem dX11_cold_22 : decode cX11_cold 22 = .ok (.lconst 0, 1) := by decide +kernel
theorem dX11_cold_23 : decode cX11_cold 23 = .ok (.ldc2_w 277, 3) := by decide +kernel
theorem dX11_cold_26 : decode cX11_cold 26 = .ok (.invokestatic 124, 3) := by decide +kernel
theorem dX11_cold_29 : decode cX11_cold 29 = .ok (.ifCond .eq 17, 3) := by decide +kernel
theorem dX11_cold_32 : decode cX11_cold 32 = .ok (.iload_n 3, 1) := by decide +kernel
theorem dX11_cold_33 : decode cX11_cold 33 = .ok (.bipush 10, 2) := by decide +kernel
theorem dX11_cold_35 : decode cX11_cold 35 = .ok (.if_icmp .ge 13, 3) := by decide +kernel
theorem dX11_cold_38 : decode cX11_cold 38 = .ok (.aload_n 0, 1) := by decide +kernel
theorem dX11_cold_39 : decode cX11_cold 39 = .ok (.iload_n 3, 1) := by decide +kernel
theorem dX11_cold_40 : decode cX11_cold 40 = .ok (.invokevirtual 195, 3) := by decide +kernel
theorem dX11_cold_43 : decode cX11_cold 43 = .ok (.ifCond .ne 5, 3) := by decide +kernel
theorem dX11_cold_46 : decode cX11_cold 46 = .ok (.iconst (-1), 1) := by decide +kernel
theorem dX11_cold_47 : decode cX11_cold 47 = .ok (.ireturn, 1) := by decide +kernel
theorem dX11_cold_48 : decode cX11_cold 48 = .ok (.aload_n 0, 1) := by decide +kernel
theorem dX11_cold_49 : decode cX11_cold 49 = .ok (.iload_n 1, 1) := by decide +kernel
theorem dX11_cold_50 : decode cX11_cold 50 = .ok (.iload_n 2, 1) := by decide +kernel
theorem dX11_cold_51 : decode cX11_cold 51 = .ok (.invokevirtual 279, 3) := by decide +kernel
theorem dX11_cold_54 : decode cX11_cold 54 = .ok (.iconst 1, 1) := by decide +kernel
theorem dX11_cold_55 : decode cX11_cold 55 = .ok (.aload_n 0, 1) := by decide +kernel
theorem dX11_cold_56 : decode cX11_cold 56 = .ok (.getfield 13, 3) := by decide +kernel
theorem dX11_cold_59 : decode cX11_cold 59 = .ok (.iconst 0, 1) := by decide +kernel
theorem dX11_cold_60 : decode cX11_cold 60 = .ok (.iaload, 1) := by decide +kernel
theorem dX11_cold_61 : decode cX11_cold 61 = .ok (.ishl, 1) := by decide +kernel
theorem dX11_cold_62 : decode cX11_cold 62 = .ok (.iconst 1, 1) := by decide +kernel
theorem dX11_cold_63 : decode cX11_cold 63 = .ok (.isub, 1) := by decide +kernel
theorem dX11_cold_64 : decode cX11_cold 64 = .ok (.istore 4, 2) := by decide +kernel
theorem dX11_cold_66 : decode cX11_cold 66 = .ok (.iconst 0, 1) := by decide +kernel
theorem dX11_cold_67 : decode cX11_cold 67 = .ok (.istore 5, 2) := by decide +kernel
theorem dX11_cold_69 : decode cX11_cold 69 = .ok (.iconst 0, 1) := by decide +kernel
theorem dX11_cold_70 : decode cX11_cold 70 = .ok (.istore 6, 2) := by decide +kernel
theorem dX11_cold_72 : decode cX11_cold 72 = .ok (.iconst 0, 1) := by decide +kernel
theorem dX11_cold_73 : decode cX11_cold 73 = .ok (.istore 7, 2) := by decide +kernel
theorem dX11_cold_75 : decode cX11_cold 75 = .ok (.iload 7, 2) := by decide +kernel
theorem dX11_cold_77 : decode cX11_cold 77 = .ok (.iload 4, 2) := by decide +kernel
theorem dX11_cold_79 : decode cX11_cold 79 = .ok (.if_icmp .gt 105, 3) := by decide +kernel
theorem dX11_cold_82 : decode cX11_cold 82 = .ok (.iload_n 3, 1) := by decide +kernel
theorem dX11_cold_83 : decode cX11_cold 83 = .ok (.bipush 10, 2) := by decide +kernel
theorem dX11_cold_85 : decode cX11_cold 85 = .ok (.if_icmp .ge 12, 3) := by decide +kernel
theorem dX11_cold_88 : decode cX11_cold 88 = .ok (.iload 7, 2) := by decide +kernel
theorem dX11_cold_90 : decode cX11_cold 90 = .ok (.iload_n 3, 1) := by decide +kernel
theorem dX11_cold_91 : decode cX11_cold 91 = .ok (.invokestatic 183, 3) := by decide +kernel
theorem dX11_cold_94 : decode cX11_cold 94 = .ok (.goto 35, 3) := by decide +kernel
theorem dX11_cold_97 : decode cX11_cold 97 = .ok (.iload_n 3, 1) := by decide +kernel
theorem dX11_cold_98 : decode cX11_cold 98 = .ok (.bipush 10, 2) := by decide +kernel
theorem dX11_cold_100 : decode cX11_cold 100 = .ok (.if_icmp .ne 28, 3) := by decide +kernel
theorem dX11_cold_103 : decode cX11_cold 103 = .ok (.aload_n 0, 1) := by decide +kernel
theorem dX11_cold_104 : decode cX11_cold 104 = .ok (.getfield 100, 3) := by decide +kernel
theorem dX11_cold_107 : decode cX11_cold 107 = .ok (.iload 7, 2) := by decide +kernel
theorem dX11_cold_109 : decode cX11_cold 109 = .ok (.iaload, 1) := by decide +kernel
theorem dX11_cold_110 : decode cX11_cold 110 = .ok (.ifCond .le 18, 3) := by decide +kernel
theorem dX11_cold_113 : decode cX11_cold 113 = .ok (.aload_n 0, 1) := by decide +kernel
theorem dX11_cold_114 : decode cX11_cold 114 = .ok (.iload 7, 2) := by decide +kernel
theorem dX11_cold_116 : decode cX11_cold 116 = .ok (.iconst 0, 1) := by decide +kernel
theorem dX11_cold_117 : decode cX11_cold 117 = .ok (.iconst 0, 1) := by decide +kernel
theorem dX11_cold_118 : decode cX11_cold 118 = .ok (.invokevirtual 235, 3) := by decide +kernel
theorem dX11_cold_121 : decode cX11_cold 121 = .ok (.ifCond .eq 7, 3) := by decide +kernel
theorem dX11_cold_124 : decode cX11_cold 124 = .ok (.iconst 1, 1) := by decide +kernel
theorem dX11_cold_125 : decode cX11_cold 125 = .ok (.goto 4, 3) := by decide +kernel
theorem dX11_cold_128 : decode cX11_cold 128 = .ok (.iconst 0, 1) := by decide +kernel
theorem dX11_cold_129 : decode cX11_cold 129 = .ok (.istore 8, 2) := by decide +kernel
theorem dX11_cold_131 : decode cX11_cold 131 = .ok (.iload 5, 2) := by decide +kernel
theorem dX11_cold_133 : decode cX11_cold 133 = .ok (.iload 8, 2) := by decide +kernel
theorem dX11_cold_135 : decode cX11_cold 135 = .ok (.ifCond .eq 13, 3) := by decide +kernel
theorem dX11_cold_138 : decode cX11_cold 138 = .ok (.aload_n 0, 1) := by decide +kernel
theorem dX11_cold_139 : decode cX11_cold 139 = .ok (.getfield 100, 3) := by decide +kernel
theorem dX11_cold_142 : decode cX11_cold 142 = .ok (.iload 7, 2) := by decide +kernel
theorem dX11_cold_144 : decode cX11_cold 144 = .ok (.iaload, 1) := by decide +kernel
theorem dX11_cold_145 : decode cX11_cold 145 = .ok (.goto 4, 3) := by decide +kernel
theorem dX11_cold_148 : decode cX11_cold 148 = .ok (.iconst 0, 1) := by decide +kernel
theorem dX11_cold_149 : decode cX11_cold 149 = .ok (.iadd, 1) := by decide +kernel
theorem dX11_cold_150 : decode cX11_cold 150 = .ok (.istore 5, 2) := by decide +kernel
theorem dX11_cold_152 : decode cX11_cold 152 = .ok (.aload_n 0, 1) := by decide +kernel
theorem dX11_cold_153 : decode cX11_cold 153 = .ok (.getfield 100, 3) := by decide +kernel
theorem dX11_cold_156 : decode cX11_cold 156 = .ok (.iload 7, 2) := by decide +kernel
theorem dX11_cold_158 : decode cX11_cold 158 = .ok (.iaload, 1) := by decide +kernel
theorem dX11_cold_159 : decode cX11_cold 159 = .ok (.aload_n 0, 1) := by decide +kernel
theorem dX11_cold_160 : decode cX11_cold 160 = .ok (.getfield 100, 3) := by decide +kernel
theorem dX11_cold_163 : decode cX11_cold 163 = .ok (.iload 6, 2) := by decide +kernel
theorem dX11_cold_165 : decode cX11_cold 165 = .ok (.iaload, 1) := by decide +kernel
theorem dX11_cold_166 : decode cX11_cold 166 = .ok (.if_icmp .le 8, 3) := by decide +kernel
theorem dX11_cold_169 : decode cX11_cold 169 = .ok (.iload 7, 2) := by decide +kernel
theorem dX11_cold_171 : decode cX11_cold 171 = .ok (.goto 5, 3) := by decide +kernel
theorem dX11_cold_174 : decode cX11_cold 174 = .ok (.iload 6, 2) := by decide +kernel
theorem dX11_cold_176 : decode cX11_cold 176 = .ok (.istore 6, 2) := by decide +kernel
theorem dX11_cold_178 : decode cX11_cold 178 = .ok (.iinc 7 1, 3) := by decide +kernel
theorem dX11_cold_181 : decode cX11_cold 181 = .ok (.goto (-106), 3) := by decide +kernel
theorem dX11_cold_184 : decode cX11_cold 184 = .ok (.iload_n 3, 1) := by decide +kernel
theorem dX11_cold_185 : decode cX11_cold 185 = .ok (.bipush 11, 2) := by decide +kernel
theorem dX11_cold_187 : decode cX11_cold 187 = .ok (.if_icmp .ge 8, 3) := by decide +kernel
theorem dX11_cold_190 : decode cX11_cold 190 = .ok (.iload 5, 2) := by decide +kernel
theorem dX11_cold_192 : decode cX11_cold 192 = .ok (.goto 21, 3) := by decide +kernel
theorem dX11_cold_195 : decode cX11_cold 195 = .ok (.iload_n 3, 1) := by decide +kernel
theorem dX11_cold_196 : decode cX11_cold 196 = .ok (.bipush 11, 2) := by decide +kernel
theorem dX11_cold_198 : decode cX11_cold 198 = .ok (.if_icmp .ne 8, 3) := by decide +kernel
theorem dX11_cold_201 : decode cX11_cold 201 = .ok (.iload 6, 2) := by decide +kernel
theorem dX11_cold_203 : decode cX11_cold 203 = .ok (.goto 10, 3) := by decide +kernel
theorem dX11_cold_206 : decode cX11_cold 206 = .ok (.aload_n 0, 1) := by decide +kernel
theorem dX11_cold_207 : decode cX11_cold 207 = .ok (.getfield 100, 3) := by decide +kernel
theorem dX11_cold_210 : decode cX11_cold 210 = .ok (.iload 6, 2) := by decide +kernel
theorem dX11_cold_212 : decode cX11_cold 212 = .ok (.iaload, 1) := by decide +kernel
theorem dX11_cold_213 : decode cX11_cold 213 = .ok (.ireturn, 1) := by decide +kernel
theorem dX11_weakOf_0 : decode cX11_weakOf 0 = .ok (.iconst 0, 1) := by decide +kernel
theorem dX11_weakOf_1 : decode cX11_weakOf 1 = .ok (.istore_n 2, 1) := by decide +kernel
theorem dX11_weakOf_2 : decode cX11_weakOf 2 = .ok (.aload_n 0, 1) := by decide +kernel
theorem dX11_weakOf_3 : decode cX11_weakOf 3 = .ok (.bipush (-4), 2) := by decide +kernel
theorem dX11_weakOf_5 : decode cX11_weakOf 5 = .ok (.putfield 282, 3) := by decide +kernel
theorem dX11_weakOf_8 : decode cX11_weakOf 8 = .ok (.iconst 0, 1) := by decide +kernel
theorem dX11_weakOf_9 : decode cX11_weakOf 9 = .ok (.istore_n 3, 1) := by decide +kernel
theorem dX11_weakOf_10 : decode cX11_weakOf 10 = .ok (.iload_n 3, 1) := by decide +kernel
theorem dX11_weakOf_11 : decode cX11_weakOf 11 = .ok (.iconst 1, 1) := by decide +kernel
theorem dX11_weakOf_12 : decode cX11_weakOf 12 = .ok (.aload_n 0, 1) := by decide +kernel
theorem dX11_weakOf_13 : decode cX11_weakOf 13 = .ok (.getfield 13, 3) := by decide +kernel
theorem dX11_weakOf_16 : decode cX11_weakOf 16 = .ok (.iconst 0, 1) := by decide +kernel
theorem dX11_weakOf_17 : decode cX11_weakOf 17 = .ok (.iaload, 1) := by decide +kernel
theorem dX11_weakOf_18 : decode cX11_weakOf 18 = .ok (.ishl, 1) := by decide +kernel
theorem dX11_weakOf_19 : decode cX11_weakOf 19 = .ok (.if_icmp .ge 46, 3) := by decide +kernel
theorem dX11_weakOf_22 : decode cX11_weakOf 22 = .ok (.iload_n 3, 1) := by decide +kernel
theorem dX11_weakOf_23 : decode cX11_weakOf 23 = .ok (.invokestatic 285, 3) := by decide +kernel
theorem dX11_weakOf_26 : decode cX11_weakOf 26 = .ok (.iload_n 1, 1) := by decide +kernel
theorem dX11_weakOf_27 : decode cX11_weakOf 27 = .ok (.if_icmp .ne 32, 3) := by decide +kernel
theorem dX11_weakOf_30 : decode cX11_weakOf 30 = .ok (.aload_n 0, 1) := by decide +kernel
theorem dX11_weakOf_31 : decode cX11_weakOf 31 = .ok (.iload_n 3, 1) := by decide +kernel
theorem dX11_weakOf_32 : decode cX11_weakOf 32 = .ok (.iconst 0, 1) := by decide +kernel
theorem dX11_weakOf_33 : decode cX11_weakOf 33 = .ok (.iconst 0, 1) := by decide +kernel
theorem dX11_weakOf_34 : decode cX11_weakOf 34 = .ok (.invokevirtual 235, 3) := by decide +kernel
theorem dX11_weakOf_37 : decode cX11_weakOf 37 = .ok (.ifCond .ne 22, 3) := by decide +kernel
theorem dX11_weakOf_40 : decode cX11_weakOf 40 = .ok (.aload_n 0, 1) := by decide +kernel
theorem dX11_weakOf_41 : decode cX11_weakOf 41 = .ok (.iload_n 2, 1) := by decide +kernel
theorem dX11_weakOf_42 : decode cX11_weakOf 42 = .ok (.ifCond .ne 7, 3) := by decide +kernel
theorem dX11_weakOf_45 : decode cX11_weakOf 45 = .ok (.iload_n 3, 1) := by decide +kernel
theorem dX11_weakOf_46 : decode cX11_weakOf 46 = .ok (.goto 7, 3) := by decide +kernel
theorem dX11_weakOf_49 : decode cX11_weakOf 49 = .ok (.aload_n 0, 1) := by decide +kernel
theorem dX11_weakOf_50 : decode cX11_weakOf 50 = .ok (.getfield 282, 3) := by decide +kernel
theorem dX11_weakOf_53 : decode cX11_weakOf 53 = .ok (.putfield 282, 3) := by decide +kernel
theorem dX11_weakOf_56 : decode cX11_weakOf 56 = .ok (.iinc 2 1, 3) := by decide +kernel
theorem dX11_weakOf_59 : decode cX11_weakOf 59 = .ok (.iinc 3 1, 3) := by decide +kernel
theorem dX11_weakOf_62 : decode cX11_weakOf 62 = .ok (.goto (-52), 3) := by decide +kernel
theorem dX11_weakOf_65 : decode cX11_weakOf 65 = .ok (.iload_n 2, 1) := by decide +kernel
theorem dX11_weakOf_66 : decode cX11_weakOf 66 = .ok (.ireturn, 1) := by decide +kernel
theorem dX11_weak_0 : decode cX11_weak 0 = .ok (.iload_n 1, 1) := by decide +kernel
theorem dX11_weak_1 : decode cX11_weak 1 = .ok (.i2l, 1) := by decide +kernel
theorem dX11_weak_2 : decode cX11_weak 2 = .ok (.lconst 1, 1) := by decide +kernel
theorem dX11_weak_3 : decode cX11_weak 3 = .ok (.ldc2_w 288, 3) := by decide +kernel
theorem dX11_weak_6 : decode cX11_weak 6 = .ok (.invokestatic 124, 3) := by decide +kernel
theorem dX11_weak_9 : decode cX11_weak 9 = .ok (.ifCond .eq 13, 3) := by decide +kernel
theorem dX11_weak_12 : decode cX11_weak 12 = .ok (.iload_n 2, 1) := by decide +kernel
theorem dX11_weak_13 : decode cX11_weak 13 = .ok (.i2l, 1) := by decide +kernel
theorem dX11_weak_14 : decode cX11_weak 14 = .ok (.lconst 0, 1) := by decide +kernel
theorem dX11_weak_15 : decode cX11_weak 15 = .ok (.lconst 1, 1) := by decide +kernel
theorem dX11_weak_16 : decode cX11_weak 16 = .ok (.invokestatic 124, 3) := by decide +kernel
theorem dX11_weak_19 : decode cX11_weak 19 = .ok (.ifCond .ne 5, 3) := by decide +kernel
theorem dX11_weak_22 : decode cX11_weak 22 = .ok (.iconst (-1), 1) := by decide +kernel
theorem dX11_weak_23 : decode cX11_weak 23 = .ok (.ireturn, 1) := by decide +kernel
theorem dX11_weak_24 : decode cX11_weak 24 = .ok (.aload_n 0, 1) := by decide +kernel
theorem dX11_weak_25 : decode cX11_weak 25 = .ok (.iload_n 1, 1) := by decide +kernel
theorem dX11_weak_26 : decode cX11_weak 26 = .ok (.invokevirtual 290, 3) := by decide +kernel
theorem dX11_weak_29 : decode cX11_weak 29 = .ok (.istore_n 3, 1) := by decide +kernel
theorem dX11_weak_30 : decode cX11_weak 30 = .ok (.iload_n 2, 1) := by decide +kernel
theorem dX11_weak_31 : decode cX11_weak 31 = .ok (.ifCond .ne 7, 3) := by decide +kernel
theorem dX11_weak_34 : decode cX11_weak 34 = .ok (.iload_n 3, 1) := by decide +kernel
theorem dX11_weak_35 : decode cX11_weak 35 = .ok (.goto 7, 3) := by decide +kernel
theorem dX11_weak_38 : decode cX11_weak 38 = .ok (.aload_n 0, 1) := by decide +kernel
theorem dX11_weak_39 : decode cX11_weak 39 = .ok (.getfield 282, 3) := by decide +kernel
theorem dX11_weak_42 : decode cX11_weak 42 = .ok (.ireturn, 1) := by decide +kernel
theorem dX11_isCover_0 : decode cX11_isCover 0 = .ok (.aload_n 0, 1) := by decide +kernel
theorem dX11_isCover_1 : decode cX11_isCover 1 = .ok (.getfield 19, 3) := by decide +kernel
theorem dX11_isCover_4 : decode cX11_isCover 4 = .ok (.iload_n 1, 1) := by decide +kernel
theorem dX11_isCover_5 : decode cX11_isCover 5 = .ok (.iaload, 1) := by decide +kernel
theorem dX11_isCover_6 : decode cX11_isCover 6 = .ok (.aload_n 0, 1) := by decide +kernel
theorem dX11_isCover_7 : decode cX11_isCover 7 = .ok (.getfield 28, 3) := by decide +kernel
theorem dX11_isCover_10 : decode cX11_isCover 10 = .ok (.iload_n 2, 1) := by decide +kernel
theorem dX11_isCover_11 : decode cX11_isCover 11 = .ok (.iaload, 1) := by decide +kernel
theorem dX11_isCover_12 : decode cX11_isCover 12 = .ok (.iand, 1) := by decide +kernel
theorem dX11_isCover_13 : decode cX11_isCover 13 = .ok (.aload_n 0, 1) := by decide +kernel
theorem dX11_isCover_14 : decode cX11_isCover 14 = .ok (.getfield 28, 3) := by decide +kernel
theorem dX11_isCover_17 : decode cX11_isCover 17 = .ok (.iload_n 2, 1) := by decide +kernel
theorem dX11_isCover_18 : decode cX11_isCover 18 = .ok (.iaload, 1) := by decide +kernel
theorem dX11_isCover_19 : decode cX11_isCover 19 = .ok (.if_icmp .ne 30, 3) := by decide +kernel
theorem dX11_isCover_22 : decode cX11_isCover 22 = .ok (.aload_n 0, 1) := by decide +kernel
theorem dX11_isCover_23 : decode cX11_isCover 23 = .ok (.getfield 52, 3) := by decide +kernel
theorem dX11_isCover_26 : decode cX11_isCover 26 = .ok (.iload_n 1, 1) := by decide +kernel
theorem dX11_isCover_27 : decode cX11_isCover 27 = .ok (.iaload, 1) := by decide +kernel
theorem dX11_isCover_28 : decode cX11_isCover 28 = .ok (.iload_n 2, 1) := by decide +kernel
theorem dX11_isCover_29 : decode cX11_isCover 29 = .ok (.invokestatic 183, 3) := by decide +kernel
theorem dX11_isCover_32 : decode cX11_isCover 32 = .ok (.ifCond .ne 17, 3) := by decide +kernel
theorem dX11_isCover_35 : decode cX11_isCover 35 = .ok (.aload_n 0, 1) := by decide +kernel
theorem dX11_isCover_36 : decode cX11_isCover 36 = .ok (.getfield 37, 3) := by decide +kernel
theorem dX11_isCover_39 : decode cX11_isCover 39 = .ok (.iload_n 2, 1) := by decide +kernel
theorem dX11_isCover_40 : decode cX11_isCover 40 = .ok (.iaload, 1) := by decide +kernel
theorem dX11_isCover_41 : decode cX11_isCover 41 = .ok (.iload_n 1, 1) := by decide +kernel
theorem dX11_isCover_42 : decode cX11_isCover 42 = .ok (.if_icmp .eq 7, 3) := by decide +kernel
theorem dX11_isCover_45 : decode cX11_isCover 45 = .ok (.iconst 1, 1) := by decide +kernel
theorem dX11_isCover_46 : decode cX11_isCover 46 = .ok (.goto 4, 3) := by decide +kernel
theorem dX11_isCover_49 : decode cX11_isCover 49 = .ok (.iconst 0, 1) := by decide +kernel
theorem dX11_isCover_50 : decode cX11_isCover 50 = .ok (.ireturn, 1) := by decide +kernel
theorem dX11_setCover_0 : decode cX11_setCover 0 = .ok (.aload_n 0, 1) := by decide +kernel
theorem dX11_setCover_1 : decode cX11_setCover 1 = .ok (.getfield 52, 3) := by decide +kernel
theorem dX11_setCover_4 : decode cX11_setCover 4 = .ok (.iload_n 1, 1) := by decide +kernel
theorem dX11_setCover_5 : decode cX11_setCover 5 = .ok (.iload_n 3, 1) := by decide +kernel
theorem dX11_setCover_6 : decode cX11_setCover 6 = .ok (.ifCond .eq 16, 3) := by decide +kernel
theorem dX11_setCover_9 : decode cX11_setCover 9 = .ok (.aload_n 0, 1) := by decide +kernel
theorem dX11_setCover_10 : decode cX11_setCover 10 = .ok (.getfield 52, 3) := by decide +kernel
theorem dX11_setCover_13 : decode cX11_setCover 13 = .ok (.iload_n 1, 1) := by decide +kernel
theorem dX11_setCover_14 : decode cX11_setCover 14 = .ok (.iaload, 1) := by decide +kernel
theorem dX11_setCover_15 : decode cX11_setCover 15 = .ok (.iconst 1, 1) := by decide +kernel
theorem dX11_setCover_16 : decode cX11_setCover 16 = .ok (.iload_n 2, 1) := by decide +kernel
theorem dX11_setCover_17 : decode cX11_setCover 17 = .ok (.ishl, 1) := by decide +kernel
theorem dX11_setCover_18 : decode cX11_setCover 18 = .ok (.ior, 1) := by decide +kernel
theorem dX11_setCover_19 : decode cX11_setCover 19 = .ok (.goto 15, 3) := by decide +kernel
theorem dX11_setCover_22 : decode cX11_setCover 22 = .ok (.aload_n 0, 1) := by decide +kernel
theorem dX11_setCover_23 : decode cX11_setCover 23 = .ok (.getfield 52, 3) := by decide +kernel
theorem dX11_setCover_26 : decode cX11_setCover 26 = .ok (.iload_n 1, 1) := by decide +kernel
theorem dX11_setCover_27 : decode cX11_setCover 27 = .ok (.iaload, 1) := by decide +kernel
theorem dX11_setCover_28 : decode cX11_setCover 28 = .ok (.iconst 1, 1) := by decide +kernel
theorem dX11_setCover_29 : decode cX11_setCover 29 = .ok (.iload_n 2, 1) := by decide +kernel
theorem dX11_setCover_30 : decode cX11_setCover 30 = .ok (.ishl, 1) := by decide +kernel
theorem dX11_setCover_31 : decode cX11_setCover 31 = .ok (.iconst (-1), 1) := by decide +kernel
theorem dX11_setCover_32 : decode cX11_setCover 32 = .ok (.ixor, 1) := by decide +kernel
theorem dX11_setCover_33 : decode cX11_setCover 33 = .ok (.iand, 1) := by decide +kernel
theorem dX11_setCover_34 : decode cX11_setCover 34 = .ok (.iastore, 1) := by decide +kernel
theorem dX11_setCover_35 : decode cX11_setCover 35 = .ok (.aload_n 0, 1) := by decide +kernel
theorem dX11_setCover_36 : decode cX11_setCover 36 = .ok (.iload_n 1, 1) := by decide +kernel
theorem dX11_setCover_37 : decode cX11_setCover 37 = .ok (.invokevirtual 186, 3) := by decide +kernel
theorem dX11_setCover_40 : decode cX11_setCover 40 = .ok (.return_, 1) := by decide +kernel
theorem dX11_engaged_0 : decode cX11_engaged 0 = .ok (.iload_n 1, 1) := by decide +kernel
theorem dX11_engaged_1 : decode cX11_engaged 1 = .ok (.i2l, 1) := by decide +kernel
theorem dX11_engaged_2 : decode cX11_engaged 2 = .ok (.lconst 1, 1) := by decide +kernel
theorem dX11_engaged_3 : decode cX11_engaged 3 = .ok (.ldc2_w 288, 3) := by decide +kernel
theorem dX11_engaged_6 : decode cX11_engaged 6 = .ok (.invokestatic 124, 3) := by decide +kernel
theorem dX11_engaged_9 : decode cX11_engaged 9 = .ok (.ifCond .eq 13, 3) := by decide +kernel
theorem dX11_engaged_12 : decode cX11_engaged 12 = .ok (.iload_n 2, 1) := by decide +kernel
theorem dX11_engaged_13 : decode cX11_engaged 13 = .ok (.i2l, 1) := by decide +kernel
theorem dX11_engaged_14 : decode cX11_engaged 14 = .ok (.lconst 0, 1) := by decide +kernel
theorem dX11_engaged_15 : decode cX11_engaged 15 = .ok (.lconst 1, 1) := by decide +kernel
theorem dX11_engaged_16 : decode cX11_engaged 16 = .ok (.invokestatic 124, 3) := by decide +kernel
theorem dX11_engaged_19 : decode cX11_engaged 19 = .ok (.ifCond .ne 5, 3) := by decide +kernel
theorem dX11_engaged_22 : decode cX11_engaged 22 = .ok (.iconst (-1), 1) := by decide +kernel
theorem dX11_engaged_23 : decode cX11_engaged 23 = .ok (.ireturn, 1) := by decide +kernel
theorem dX11_engaged_24 : decode cX11_engaged 24 = .ok (.bipush (-4), 2) := by decide +kernel
theorem dX11_engaged_26 : decode cX11_engaged 26 = .ok (.istore_n 3, 1) := by decide +kernel
theorem dX11_engaged_27 : decode cX11_engaged 27 = .ok (.iconst 0, 1) := by decide +kernel
theorem dX11_engaged_28 : decode cX11_engaged 28 = .ok (.istore 4, 2) := by decide +kernel
theorem dX11_engaged_30 : decode cX11_engaged 30 = .ok (.iconst 0, 1) := by decide +kernel
theorem dX11_engaged_31 : decode cX11_engaged 31 = .ok (.istore 5, 2) := by decide +kernel
theorem dX11_engaged_33 : decode cX11_engaged 33 = .ok (.iload 5, 2) := by decide +kernel
theorem dX11_engaged_35 : decode cX11_engaged 35 = .ok (.aload_n 0, 1) := by decide +kernel
theorem dX11_engaged_36 : decode cX11_engaged 36 = .ok (.getfield 13, 3) := by decide +kernel
theorem dX11_engaged_39 : decode cX11_engaged 39 = .ok (.iconst 0, 1) := by decide +kernel
theorem dX11_engaged_40 : decode cX11_engaged 40 = .ok (.iaload, 1) := by decide +kernel
theorem dX11_engaged_41 : decode cX11_engaged 41 = .ok (.if_icmp .ge 89, 3) := by decide +kernel
theorem dX11_engaged_44 : decode cX11_engaged 44 = .ok (.iconst 0, 1) := by decide +kernel
theorem dX11_engaged_45 : decode cX11_engaged 45 = .ok (.istore 6, 2) := by decide +kernel
theorem dX11_engaged_47 : decode cX11_engaged 47 = .ok (.iload 6, 2) := by decide +kernel
theorem dX11_engaged_49 : decode cX11_engaged 49 = .ok (.aload_n 0, 1) := by decide +kernel
theorem dX11_engaged_50 : decode cX11_engaged 50 = .ok (.getfield 22, 3) := by decide +kernel
theorem dX11_engaged_53 : decode cX11_engaged 53 = .ok (.iconst 0, 1) := by decide +kernel
theorem dX11_engaged_54 : decode cX11_engaged 54 = .ok (.iaload, 1) := by decide +kernel
theorem dX11_engaged_55 : decode cX11_engaged 55 = .ok (.if_icmp .ge 69, 3) := by decide +kernel
theorem dX11_engaged_58 : decode cX11_engaged 58 = .ok (.aload_n 0, 1) := by decide +kernel
theorem dX11_engaged_59 : decode cX11_engaged 59 = .ok (.iload 5, 2) := by decide +kernel
theorem dX11_engaged_61 : decode cX11_engaged 61 = .ok (.iload 6, 2) := by decide +kernel
theorem dX11_engaged_63 : decode cX11_engaged 63 = .ok (.invokevirtual 293, 3) := by decide +kernel
theorem dX11_engaged_66 : decode cX11_engaged 66 = .ok (.ifCond .eq 52, 3) := by decide +kernel
theorem dX11_engaged_69 : decode cX11_engaged 69 = .ok (.aload_n 0, 1) := by decide +kernel
theorem dX11_engaged_70 : decode cX11_engaged 70 = .ok (.iload 5, 2) := by decide +kernel
theorem dX11_engaged_72 : decode cX11_engaged 72 = .ok (.iload 6, 2) := by decide +kernel
theorem dX11_engaged_74 : decode cX11_engaged 74 = .ok (.iconst 1, 1) := by decide +kernel
theorem dX11_engaged_75 : decode cX11_engaged 75 = .ok (.invokevirtual 296, 3) := by decide +kernel
theorem dX11_engaged_78 : decode cX11_engaged 78 = .ok (.aload_n 0, 1) := by decide +kernel
theorem dX11_engaged_79 : decode cX11_engaged 79 = .ok (.iload_n 1, 1) := by decide +kernel
theorem dX11_engaged_80 : decode cX11_engaged 80 = .ok (.invokevirtual 290, 3) := by decide +kernel
theorem dX11_engaged_83 : decode cX11_engaged 83 = .ok (.istore 7, 2) := by decide +kernel
theorem dX11_engaged_85 : decode cX11_engaged 85 = .ok (.aload_n 0, 1) := by decide +kernel
theorem dX11_engaged_86 : decode cX11_engaged 86 = .ok (.iload 5, 2) := by decide +kernel
theorem dX11_engaged_88 : decode cX11_engaged 88 = .ok (.iload 6, 2) := by decide +kernel
theorem dX11_engaged_90 : decode cX11_engaged 90 = .ok (.iconst 0, 1) := by decide +kernel
theorem dX11_engaged_91 : decode cX11_engaged 91 = .ok (.invokevirtual 296, 3) := by decide +kernel
theorem dX11_engaged_94 : decode cX11_engaged 94 = .ok (.iload_n 3, 1) := by decide +kernel
theorem dX11_engaged_95 : decode cX11_engaged 95 = .ok (.ifCond .lt 10, 3) := by decide +kernel
theorem dX11_engaged_98 : decode cX11_engaged 98 = .ok (.iload 7, 2) := by decide +kernel
theorem dX11_engaged_100 : decode cX11_engaged 100 = .ok (.iload 4, 2) := by decide +kernel
theorem dX11_engaged_102 : decode cX11_engaged 102 = .ok (.if_icmp .ge 16, 3) := by decide +kernel
theorem dX11_engaged_105 : decode cX11_engaged 105 = .ok (.bipush 10, 2) := by decide +kernel
theorem dX11_engaged_107 : decode cX11_engaged 107 = .ok (.iload 5, 2) := by decide +kernel
theorem dX11_engaged_109 : decode cX11_engaged 109 = .ok (.imul, 1) := by decide +kernel
theorem dX11_engaged_110 : decode cX11_engaged 110 = .ok (.iload 6, 2) := by decide +kernel
theorem dX11_engaged_112 : decode cX11_engaged 112 = .ok (.iadd, 1) := by decide +kernel
theorem dX11_engaged_113 : decode cX11_engaged 113 = .ok (.istore_n 3, 1) := by decide +kernel
theorem dX11_engaged_114 : decode cX11_engaged 114 = .ok (.iload 7, 2) := by decide +kernel
theorem dX11_engaged_116 : decode cX11_engaged 116 = .ok (.istore 4, 2) := by decide +kernel
theorem dX11_engaged_118 : decode cX11_engaged 118 = .ok (.iinc 6 1, 3) := by decide +kernel
theorem dX11_engaged_121 : decode cX11_engaged 121 = .ok (.goto (-74), 3) := by decide +kernel
theorem dX11_engaged_124 : decode cX11_engaged 124 = .ok (.iinc 5 1, 3) := by decide +kernel
theorem dX11_engaged_127 : decode cX11_engaged 127 = .ok (.goto (-94), 3) := by decide +kernel
theorem dX11_engaged_130 : decode cX11_engaged 130 = .ok (.iload_n 3, 1) := by decide +kernel
theorem dX11_engaged_131 : decode cX11_engaged 131 = .ok (.ifCond .ge 8, 3) := by decide +kernel
theorem dX11_engaged_134 : decode cX11_engaged 134 = .ok (.bipush (-4), 2) := by decide +kernel
theorem dX11_engaged_136 : decode cX11_engaged 136 = .ok (.goto 13, 3) := by decide +kernel
theorem dX11_engaged_139 : decode cX11_engaged 139 = .ok (.iload_n 2, 1) := by decide +kernel
theorem dX11_engaged_140 : decode cX11_engaged 140 = .ok (.ifCond .ne 7, 3) := by decide +kernel
theorem dX11_engaged_143 : decode cX11_engaged 143 = .ok (.iload_n 3, 1) := by decide +kernel
theorem dX11_engaged_144 : decode cX11_engaged 144 = .ok (.goto 5, 3) := by decide +kernel
theorem dX11_engaged_147 : decode cX11_engaged 147 = .ok (.iload 4, 2) := by decide +kernel
theorem dX11_engaged_149 : decode cX11_engaged 149 = .ok (.ireturn, 1) := by decide +kernel
theorem dX11_noneWeak_0 : decode cX11_noneWeak 0 = .ok (.iconst 1, 1) := by decide +kernel
theorem dX11_noneWeak_1 : decode cX11_noneWeak 1 = .ok (.istore_n 1, 1) := by decide +kernel
theorem dX11_noneWeak_2 : decode cX11_noneWeak 2 = .ok (.iconst 0, 1) := by decide +kernel
theorem dX11_noneWeak_3 : decode cX11_noneWeak 3 = .ok (.istore_n 2, 1) := by decide +kernel
theorem dX11_noneWeak_4 : decode cX11_noneWeak 4 = .ok (.iload_n 2, 1) := by decide +kernel
theorem dX11_noneWeak_5 : decode cX11_noneWeak 5 = .ok (.iconst 1, 1) := by decide +kernel
theorem dX11_noneWeak_6 : decode cX11_noneWeak 6 = .ok (.aload_n 0, 1) := by decide +kernel
theorem dX11_noneWeak_7 : decode cX11_noneWeak 7 = .ok (.getfield 13, 3) := by decide +kernel
theorem dX11_noneWeak_10 : decode cX11_noneWeak 10 = .ok (.iconst 0, 1) := by decide +kernel
theorem dX11_noneWeak_11 : decode cX11_noneWeak 11 = .ok (.iaload, 1) := by decide +kernel
theorem dX11_noneWeak_12 : decode cX11_noneWeak 12 = .ok (.ishl, 1) := by decide +kernel
theorem dX11_noneWeak_13 : decode cX11_noneWeak 13 = .ok (.if_icmp .ge 37, 3) := by decide +kernel
theorem dX11_noneWeak_16 : decode cX11_noneWeak 16 = .ok (.iload_n 1, 1) := by decide +kernel
theorem dX11_noneWeak_17 : decode cX11_noneWeak 17 = .ok (.ifCond .eq 33, 3) := by decide +kernel
theorem dX11_noneWeak_20 : decode cX11_noneWeak 20 = .ok (.iload_n 2, 1) := by decide +kernel
theorem dX11_noneWeak_21 : decode cX11_noneWeak 21 = .ok (.invokestatic 285, 3) := by decide +kernel
theorem dX11_noneWeak_24 : decode cX11_noneWeak 24 = .ok (.iconst 2, 1) := by decide +kernel
theorem dX11_noneWeak_25 : decode cX11_noneWeak 25 = .ok (.if_icmp .ne 13, 3) := by decide +kernel
theorem dX11_noneWeak_28 : decode cX11_noneWeak 28 = .ok (.aload_n 0, 1) := by decide +kernel
theorem dX11_noneWeak_29 : decode cX11_noneWeak 29 = .ok (.iload_n 2, 1) := by decide +kernel
theorem dX11_noneWeak_30 : decode cX11_noneWeak 30 = .ok (.iconst 0, 1) := by decide +kernel
theorem dX11_noneWeak_31 : decode cX11_noneWeak 31 = .ok (.iconst 0, 1) := by decide +kernel
theorem dX11_noneWeak_32 : decode cX11_noneWeak 32 = .ok (.invokevirtual 235, 3) := by decide +kernel
theorem dX11_noneWeak_35 : decode cX11_noneWeak 35 = .ok (.ifCond .eq 7, 3) := by decide +kernel
theorem dX11_noneWeak_38 : decode cX11_noneWeak 38 = .ok (.iconst 1, 1) := by decide +kernel
theorem dX11_noneWeak_39 : decode cX11_noneWeak 39 = .ok (.goto 4, 3) := by decide +kernel
theorem dX11_noneWeak_42 : decode cX11_noneWeak 42 = .ok (.iconst 0, 1) := by decide +kernel
theorem dX11_noneWeak_43 : decode cX11_noneWeak 43 = .ok (.istore_n 1, 1) := by decide +kernel
theorem dX11_noneWeak_44 : decode cX11_noneWeak 44 = .ok (.iinc 2 1, 3) := by decide +kernel
theorem dX11_noneWeak_47 : decode cX11_noneWeak 47 = .ok (.goto (-43), 3) := by decide +kernel
theorem dX11_noneWeak_50 : decode cX11_noneWeak 50 = .ok (.iload_n 1, 1) := by decide +kernel
theorem dX11_noneWeak_51 : decode cX11_noneWeak 51 = .ok (.ireturn, 1) := by decide +kernel
theorem dX11_fewest_0 : decode cX11_fewest 0 = .ok (.aload_n 0, 1) := by decide +kernel
theorem dX11_fewest_1 : decode cX11_fewest 1 = .ok (.invokevirtual 300, 3) := by decide +kernel
theorem dX11_fewest_4 : decode cX11_fewest 4 = .ok (.ifCond .eq 5, 3) := by decide +kernel
theorem dX11_fewest_7 : decode cX11_fewest 7 = .ok (.iconst 0, 1) := by decide +kernel
theorem dX11_fewest_8 : decode cX11_fewest 8 = .ok (.ireturn, 1) := by decide +kernel
theorem dX11_fewest_9 : decode cX11_fewest 9 = .ok (.iconst 0, 1) := by decide +kernel
theorem dX11_fewest_10 : decode cX11_fewest 10 = .ok (.istore_n 1, 1) := by decide +kernel
theorem dX11_fewest_11 : decode cX11_fewest 11 = .ok (.iconst 0, 1) := by decide +kernel
theorem dX11_fewest_12 : decode cX11_fewest 12 = .ok (.istore_n 2, 1) := by decide +kernel
theorem dX11_fewest_13 : decode cX11_fewest 13 = .ok (.iconst 0, 1) := by decide +kernel
theorem dX11_fewest_14 : decode cX11_fewest 14 = .ok (.istore_n 3, 1) := by decide +kernel
theorem dX11_fewest_15 : decode cX11_fewest 15 = .ok (.iload_n 3, 1) := by decide +kernel
theorem dX11_fewest_16 : decode cX11_fewest 16 = .ok (.bipush 80, 2) := by decide +kernel
theorem dX11_fewest_18 : decode cX11_fewest 18 = .ok (.if_icmp .ge 183, 3) := by decide +kernel
theorem dX11_fewest_21 : decode cX11_fewest 21 = .ok (.iload_n 1, 1) := by decide +kernel
theorem dX11_fewest_22 : decode cX11_fewest 22 = .ok (.ifCond .ne 179, 3) := by decide +kernel
theorem dX11_fewest_25 : decode cX11_fewest 25 = .ok (.aload_n 0, 1) := by decide +kernel
theorem dX11_fewest_26 : decode cX11_fewest 26 = .ok (.iload_n 3, 1) := by decide +kernel
theorem dX11_fewest_27 : decode cX11_fewest 27 = .ok (.bipush 8, 2) := by decide +kernel
theorem dX11_fewest_29 : decode cX11_fewest 29 = .ok (.idiv, 1) := by decide +kernel
theorem dX11_fewest_30 : decode cX11_fewest 30 = .ok (.invokevirtual 195, 3) := by decide +kernel
theorem dX11_fewest_33 : decode cX11_fewest 33 = .ok (.ifCond .eq 162, 3) := by decide +kernel
theorem dX11_fewest_36 : decode cX11_fewest 36 = .ok (.aload_n 0, 1) := by decide +kernel
theorem dX11_fewest_37 : decode cX11_fewest 37 = .ok (.iload_n 3, 1) := by decide +kernel
theorem dX11_fewest_38 : decode cX11_fewest 38 = .ok (.bipush 8, 2) := by decide +kernel
theorem dX11_fewest_40 : decode cX11_fewest 40 = .ok (.irem, 1) := by decide +kernel
theorem dX11_fewest_41 : decode cX11_fewest 41 = .ok (.invokevirtual 200, 3) := by decide +kernel
theorem dX11_fewest_44 : decode cX11_fewest 44 = .ok (.ifCond .eq 151, 3) := by decide +kernel
theorem dX11_fewest_47 : decode cX11_fewest 47 = .ok (.aload_n 0, 1) := by decide +kernel
theorem dX11_fewest_48 : decode cX11_fewest 48 = .ok (.iload_n 3, 1) := by decide +kernel
theorem dX11_fewest_49 : decode cX11_fewest 49 = .ok (.bipush 8, 2) := by decide +kernel
theorem dX11_fewest_51 : decode cX11_fewest 51 = .ok (.idiv, 1) := by decide +kernel
theorem dX11_fewest_52 : decode cX11_fewest 52 = .ok (.iload_n 3, 1) := by decide +kernel
theorem dX11_fewest_53 : decode cX11_fewest 53 = .ok (.bipush 8, 2) := by decide +kernel
theorem dX11_fewest_55 : decode cX11_fewest 55 = .ok (.irem, 1) := by decide +kernel
theorem dX11_fewest_56 : decode cX11_fewest 56 = .ok (.invokevirtual 293, 3) := by decide +kernel
theorem dX11_fewest_59 : decode cX11_fewest 59 = .ok (.ifCond .eq 136, 3) := by decide +kernel
theorem dX11_fewest_62 : decode cX11_fewest 62 = .ok (.aload_n 0, 1) := by decide +kernel
theorem dX11_fewest_63 : decode cX11_fewest 63 = .ok (.iload_n 3, 1) := by decide +kernel
theorem dX11_fewest_64 : decode cX11_fewest 64 = .ok (.bipush 8, 2) := by decide +kernel
theorem dX11_fewest_66 : decode cX11_fewest 66 = .ok (.idiv, 1) := by decide +kernel
theorem dX11_fewest_67 : decode cX11_fewest 67 = .ok (.iload_n 3, 1) := by decide +kernel
theorem dX11_fewest_68 : decode cX11_fewest 68 = .ok (.bipush 8, 2) := by decide +kernel
theorem dX11_fewest_70 : decode cX11_fewest 70 = .ok (.irem, 1) := by decide +kernel
theorem dX11_fewest_71 : decode cX11_fewest 71 = .ok (.iconst 1, 1) := by decide +kernel
theorem dX11_fewest_72 : decode cX11_fewest 72 = .ok (.invokevirtual 296, 3) := by decide +kernel
theorem dX11_fewest_75 : decode cX11_fewest 75 = .ok (.aload_n 0, 1) := by decide +kernel
theorem dX11_fewest_76 : decode cX11_fewest 76 = .ok (.invokevirtual 300, 3) := by decide +kernel
theorem dX11_fewest_79 : decode cX11_fewest 79 = .ok (.istore_n 1, 1) := by decide +kernel
theorem dX11_fewest_80 : decode cX11_fewest 80 = .ok (.iload_n 3, 1) := by decide +kernel
theorem dX11_fewest_81 : decode cX11_fewest 81 = .ok (.iconst 1, 1) := by decide +kernel
theorem dX11_fewest_82 : decode cX11_fewest 82 = .ok (.iadd, 1) := by decide +kernel
theorem dX11_fewest_83 : decode cX11_fewest 83 = .ok (.istore 4, 2) := by decide +kernel
theorem dX11_fewest_85 : decode cX11_fewest 85 = .ok (.iload 4, 2) := by decide +kernel
theorem dX11_fewest_87 : decode cX11_fewest 87 = .ok (.bipush 80, 2) := by decide +kernel
theorem dX11_fewest_89 : decode cX11_fewest 89 = .ok (.if_icmp .ge 93, 3) := by decide +kernel
theorem dX11_fewest_92 : decode cX11_fewest 92 = .ok (.iload_n 1, 1) := by decide +kernel
theorem dX11_fewest_93 : decode cX11_fewest 93 = .ok (.ifCond .ne 89, 3) := by decide +kernel
theorem dX11_fewest_96 : decode cX11_fewest 96 = .ok (.iload_n 2, 1) := by decide +kernel
theorem dX11_fewest_97 : decode cX11_fewest 97 = .ok (.ifCond .ne 85, 3) := by decide +kernel
theorem dX11_fewest_100 : decode cX11_fewest 100 = .ok (.aload_n 0, 1) := by decide +kernel
theorem dX11_fewest_101 : decode cX11_fewest 101 = .ok (.iload 4, 2) := by decide +kernel
theorem dX11_fewest_103 : decode cX11_fewest 103 = .ok (.bipush 8, 2) := by decide +kernel
theorem dX11_fewest_105 : decode cX11_fewest 105 = .ok (.idiv, 1) := by decide +kernel
theorem dX11_fewest_106 : decode cX11_fewest 106 = .ok (.invokevirtual 195, 3) := by decide +kernel
theorem dX11_fewest_109 : decode cX11_fewest 109 = .ok (.ifCond .eq 67, 3) := by decide +kernel
theorem dX11_fewest_112 : decode cX11_fewest 112 = .ok (.aload_n 0, 1) := by decide +kernel
theorem dX11_fewest_113 : decode cX11_fewest 113 = .ok (.iload 4, 2) := by decide +kernel
theorem dX11_fewest_115 : decode cX11_fewest 115 = .ok (.bipush 8, 2) := by decide +kernel
theorem dX11_fewest_117 : decode cX11_fewest 117 = .ok (.irem, 1) := by decide +kernel
theorem dX11_fewest_118 : decode cX11_fewest 118 = .ok (.invokevirtual 200, 3) := by decide +kernel
theorem dX11_fewest_121 : decode cX11_fewest 121 = .ok (.ifCond .eq 55, 3) := by decide +kernel
theorem dX11_fewest_124 : decode cX11_fewest 124 = .ok (.aload_n 0, 1) := by decide +kernel
theorem dX11_fewest_125 : decode cX11_fewest 125 = .ok (.iload 4, 2) := by decide +kernel
theorem dX11_fewest_127 : decode cX11_fewest 127 = .ok (.bipush 8, 2) := by decide +kernel
theorem dX11_fewest_129 : decode cX11_fewest 129 = .ok (.idiv, 1) := by decide +kernel
theorem dX11_fewest_130 : decode cX11_fewest 130 = .ok (.iload 4, 2) := by decide +kernel
theorem dX11_fewest_132 : decode cX11_fewest 132 = .ok (.bipush 8, 2) := by decide +kernel
theorem dX11_fewest_134 : decode cX11_fewest 134 = .ok (.irem, 1) := by decide +kernel
theorem dX11_fewest_135 : decode cX11_fewest 135 = .ok (.invokevirtual 293, 3) := by decide +kernel
theorem dX11_fewest_138 : decode cX11_fewest 138 = .ok (.ifCond .eq 38, 3) := by decide +kernel
theorem dX11_fewest_141 : decode cX11_fewest 141 = .ok (.aload_n 0, 1) := by decide +kernel
theorem dX11_fewest_142 : decode cX11_fewest 142 = .ok (.iload 4, 2) := by decide +kernel
theorem dX11_fewest_144 : decode cX11_fewest 144 = .ok (.bipush 8, 2) := by decide +kernel
theorem dX11_fewest_146 : decode cX11_fewest 146 = .ok (.idiv, 1) := by decide +kernel
theorem dX11_fewest_147 : decode cX11_fewest 147 = .ok (.iload 4, 2) := by decide +kernel
theorem dX11_fewest_149 : decode cX11_fewest 149 = .ok (.bipush 8, 2) := by decide +kernel
theorem dX11_fewest_151 : decode cX11_fewest 151 = .ok (.irem, 1) := by decide +kernel
theorem dX11_fewest_152 : decode cX11_fewest 152 = .ok (.iconst 1, 1) := by decide +kernel
theorem dX11_fewest_153 : decode cX11_fewest 153 = .ok (.invokevirtual 296, 3) := by decide +kernel
theorem dX11_fewest_156 : decode cX11_fewest 156 = .ok (.aload_n 0, 1) := by decide +kernel
theorem dX11_fewest_157 : decode cX11_fewest 157 = .ok (.invokevirtual 300, 3) := by decide +kernel
theorem dX11_fewest_160 : decode cX11_fewest 160 = .ok (.istore_n 2, 1) := by decide +kernel
theorem dX11_fewest_161 : decode cX11_fewest 161 = .ok (.aload_n 0, 1) := by decide +kernel
theorem dX11_fewest_162 : decode cX11_fewest 162 = .ok (.iload 4, 2) := by decide +kernel
theorem dX11_fewest_164 : decode cX11_fewest 164 = .ok (.bipush 8, 2) := by decide +kernel
theorem dX11_fewest_166 : decode cX11_fewest 166 = .ok (.idiv, 1) := by decide +kernel
theorem dX11_fewest_167 : decode cX11_fewest 167 = .ok (.iload 4, 2) := by decide +kernel
theorem dX11_fewest_169 : decode cX11_fewest 169 = .ok (.bipush 8, 2) := by decide +kernel
theorem dX11_fewest_171 : decode cX11_fewest 171 = .ok (.irem, 1) := by decide +kernel
theorem dX11_fewest_172 : decode cX11_fewest 172 = .ok (.iconst 0, 1) := by decide +kernel
theorem dX11_fewest_173 : decode cX11_fewest 173 = .ok (.invokevirtual 296, 3) := by decide +kernel
theorem dX11_fewest_176 : decode cX11_fewest 176 = .ok (.iinc 4 1, 3) := by decide +kernel
theorem dX11_fewest_179 : decode cX11_fewest 179 = .ok (.goto (-94), 3) := by decide +kernel
theorem dX11_fewest_182 : decode cX11_fewest 182 = .ok (.aload_n 0, 1) := by decide +kernel
theorem dX11_fewest_183 : decode cX11_fewest 183 = .ok (.iload_n 3, 1) := by decide +kernel
theorem dX11_fewest_184 : decode cX11_fewest 184 = .ok (.bipush 8, 2) := by decide +kernel
theorem dX11_fewest_186 : decode cX11_fewest 186 = .ok (.idiv, 1) := by decide +kernel
theorem dX11_fewest_187 : decode cX11_fewest 187 = .ok (.iload_n 3, 1) := by decide +kernel
theorem dX11_fewest_188 : decode cX11_fewest 188 = .ok (.bipush 8, 2) := by decide +kernel
theorem dX11_fewest_190 : decode cX11_fewest 190 = .ok (.irem, 1) := by decide +kernel
theorem dX11_fewest_191 : decode cX11_fewest 191 = .ok (.iconst 0, 1) := by decide +kernel
theorem dX11_fewest_192 : decode cX11_fewest 192 = .ok (.invokevirtual 296, 3) := by decide +kernel
theorem dX11_fewest_195 : decode cX11_fewest 195 = .ok (.iinc 3 1, 3) := by decide +kernel
theorem dX11_fewest_198 : decode cX11_fewest 198 = .ok (.goto (-183), 3) := by decide +kernel
theorem dX11_fewest_201 : decode cX11_fewest 201 = .ok (.iload_n 1, 1) := by decide +kernel
theorem dX11_fewest_202 : decode cX11_fewest 202 = .ok (.ifCond .eq 7, 3) := by decide +kernel
theorem dX11_fewest_205 : decode cX11_fewest 205 = .ok (.iconst 1, 1) := by decide +kernel
theorem dX11_fewest_206 : decode cX11_fewest 206 = .ok (.goto 13, 3) := by decide +kernel
theorem dX11_fewest_209 : decode cX11_fewest 209 = .ok (.iload_n 2, 1) := by decide +kernel
theorem dX11_fewest_210 : decode cX11_fewest 210 = .ok (.ifCond .eq 7, 3) := by decide +kernel
theorem dX11_fewest_213 : decode cX11_fewest 213 = .ok (.iconst 2, 1) := by decide +kernel
theorem dX11_fewest_214 : decode cX11_fewest 214 = .ok (.goto 5, 3) := by decide +kernel
theorem dX11_fewest_217 : decode cX11_fewest 217 = .ok (.bipush (-4), 2) := by decide +kernel
theorem dX11_fewest_219 : decode cX11_fewest 219 = .ok (.ireturn, 1) := by decide +kernel
theorem dX11_play_0 : decode cX11_play 0 = .ok (.aload_n 0, 1) := by decide +kernel
theorem dX11_play_1 : decode cX11_play 1 = .ok (.iload_n 1, 1) := by decide +kernel
theorem dX11_play_2 : decode cX11_play 2 = .ok (.iconst 0, 1) := by decide +kernel
theorem dX11_play_3 : decode cX11_play 3 = .ok (.iconst 1, 1) := by decide +kernel
theorem dX11_play_4 : decode cX11_play 4 = .ok (.invokevirtual 235, 3) := by decide +kernel
theorem dX11_play_7 : decode cX11_play 7 = .ok (.ifCond .ne 6, 3) := by decide +kernel
theorem dX11_play_10 : decode cX11_play 10 = .ok (.bipush (-4), 2) := by decide +kernel
theorem dX11_play_12 : decode cX11_play 12 = .ok (.ireturn, 1) := by decide +kernel
theorem dX11_play_13 : decode cX11_play 13 = .ok (.iconst 0, 1) := by decide +kernel
theorem dX11_play_14 : decode cX11_play 14 = .ok (.istore_n 2, 1) := by decide +kernel
theorem dX11_play_15 : decode cX11_play 15 = .ok (.iload_n 2, 1) := by decide +kernel
theorem dX11_play_16 : decode cX11_play 16 = .ok (.aload_n 0, 1) := by decide +kernel
theorem dX11_play_17 : decode cX11_play 17 = .ok (.getfield 13, 3) := by decide +kernel
theorem dX11_play_20 : decode cX11_play 20 = .ok (.iconst 0, 1) := by decide +kernel
theorem dX11_play_21 : decode cX11_play 21 = .ok (.iaload, 1) := by decide +kernel
theorem dX11_play_22 : decode cX11_play 22 = .ok (.if_icmp .ge 128, 3) := by decide +kernel
theorem dX11_play_25 : decode cX11_play 25 = .ok (.iconst 0, 1) := by decide +kernel
theorem dX11_play_26 : decode cX11_play 26 = .ok (.istore_n 3, 1) := by decide +kernel
theorem dX11_play_27 : decode cX11_play 27 = .ok (.iconst 0, 1) := by decide +kernel
theorem dX11_play_28 : decode cX11_play 28 = .ok (.istore 4, 2) := by decide +kernel
theorem dX11_play_30 : decode cX11_play 30 = .ok (.iconst 0, 1) := by decide +kernel
theorem dX11_play_31 : decode cX11_play 31 = .ok (.istore 5, 2) := by decide +kernel
theorem dX11_play_33 : decode cX11_play 33 = .ok (.iload 5, 2) := by decide +kernel
theorem dX11_play_35 : decode cX11_play 35 = .ok (.aload_n 0, 1) := by decide +kernel
theorem dX11_play_36 : decode cX11_play 36 = .ok (.getfield 22, 3) := by decide +kernel
theorem dX11_play_39 : decode cX11_play 39 = .ok (.iconst 0, 1) := by decide +kernel
theorem dX11_play_40 : decode cX11_play 40 = .ok (.iaload, 1) := by decide +kernel
theorem dX11_play_41 : decode cX11_play 41 = .ok (.if_icmp .ge 67, 3) := by decide +kernel
theorem dX11_play_44 : decode cX11_play 44 = .ok (.aload_n 0, 1) := by decide +kernel
theorem dX11_play_45 : decode cX11_play 45 = .ok (.getfield 85, 3) := by decide +kernel
theorem dX11_play_48 : decode cX11_play 48 = .ok (.iload 5, 2) := by decide +kernel
theorem dX11_play_50 : decode cX11_play 50 = .ok (.iaload, 1) := by decide +kernel
theorem dX11_play_51 : decode cX11_play 51 = .ok (.iload_n 2, 1) := by decide +kernel
theorem dX11_play_52 : decode cX11_play 52 = .ok (.if_icmp .ne 50, 3) := by decide +kernel
theorem dX11_play_55 : decode cX11_play 55 = .ok (.iconst 1, 1) := by decide +kernel
theorem dX11_play_56 : decode cX11_play 56 = .ok (.istore_n 3, 1) := by decide +kernel
theorem dX11_play_57 : decode cX11_play 57 = .ok (.iload 4, 2) := by decide +kernel
theorem dX11_play_59 : decode cX11_play 59 = .ok (.aload_n 0, 1) := by decide +kernel
theorem dX11_play_60 : decode cX11_play 60 = .ok (.getfield 37, 3) := by decide +kernel
theorem dX11_play_63 : decode cX11_play 63 = .ok (.iload 5, 2) := by decide +kernel
theorem dX11_play_65 : decode cX11_play 65 = .ok (.iaload, 1) := by decide +kernel
theorem dX11_play_66 : decode cX11_play 66 = .ok (.iload_n 2, 1) := by decide +kernel
theorem dX11_play_67 : decode cX11_play 67 = .ok (.if_icmp .ne 7, 3) := by decide +kernel
theorem dX11_play_70 : decode cX11_play 70 = .ok (.iconst 0, 1) := by decide +kernel
theorem dX11_play_71 : decode cX11_play 71 = .ok (.goto 10, 3) := by decide +kernel
theorem dX11_play_74 : decode cX11_play 74 = .ok (.aload_n 0, 1) := by decide +kernel
theorem dX11_play_75 : decode cX11_play 75 = .ok (.getfield 31, 3) := by decide +kernel
theorem dX11_play_78 : decode cX11_play 78 = .ok (.iload 5, 2) := by decide +kernel
theorem dX11_play_80 : decode cX11_play 80 = .ok (.iaload, 1) := by decide +kernel
theorem dX11_play_81 : decode cX11_play 81 = .ok (.iadd, 1) := by decide +kernel
theorem dX11_play_82 : decode cX11_play 82 = .ok (.istore 4, 2) := by decide +kernel
theorem dX11_play_84 : decode cX11_play 84 = .ok (.aload_n 0, 1) := by decide +kernel
theorem dX11_play_85 : decode cX11_play 85 = .ok (.getfield 61, 3) := by decide +kernel
theorem dX11_play_88 : decode cX11_play 88 = .ok (.bipush 8, 2) := by decide +kernel
theorem dX11_play_90 : decode cX11_play 90 = .ok (.iload_n 2, 1) := by decide +kernel
theorem dX11_play_91 : decode cX11_play 91 = .ok (.imul, 1) := by decide +kernel
theorem dX11_play_92 : decode cX11_play 92 = .ok (.iload 5, 2) := by decide +kernel
theorem dX11_play_94 : decode cX11_play 94 = .ok (.iadd, 1) := by decide +kernel
theorem dX11_play_95 : decode cX11_play 95 = .ok (.aload_n 0, 1) := by decide +kernel
theorem dX11_play_96 : decode cX11_play 96 = .ok (.getfield 64, 3) := by decide +kernel
theorem dX11_play_99 : decode cX11_play 99 = .ok (.iconst 0, 1) := by decide +kernel
theorem dX11_play_100 : decode cX11_play 100 = .ok (.iaload, 1) := by decide +kernel
theorem dX11_play_101 : decode cX11_play 101 = .ok (.iastore, 1) := by decide +kernel
theorem dX11_play_102 : decode cX11_play 102 = .ok (.iinc 5 1, 3) := by decide +kernel
theorem dX11_play_105 : decode cX11_play 105 = .ok (.goto (-72), 3) := by decide +kernel
theorem dX11_play_108 : decode cX11_play 108 = .ok (.aload_n 0, 1) := by decide +kernel
theorem dX11_play_109 : decode cX11_play 109 = .ok (.getfield 67, 3) := by decide +kernel
theorem dX11_play_112 : decode cX11_play 112 = .ok (.iload_n 2, 1) := by decide +kernel
theorem dX11_play_113 : decode cX11_play 113 = .ok (.dup2, 1) := by decide +kernel
theorem dX11_play_114 : decode cX11_play 114 = .ok (.iaload, 1) := by decide +kernel
theorem dX11_play_115 : decode cX11_play 115 = .ok (.iload_n 3, 1) := by decide +kernel
theorem dX11_play_116 : decode cX11_play 116 = .ok (.ifCond .eq 25, 3) := by decide +kernel
theorem dX11_play_119 : decode cX11_play 119 = .ok (.aload_n 0, 1) := by decide +kernel
theorem dX11_play_120 : decode cX11_play 120 = .ok (.getfield 58, 3) := by decide +kernel
theorem dX11_play_123 : decode cX11_play 123 = .ok (.iconst 3, 1) := by decide +kernel
theorem dX11_play_124 : decode cX11_play 124 = .ok (.iaload, 1) := by decide +kernel
theorem dX11_play_125 : decode cX11_play 125 = .ok (.aload_n 0, 1) := by decide +kernel
theorem dX11_play_126 : decode cX11_play 126 = .ok (.getfield 58, 3) := by decide +kernel
theorem dX11_play_129 : decode cX11_play 129 = .ok (.iconst 4, 1) := by decide +kernel
theorem dX11_play_130 : decode cX11_play 130 = .ok (.iaload, 1) := by decide +kernel
theorem dX11_play_131 : decode cX11_play 131 = .ok (.iload 4, 2) := by decide +kernel
theorem dX11_play_133 : decode cX11_play 133 = .ok (.imul, 1) := by decide +kernel
theorem dX11_play_134 : decode cX11_play 134 = .ok (.bipush 10, 2) := by decide +kernel
theorem dX11_play_136 : decode cX11_play 136 = .ok (.idiv, 1) := by decide +kernel
theorem dX11_play_137 : decode cX11_play 137 = .ok (.iadd, 1) := by decide +kernel
theorem dX11_play_138 : decode cX11_play 138 = .ok (.goto 4, 3) := by decide +kernel
theorem dX11_play_141 : decode cX11_play 141 = .ok (.iconst 0, 1) := by decide +kernel
theorem dX11_play_142 : decode cX11_play 142 = .ok (.iadd, 1) := by decide +kernel
theorem dX11_play_143 : decode cX11_play 143 = .ok (.iastore, 1) := by decide +kernel
theorem dX11_play_144 : decode cX11_play 144 = .ok (.iinc 2 1, 3) := by decide +kernel
theorem dX11_play_147 : decode cX11_play 147 = .ok (.goto (-132), 3) := by decide +kernel
theorem dX11_play_150 : decode cX11_play 150 = .ok (.aload_n 0, 1) := by decide +kernel
theorem dX11_play_151 : decode cX11_play 151 = .ok (.getfield 64, 3) := by decide +kernel
theorem dX11_play_154 : decode cX11_play 154 = .ok (.iconst 0, 1) := by decide +kernel
theorem dX11_play_155 : decode cX11_play 155 = .ok (.dup2, 1) := by decide +kernel
theorem dX11_play_156 : decode cX11_play 156 = .ok (.iaload, 1) := by decide +kernel
theorem dX11_play_157 : decode cX11_play 157 = .ok (.iconst 1, 1) := by decide +kernel
theorem dX11_play_158 : decode cX11_play 158 = .ok (.iadd, 1) := by decide +kernel
theorem dX11_play_159 : decode cX11_play 159 = .ok (.iastore, 1) := by decide +kernel
theorem dX11_play_160 : decode cX11_play 160 = .ok (.aload_n 0, 1) := by decide +kernel
theorem dX11_play_161 : decode cX11_play 161 = .ok (.getfield 216, 3) := by decide +kernel
theorem dX11_play_164 : decode cX11_play 164 = .ok (.ireturn, 1) := by decide +kernel
theorem dX11_night_0 : decode cX11_night 0 = .ok (.aload_n 0, 1) := by decide +kernel
theorem dX11_night_1 : decode cX11_night 1 = .ok (.iload_n 1, 1) := by decide +kernel
theorem dX11_night_2 : decode cX11_night 2 = .ok (.invokevirtual 229, 3) := by decide +kernel
theorem dX11_night_5 : decode cX11_night 5 = .ok (.ifCond .eq 11, 3) := by decide +kernel
theorem dX11_night_8 : decode cX11_night 8 = .ok (.aload_n 0, 1) := by decide +kernel
theorem dX11_night_9 : decode cX11_night 9 = .ok (.iload_n 1, 1) := by decide +kernel
theorem dX11_night_10 : decode cX11_night 10 = .ok (.invokevirtual 303, 3) := by decide +kernel
theorem dX11_night_13 : decode cX11_night 13 = .ok (.goto 4, 3) := by decide +kernel
theorem dX11_night_16 : decode cX11_night 16 = .ok (.iconst (-1), 1) := by decide +kernel
theorem dX11_night_17 : decode cX11_night 17 = .ok (.ireturn, 1) := by decide +kernel
theorem dX11_owed_0 : decode cX11_owed 0 = .ok (.aload_n 0, 1) := by decide +kernel
theorem dX11_owed_1 : decode cX11_owed 1 = .ok (.iload_n 1, 1) := by decide +kernel
theorem dX11_owed_2 : decode cX11_owed 2 = .ok (.invokevirtual 195, 3) := by decide +kernel
theorem dX11_owed_5 : decode cX11_owed 5 = .ok (.ifCond .eq 12, 3) := by decide +kernel
theorem dX11_owed_8 : decode cX11_owed 8 = .ok (.aload_n 0, 1) := by decide +kernel
theorem dX11_owed_9 : decode cX11_owed 9 = .ok (.getfield 67, 3) := by decide +kernel
theorem dX11_owed_12 : decode cX11_owed 12 = .ok (.iload_n 1, 1) := by decide +kernel
theorem dX11_owed_13 : decode cX11_owed 13 = .ok (.iaload, 1) := by decide +kernel
theorem dX11_owed_14 : decode cX11_owed 14 = .ok (.goto 4, 3) := by decide +kernel
theorem dX11_owed_17 : decode cX11_owed 17 = .ok (.iconst (-1), 1) := by decide +kernel
theorem dX11_owed_18 : decode cX11_owed 18 = .ok (.ireturn, 1) := by decide +kernel
theorem dX11_told_0 : decode cX11_told 0 = .ok (.aload_n 0, 1) := by decide +kernel
theorem dX11_told_1 : decode cX11_told 1 = .ok (.iload_n 1, 1) := by decide +kernel
theorem dX11_told_2 : decode cX11_told 2 = .ok (.invokevirtual 195, 3) := by decide +kernel
theorem dX11_told_5 : decode cX11_told 5 = .ok (.ifCond .eq 15, 3) := by decide +kernel
theorem dX11_told_8 : decode cX11_told 8 = .ok (.iload_n 2, 1) := by decide +kernel
theorem dX11_told_9 : decode cX11_told 9 = .ok (.i2l, 1) := by decide +kernel
theorem dX11_told_10 : decode cX11_told 10 = .ok (.lconst 0, 1) := by decide +kernel
theorem dX11_told_11 : decode cX11_told 11 = .ok (.ldc2_w 306, 3) := by decide +kernel
theorem dX11_told_14 : decode cX11_told 14 = .ok (.invokestatic 124, 3) := by decide +kernel
theorem dX11_told_17 : decode cX11_told 17 = .ok (.ifCond .ne 5, 3) := by decide +kernel
theorem dX11_told_20 : decode cX11_told 20 = .ok (.iconst (-1), 1) := by decide +kernel
theorem dX11_told_21 : decode cX11_told 21 = .ok (.ireturn, 1) := by decide +kernel
theorem dX11_told_22 : decode cX11_told 22 = .ok (.aload_n 0, 1) := by decide +kernel
theorem dX11_told_23 : decode cX11_told 23 = .ok (.getfield 70, 3) := by decide +kernel
theorem dX11_told_26 : decode cX11_told 26 = .ok (.iload_n 1, 1) := by decide +kernel
theorem dX11_told_27 : decode cX11_told 27 = .ok (.iaload, 1) := by decide +kernel
theorem dX11_told_28 : decode cX11_told 28 = .ok (.istore_n 3, 1) := by decide +kernel
theorem dX11_told_29 : decode cX11_told 29 = .ok (.aload_n 0, 1) := by decide +kernel
theorem dX11_told_30 : decode cX11_told 30 = .ok (.getfield 70, 3) := by decide +kernel
theorem dX11_told_33 : decode cX11_told 33 = .ok (.iload_n 1, 1) := by decide +kernel
theorem dX11_told_34 : decode cX11_told 34 = .ok (.iload_n 2, 1) := by decide +kernel
theorem dX11_told_35 : decode cX11_told 35 = .ok (.iastore, 1) := by decide +kernel
theorem dX11_told_36 : decode cX11_told 36 = .ok (.iload_n 3, 1) := by decide +kernel
theorem dX11_told_37 : decode cX11_told 37 = .ok (.ireturn, 1) := by decide +kernel
theorem dX11_wrong_0 : decode cX11_wrong 0 = .ok (.iconst 0, 1) := by decide +kernel
theorem dX11_wrong_1 : decode cX11_wrong 1 = .ok (.istore_n 1, 1) := by decide +kernel
theorem dX11_wrong_2 : decode cX11_wrong 2 = .ok (.iload_n 1, 1) := by decide +kernel
theorem dX11_wrong_3 : decode cX11_wrong 3 = .ok (.aload_n 0, 1) := by decide +kernel
theorem dX11_wrong_4 : decode cX11_wrong 4 = .ok (.getfield 13, 3) := by decide +kernel
theorem dX11_wrong_7 : decode cX11_wrong 7 = .ok (.iconst 0, 1) := by decide +kernel
theorem dX11_wrong_8 : decode cX11_wrong 8 = .ok (.iaload, 1) := by decide +kernel
theorem dX11_wrong_9 : decode cX11_wrong 9 = .ok (.if_icmp .ge 26, 3) := by decide +kernel
theorem dX11_wrong_12 : decode cX11_wrong 12 = .ok (.aload_n 0, 1) := by decide +kernel
theorem dX11_wrong_13 : decode cX11_wrong 13 = .ok (.getfield 67, 3) := by decide +kernel
theorem dX11_wrong_16 : decode cX11_wrong 16 = .ok (.iload_n 1, 1) := by decide +kernel
theorem dX11_wrong_17 : decode cX11_wrong 17 = .ok (.iaload, 1) := by decide +kernel
theorem dX11_wrong_18 : decode cX11_wrong 18 = .ok (.aload_n 0, 1) := by decide +kernel
theorem dX11_wrong_19 : decode cX11_wrong 19 = .ok (.getfield 70, 3) := by decide +kernel
theorem dX11_wrong_22 : decode cX11_wrong 22 = .ok (.iload_n 1, 1) := by decide +kernel
theorem dX11_wrong_23 : decode cX11_wrong 23 = .ok (.iaload, 1) := by decide +kernel
theorem dX11_wrong_24 : decode cX11_wrong 24 = .ok (.if_icmp .eq 5, 3) := by decide +kernel
theorem dX11_wrong_27 : decode cX11_wrong 27 = .ok (.iload_n 1, 1) := by decide +kernel
theorem dX11_wrong_28 : decode cX11_wrong 28 = .ok (.ireturn, 1) := by decide +kernel
theorem dX11_wrong_29 : decode cX11_wrong 29 = .ok (.iinc 1 1, 3) := by decide +kernel
theorem dX11_wrong_32 : decode cX11_wrong 32 = .ok (.goto (-30), 3) := by decide +kernel
theorem dX11_wrong_35 : decode cX11_wrong 35 = .ok (.bipush (-4), 2) := by decide +kernel
theorem dX11_wrong_37 : decode cX11_wrong 37 = .ok (.ireturn, 1) := by decide +kernel
theorem dX11_run_0 : decode cX11_run 0 = .ok (.iload_n 1, 1) := by decide +kernel
theorem dX11_run_1 : decode cX11_run 1 = .ok (.i2l, 1) := by decide +kernel
theorem dX11_run_2 : decode cX11_run 2 = .ok (.lconst 1, 1) := by decide +kernel
theorem dX11_run_3 : decode cX11_run 3 = .ok (.ldc2_w 308, 3) := by decide +kernel
theorem dX11_run_6 : decode cX11_run 6 = .ok (.invokestatic 124, 3) := by decide +kernel
theorem dX11_run_9 : decode cX11_run 9 = .ok (.ifCond .eq 23, 3) := by decide +kernel
theorem dX11_run_12 : decode cX11_run 12 = .ok (.iload_n 2, 1) := by decide +kernel
theorem dX11_run_13 : decode cX11_run 13 = .ok (.i2l, 1) := by decide +kernel
theorem dX11_run_14 : decode cX11_run 14 = .ok (.lconst 0, 1) := by decide +kernel
theorem dX11_run_15 : decode cX11_run 15 = .ok (.ldc2_w 310, 3) := by decide +kernel
theorem dX11_run_18 : decode cX11_run 18 = .ok (.invokestatic 124, 3) := by decide +kernel
theorem dX11_run_21 : decode cX11_run 21 = .ok (.ifCond .eq 11, 3) := by decide +kernel
theorem dX11_run_24 : decode cX11_run 24 = .ok (.aload_n 0, 1) := by decide +kernel
theorem dX11_run_25 : decode cX11_run 25 = .ok (.iload_n 3, 1) := by decide +kernel
theorem dX11_run_26 : decode cX11_run 26 = .ok (.invokevirtual 229, 3) := by decide +kernel
theorem dX11_run_29 : decode cX11_run 29 = .ok (.ifCond .ne 5, 3) := by decide +kernel
theorem dX11_run_32 : decode cX11_run 32 = .ok (.iconst (-1), 1) := by decide +kernel
theorem dX11_run_33 : decode cX11_run 33 = .ok (.ireturn, 1) := by decide +kernel
theorem dX11_run_34 : decode cX11_run 34 = .ok (.iconst 0, 1) := by decide +kernel
theorem dX11_run_35 : decode cX11_run 35 = .ok (.istore 4, 2) := by decide +kernel
theorem dX11_run_37 : decode cX11_run 37 = .ok (.iload 4, 2) := by decide +kernel
theorem dX11_run_39 : decode cX11_run 39 = .ok (.bipush 80, 2) := by decide +kernel
theorem dX11_run_41 : decode cX11_run 41 = .ok (.if_icmp .ge 23, 3) := by decide +kernel
theorem dX11_run_44 : decode cX11_run 44 = .ok (.aload_n 0, 1) := by decide +kernel
theorem dX11_run_45 : decode cX11_run 45 = .ok (.getfield 109, 3) := by decide +kernel
theorem dX11_run_48 : decode cX11_run 48 = .ok (.iload 4, 2) := by decide +kernel
theorem dX11_run_50 : decode cX11_run 50 = .ok (.aload_n 0, 1) := by decide +kernel
theorem dX11_run_51 : decode cX11_run 51 = .ok (.getfield 61, 3) := by decide +kernel
theorem dX11_run_54 : decode cX11_run 54 = .ok (.iload 4, 2) := by decide +kernel
theorem dX11_run_56 : decode cX11_run 56 = .ok (.iaload, 1) := by decide +kernel
theorem dX11_run_57 : decode cX11_run 57 = .ok (.iastore, 1) := by decide +kernel
theorem dX11_run_58 : decode cX11_run 58 = .ok (.iinc 4 1, 3) := by decide +kernel
theorem dX11_run_61 : decode cX11_run 61 = .ok (.goto (-24), 3) := by decide +kernel
theorem dX11_run_64 : decode cX11_run 64 = .ok (.iconst 0, 1) := by decide +kernel
theorem dX11_run_65 : decode cX11_run 65 = .ok (.istore 4, 2) := by decide +kernel
theorem dX11_run_67 : decode cX11_run 67 = .ok (.iload 4, 2) := by decide +kernel
theorem dX11_run_69 : decode cX11_run 69 = .ok (.bipush 10, 2) := by decide +kernel
theorem dX11_run_71 : decode cX11_run 71 = .ok (.if_icmp .ge 23, 3) := by decide +kernel
theorem dX11_run_74 : decode cX11_run 74 = .ok (.aload_n 0, 1) := by decide +kernel
theorem dX11_run_75 : decode cX11_run 75 = .ok (.getfield 112, 3) := by decide +kernel
theorem dX11_run_78 : decode cX11_run 78 = .ok (.iload 4, 2) := by decide +kernel
theorem dX11_run_80 : decode cX11_run 80 = .ok (.aload_n 0, 1) := by decide +kernel
theorem dX11_run_81 : decode cX11_run 81 = .ok (.getfield 67, 3) := by decide +kernel
theorem dX11_run_84 : decode cX11_run 84 = .ok (.iload 4, 2) := by decide +kernel
theorem dX11_run_86 : decode cX11_run 86 = .ok (.iaload, 1) := by decide +kernel
theorem dX11_run_87 : decode cX11_run 87 = .ok (.iastore, 1) := by decide +kernel
theorem dX11_run_88 : decode cX11_run 88 = .ok (.iinc 4 1, 3) := by decide +kernel
theorem dX11_run_91 : decode cX11_run 91 = .ok (.goto (-24), 3) := by decide +kernel
theorem dX11_run_94 : decode cX11_run 94 = .ok (.aload_n 0, 1) := by decide +kernel
theorem dX11_run_95 : decode cX11_run 95 = .ok (.getfield 64, 3) := by decide +kernel
theorem dX11_run_98 : decode cX11_run 98 = .ok (.iconst 0, 1) := by decide +kernel
theorem dX11_run_99 : decode cX11_run 99 = .ok (.iaload, 1) := by decide +kernel
theorem dX11_run_100 : decode cX11_run 100 = .ok (.istore 4, 2) := by decide +kernel
theorem dX11_run_102 : decode cX11_run 102 = .ok (.iconst 0, 1) := by decide +kernel
theorem dX11_run_103 : decode cX11_run 103 = .ok (.istore 5, 2) := by decide +kernel
theorem dX11_run_105 : decode cX11_run 105 = .ok (.iload 5, 2) := by decide +kernel
theorem dX11_run_107 : decode cX11_run 107 = .ok (.iload_n 1, 1) := by decide +kernel
theorem dX11_run_108 : decode cX11_run 108 = .ok (.if_icmp .ge 31, 3) := by decide +kernel
theorem dX11_run_111 : decode cX11_run 111 = .ok (.aload_n 0, 1) := by decide +kernel
theorem dX11_run_112 : decode cX11_run 112 = .ok (.iload_n 2, 1) := by decide +kernel
theorem dX11_run_113 : decode cX11_run 113 = .ok (.iload 5, 2) := by decide +kernel
theorem dX11_run_115 : decode cX11_run 115 = .ok (.iadd, 1) := by decide +kernel
theorem dX11_run_116 : decode cX11_run 116 = .ok (.bipush 37, 2) := by decide +kernel
theorem dX11_run_118 : decode cX11_run 118 = .ok (.imul, 1) := by decide +kernel
theorem dX11_run_119 : decode cX11_run 119 = .ok (.sipush 1024, 3) := by decide +kernel
theorem dX11_run_122 : decode cX11_run 122 = .ok (.irem, 1) := by decide +kernel
theorem dX11_run_123 : decode cX11_run 123 = .ok (.iload_n 3, 1) := by decide +kernel
theorem dX11_run_124 : decode cX11_run 124 = .ok (.iand, 1) := by decide +kernel
theorem dX11_run_125 : decode cX11_run 125 = .ok (.invokevirtual 303, 3) := by decide +kernel
theorem dX11_run_128 : decode cX11_run 128 = .ok (.bipush (-4), 2) := by decide +kernel
theorem dX11_run_130 : decode cX11_run 130 = .ok (.if_icmp .eq 9, 3) := by decide +kernel
theorem dX11_run_133 : decode cX11_run 133 = .ok (.iinc 5 1, 3) := by decide +kernel
theorem dX11_run_136 : decode cX11_run 136 = .ok (.goto (-31), 3) := by decide +kernel
theorem dX11_run_139 : decode cX11_run 139 = .ok (.iconst 0, 1) := by decide +kernel
theorem dX11_run_140 : decode cX11_run 140 = .ok (.istore 6, 2) := by decide +kernel
theorem dX11_run_142 : decode cX11_run 142 = .ok (.iload 6, 2) := by decide +kernel
theorem dX11_run_144 : decode cX11_run 144 = .ok (.bipush 80, 2) := by decide +kernel
theorem dX11_run_146 : decode cX11_run 146 = .ok (.if_icmp .ge 23, 3) := by decide +kernel
theorem dX11_run_149 : decode cX11_run 149 = .ok (.aload_n 0, 1) := by decide +kernel
theorem dX11_run_150 : decode cX11_run 150 = .ok (.getfield 61, 3) := by decide +kernel
theorem dX11_run_153 : decode cX11_run 153 = .ok (.iload 6, 2) := by decide +kernel
theorem dX11_run_155 : decode cX11_run 155 = .ok (.aload_n 0, 1) := by decide +kernel
theorem dX11_run_156 : decode cX11_run 156 = .ok (.getfield 109, 3) := by decide +kernel
theorem dX11_run_159 : decode cX11_run 159 = .ok (.iload 6, 2) := by decide +kernel
theorem dX11_run_161 : decode cX11_run 161 = .ok (.iaload, 1) := by decide +kernel
theorem dX11_run_162 : decode cX11_run 162 = .ok (.iastore, 1) := by decide +kernel
theorem dX11_run_163 : decode cX11_run 163 = .ok (.iinc 6 1, 3) := by decide +kernel
theorem dX11_run_166 : decode cX11_run 166 = .ok (.goto (-24), 3) := by decide +kernel
theorem dX11_run_169 : decode cX11_run 169 = .ok (.iconst 0, 1) := by decide +kernel
theorem dX11_run_170 : decode cX11_run 170 = .ok (.istore 6, 2) := by decide +kernel
theorem dX11_run_172 : decode cX11_run 172 = .ok (.iload 6, 2) := by decide +kernel
theorem dX11_run_174 : decode cX11_run 174 = .ok (.bipush 10, 2) := by decide +kernel
theorem dX11_run_176 : decode cX11_run 176 = .ok (.if_icmp .ge 23, 3) := by decide +kernel
theorem dX11_run_179 : decode cX11_run 179 = .ok (.aload_n 0, 1) := by decide +kernel
theorem dX11_run_180 : decode cX11_run 180 = .ok (.getfield 67, 3) := by decide +kernel
theorem dX11_run_183 : decode cX11_run 183 = .ok (.iload 6, 2) := by decide +kernel
theorem dX11_run_185 : decode cX11_run 185 = .ok (.aload_n 0, 1) := by decide +kernel
theorem dX11_run_186 : decode cX11_run 186 = .ok (.getfield 112, 3) := by decide +kernel
theorem dX11_run_189 : decode cX11_run 189 = .ok (.iload 6, 2) := by decide +kernel
theorem dX11_run_191 : decode cX11_run 191 = .ok (.iaload, 1) := by decide +kernel
theorem dX11_run_192 : decode cX11_run 192 = .ok (.iastore, 1) := by decide +kernel
theorem dX11_run_193 : decode cX11_run 193 = .ok (.iinc 6 1, 3) := by decide +kernel
theorem dX11_run_196 : decode cX11_run 196 = .ok (.goto (-24), 3) := by decide +kernel
theorem dX11_run_199 : decode cX11_run 199 = .ok (.aload_n 0, 1) := by decide +kernel
theorem dX11_run_200 : decode cX11_run 200 = .ok (.getfield 64, 3) := by decide +kernel
theorem dX11_run_203 : decode cX11_run 203 = .ok (.iconst 0, 1) := by decide +kernel
theorem dX11_run_204 : decode cX11_run 204 = .ok (.iload 4, 2) := by decide +kernel
theorem dX11_run_206 : decode cX11_run 206 = .ok (.iastore, 1) := by decide +kernel
theorem dX11_run_207 : decode cX11_run 207 = .ok (.iload 5, 2) := by decide +kernel
theorem dX11_run_209 : decode cX11_run 209 = .ok (.ireturn, 1) := by decide +kernel
theorem dX11_copy_0 : decode cX11_copy 0 = .ok (.iconst 0, 1) := by decide +kernel
theorem dX11_copy_1 : decode cX11_copy 1 = .ok (.istore_n 3, 1) := by decide +kernel
theorem dX11_copy_2 : decode cX11_copy 2 = .ok (.iload_n 3, 1) := by decide +kernel
theorem dX11_copy_3 : decode cX11_copy 3 = .ok (.bipush 80, 2) := by decide +kernel
theorem dX11_copy_5 : decode cX11_copy 5 = .ok (.if_icmp .ge 31, 3) := by decide +kernel
theorem dX11_copy_8 : decode cX11_copy 8 = .ok (.aload_n 0, 1) := by decide +kernel
theorem dX11_copy_9 : decode cX11_copy 9 = .ok (.getfield 61, 3) := by decide +kernel
theorem dX11_copy_12 : decode cX11_copy 12 = .ok (.bipush 80, 2) := by decide +kernel
theorem dX11_copy_14 : decode cX11_copy 14 = .ok (.iload_n 2, 1) := by decide +kernel
theorem dX11_copy_15 : decode cX11_copy 15 = .ok (.imul, 1) := by decide +kernel
theorem dX11_copy_16 : decode cX11_copy 16 = .ok (.iload_n 3, 1) := by decide +kernel
theorem dX11_copy_17 : decode cX11_copy 17 = .ok (.iadd, 1) := by decide +kernel
theorem dX11_copy_18 : decode cX11_copy 18 = .ok (.aload_n 0, 1) := by decide +kernel
theorem dX11_copy_19 : decode cX11_copy 19 = .ok (.getfield 61, 3) := by decide +kernel
theorem dX11_copy_22 : decode cX11_copy 22 = .ok (.bipush 80, 2) := by decide +kernel
theorem dX11_copy_24 : decode cX11_copy 24 = .ok (.iload_n 1, 1) := by decide +kernel
theorem dX11_copy_25 : decode cX11_copy 25 = .ok (.imul, 1) := by decide +kernel
theorem dX11_copy_26 : decode cX11_copy 26 = .ok (.iload_n 3, 1) := by decide +kernel
theorem dX11_copy_27 : decode cX11_copy 27 = .ok (.iadd, 1) := by decide +kernel
theorem dX11_copy_28 : decode cX11_copy 28 = .ok (.iaload, 1) := by decide +kernel
theorem dX11_copy_29 : decode cX11_copy 29 = .ok (.iastore, 1) := by decide +kernel
theorem dX11_copy_30 : decode cX11_copy 30 = .ok (.iinc 3 1, 3) := by decide +kernel
theorem dX11_copy_33 : decode cX11_copy 33 = .ok (.goto (-31), 3) := by decide +kernel
theorem dX11_copy_36 : decode cX11_copy 36 = .ok (.iconst 0, 1) := by decide +kernel
theorem dX11_copy_37 : decode cX11_copy 37 = .ok (.istore_n 3, 1) := by decide +kernel
theorem dX11_copy_38 : decode cX11_copy 38 = .ok (.iload_n 3, 1) := by decide +kernel
theorem dX11_copy_39 : decode cX11_copy 39 = .ok (.bipush 10, 2) := by decide +kernel
theorem dX11_copy_41 : decode cX11_copy 41 = .ok (.if_icmp .ge 31, 3) := by decide +kernel
theorem dX11_copy_44 : decode cX11_copy 44 = .ok (.aload_n 0, 1) := by decide +kernel
theorem dX11_copy_45 : decode cX11_copy 45 = .ok (.getfield 67, 3) := by decide +kernel
theorem dX11_copy_48 : decode cX11_copy 48 = .ok (.bipush 10, 2) := by decide +kernel
theorem dX11_copy_50 : decode cX11_copy 50 = .ok (.iload_n 2, 1) := by decide +kernel
theorem dX11_copy_51 : decode cX11_copy 51 = .ok (.imul, 1) := by decide +kernel
theorem dX11_copy_52 : decode cX11_copy 52 = .ok (.iload_n 3, 1) := by decide +kernel
theorem dX11_copy_53 : decode cX11_copy 53 = .ok (.iadd, 1) := by decide +kernel
theorem dX11_copy_54 : decode cX11_copy 54 = .ok (.aload_n 0, 1) := by decide +kernel
theorem dX11_copy_55 : decode cX11_copy 55 = .ok (.getfield 67, 3) := by decide +kernel
theorem dX11_copy_58 : decode cX11_copy 58 = .ok (.bipush 10, 2) := by decide +kernel
theorem dX11_copy_60 : decode cX11_copy 60 = .ok (.iload_n 1, 1) := by decide +kernel
theorem dX11_copy_61 : decode cX11_copy 61 = .ok (.imul, 1) := by decide +kernel
theorem dX11_copy_62 : decode cX11_copy 62 = .ok (.iload_n 3, 1) := by decide +kernel
theorem dX11_copy_63 : decode cX11_copy 63 = .ok (.iadd, 1) := by decide +kernel
theorem dX11_copy_64 : decode cX11_copy 64 = .ok (.iaload, 1) := by decide +kernel
theorem dX11_copy_65 : decode cX11_copy 65 = .ok (.iastore, 1) := by decide +kernel
theorem dX11_copy_66 : decode cX11_copy 66 = .ok (.iinc 3 1, 3) := by decide +kernel
theorem dX11_copy_69 : decode cX11_copy 69 = .ok (.goto (-31), 3) := by decide +kernel
theorem dX11_copy_72 : decode cX11_copy 72 = .ok (.aload_n 0, 1) := by decide +kernel
theorem dX11_copy_73 : decode cX11_copy 73 = .ok (.getfield 64, 3) := by decide +kernel
theorem dX11_copy_76 : decode cX11_copy 76 = .ok (.iload_n 2, 1) := by decide +kernel
theorem dX11_copy_77 : decode cX11_copy 77 = .ok (.aload_n 0, 1) := by decide +kernel
theorem dX11_copy_78 : decode cX11_copy 78 = .ok (.getfield 64, 3) := by decide +kernel
theorem dX11_copy_81 : decode cX11_copy 81 = .ok (.iload_n 1, 1) := by decide +kernel
theorem dX11_copy_82 : decode cX11_copy 82 = .ok (.iaload, 1) := by decide +kernel
theorem dX11_copy_83 : decode cX11_copy 83 = .ok (.iastore, 1) := by decide +kernel
theorem dX11_copy_84 : decode cX11_copy 84 = .ok (.return_, 1) := by decide +kernel
theorem dX11_keep_0 : decode cX11_keep 0 = .ok (.aload_n 0, 1) := by decide +kernel
theorem dX11_keep_1 : decode cX11_keep 1 = .ok (.getfield 180, 3) := by decide +kernel
theorem dX11_keep_4 : decode cX11_keep 4 = .ok (.iconst 2, 1) := by decide +kernel
theorem dX11_keep_5 : decode cX11_keep 5 = .ok (.if_icmp .ne 6, 3) := by decide +kernel
theorem dX11_keep_8 : decode cX11_keep 8 = .ok (.bipush (-3), 2) := by decide +kernel
theorem dX11_keep_10 : decode cX11_keep 10 = .ok (.ireturn, 1) := by decide +kernel
theorem dX11_keep_11 : decode cX11_keep 11 = .ok (.aload_n 0, 1) := by decide +kernel
theorem dX11_keep_12 : decode cX11_keep 12 = .ok (.dup, 1) := by decide +kernel
theorem dX11_keep_13 : decode cX11_keep 13 = .ok (.getfield 180, 3) := by decide +kernel
theorem dX11_keep_16 : decode cX11_keep 16 = .ok (.iconst 1, 1) := by decide +kernel
theorem dX11_keep_17 : decode cX11_keep 17 = .ok (.iadd, 1) := by decide +kernel
theorem dX11_keep_18 : decode cX11_keep 18 = .ok (.putfield 180, 3) := by decide +kernel
theorem dX11_keep_21 : decode cX11_keep 21 = .ok (.aload_n 0, 1) := by decide +kernel
theorem dX11_keep_22 : decode cX11_keep 22 = .ok (.iconst 0, 1) := by decide +kernel
theorem dX11_keep_23 : decode cX11_keep 23 = .ok (.aload_n 0, 1) := by decide +kernel
theorem dX11_keep_24 : decode cX11_keep 24 = .ok (.getfield 180, 3) := by decide +kernel
theorem dX11_keep_27 : decode cX11_keep 27 = .ok (.invokevirtual 312, 3) := by decide +kernel
theorem dX11_keep_30 : decode cX11_keep 30 = .ok (.aload_n 0, 1) := by decide +kernel
theorem dX11_keep_31 : decode cX11_keep 31 = .ok (.getfield 180, 3) := by decide +kernel
theorem dX11_keep_34 : decode cX11_keep 34 = .ok (.ireturn, 1) := by decide +kernel
theorem dX11_back_0 : decode cX11_back 0 = .ok (.aload_n 0, 1) := by decide +kernel
theorem dX11_back_1 : decode cX11_back 1 = .ok (.getfield 180, 3) := by decide +kernel
theorem dX11_back_4 : decode cX11_back 4 = .ok (.ifCond .ne 6, 3) := by decide +kernel
theorem dX11_back_7 : decode cX11_back 7 = .ok (.bipush (-2), 2) := by decide +kernel
theorem dX11_back_9 : decode cX11_back 9 = .ok (.ireturn, 1) := by decide +kernel
theorem dX11_back_10 : decode cX11_back 10 = .ok (.aload_n 0, 1) := by decide +kernel
theorem dX11_back_11 : decode cX11_back 11 = .ok (.aload_n 0, 1) := by decide +kernel
theorem dX11_back_12 : decode cX11_back 12 = .ok (.getfield 180, 3) := by decide +kernel
theorem dX11_back_15 : decode cX11_back 15 = .ok (.iconst 0, 1) := by decide +kernel
theorem dX11_back_16 : decode cX11_back 16 = .ok (.invokevirtual 312, 3) := by decide +kernel
theorem dX11_back_19 : decode cX11_back 19 = .ok (.aload_n 0, 1) := by decide +kernel
theorem dX11_back_20 : decode cX11_back 20 = .ok (.dup, 1) := by decide +kernel
theorem dX11_back_21 : decode cX11_back 21 = .ok (.getfield 180, 3) := by decide +kernel
theorem dX11_back_24 : decode cX11_back 24 = .ok (.iconst 1, 1) := by decide +kernel
theorem dX11_back_25 : decode cX11_back 25 = .ok (.isub, 1) := by decide +kernel
theorem dX11_back_26 : decode cX11_back 26 = .ok (.putfield 180, 3) := by decide +kernel
theorem dX11_back_29 : decode cX11_back 29 = .ok (.aload_n 0, 1) := by decide +kernel
theorem dX11_back_30 : decode cX11_back 30 = .ok (.getfield 180, 3) := by decide +kernel
theorem dX11_back_33 : decode cX11_back 33 = .ok (.ireturn, 1) := by decide +kernel
theorem dX11_count_0 : decode cX11_count 0 = .ok (.iload_n 1, 1) := by decide +kernel
theorem dX11_count_1 : decode cX11_count 1 = .ok (.tableswitch 88 0 6 #[43, 50, 57, 64, 69, 76, 81], 43) := by decide +kernel
theorem dX11_count_44 : decode cX11_count 44 = .ok (.aload_n 0, 1) := by decide +kernel
theorem dX11_count_45 : decode cX11_count 45 = .ok (.getfield 13, 3) := by decide +kernel
theorem dX11_count_48 : decode cX11_count 48 = .ok (.iconst 0, 1) := by decide +kernel
theorem dX11_count_49 : decode cX11_count 49 = .ok (.iaload, 1) := by decide +kernel
theorem dX11_count_50 : decode cX11_count 50 = .ok (.ireturn, 1) := by decide +kernel
theorem dX11_count_51 : decode cX11_count 51 = .ok (.aload_n 0, 1) := by decide +kernel
theorem dX11_count_52 : decode cX11_count 52 = .ok (.getfield 22, 3) := by decide +kernel
theorem dX11_count_55 : decode cX11_count 55 = .ok (.iconst 0, 1) := by decide +kernel
theorem dX11_count_56 : decode cX11_count 56 = .ok (.iaload, 1) := by decide +kernel
theorem dX11_count_57 : decode cX11_count 57 = .ok (.ireturn, 1) := by decide +kernel
theorem dX11_count_58 : decode cX11_count 58 = .ok (.aload_n 0, 1) := by decide +kernel
theorem dX11_count_59 : decode cX11_count 59 = .ok (.getfield 40, 3) := by decide +kernel
theorem dX11_count_62 : decode cX11_count 62 = .ok (.iconst 0, 1) := by decide +kernel
theorem dX11_count_63 : decode cX11_count 63 = .ok (.iaload, 1) := by decide +kernel
theorem dX11_count_64 : decode cX11_count 64 = .ok (.ireturn, 1) := by decide +kernel
theorem dX11_count_65 : decode cX11_count 65 = .ok (.aload_n 0, 1) := by decide +kernel
theorem dX11_count_66 : decode cX11_count 66 = .ok (.getfield 128, 3) := by decide +kernel
theorem dX11_count_69 : decode cX11_count 69 = .ok (.ireturn, 1) := by decide +kernel
theorem dX11_count_70 : decode cX11_count 70 = .ok (.aload_n 0, 1) := by decide +kernel
theorem dX11_count_71 : decode cX11_count 71 = .ok (.getfield 64, 3) := by decide +kernel
theorem dX11_count_74 : decode cX11_count 74 = .ok (.iconst 0, 1) := by decide +kernel
theorem dX11_count_75 : decode cX11_count 75 = .ok (.iaload, 1) := by decide +kernel
theorem dX11_count_76 : decode cX11_count 76 = .ok (.ireturn, 1) := by decide +kernel
theorem dX11_count_77 : decode cX11_count 77 = .ok (.aload_n 0, 1) := by decide +kernel
theorem dX11_count_78 : decode cX11_count 78 = .ok (.getfield 180, 3) := by decide +kernel
theorem dX11_count_81 : decode cX11_count 81 = .ok (.ireturn, 1) := by decide +kernel
theorem dX11_count_82 : decode cX11_count 82 = .ok (.aload_n 0, 1) := by decide +kernel
theorem dX11_count_83 : decode cX11_count 83 = .ok (.getfield 49, 3) := by decide +kernel
theorem dX11_count_86 : decode cX11_count 86 = .ok (.iconst 0, 1) := by decide +kernel
theorem dX11_count_87 : decode cX11_count 87 = .ok (.iaload, 1) := by decide +kernel
theorem dX11_count_88 : decode cX11_count 88 = .ok (.ireturn, 1) := by decide +kernel
theorem dX11_count_89 : decode cX11_count 89 = .ok (.iconst (-1), 1) := by decide +kernel
theorem dX11_count_90 : decode cX11_count 90 = .ok (.ireturn, 1) := by decide +kernel
theorem dJ6_bitCount_0f7a4_0 : decode cJ6_bitCount_0f7a4 0 = .ok (.iload_n 0, 1) := by decide +kernel
theorem dJ6_bitCount_0f7a4_1 : decode cJ6_bitCount_0f7a4 1 = .ok (.iload_n 0, 1) := by decide +kernel
theorem dJ6_bitCount_0f7a4_2 : decode cJ6_bitCount_0f7a4 2 = .ok (.iconst 1, 1) := by decide +kernel
theorem dJ6_bitCount_0f7a4_3 : decode cJ6_bitCount_0f7a4 3 = .ok (.iushr, 1) := by decide +kernel
theorem dJ6_bitCount_0f7a4_4 : decode cJ6_bitCount_0f7a4 4 = .ok (.ldc_w 265, 3) := by decide +kernel
theorem dJ6_bitCount_0f7a4_7 : decode cJ6_bitCount_0f7a4 7 = .ok (.iand, 1) := by decide +kernel
theorem dJ6_bitCount_0f7a4_8 : decode cJ6_bitCount_0f7a4 8 = .ok (.isub, 1) := by decide +kernel
theorem dJ6_bitCount_0f7a4_9 : decode cJ6_bitCount_0f7a4 9 = .ok (.istore_n 0, 1) := by decide +kernel
theorem dJ6_bitCount_0f7a4_10 : decode cJ6_bitCount_0f7a4 10 = .ok (.iload_n 0, 1) := by decide +kernel
theorem dJ6_bitCount_0f7a4_11 : decode cJ6_bitCount_0f7a4 11 = .ok (.ldc_w 266, 3) := by decide +kernel
theorem dJ6_bitCount_0f7a4_14 : decode cJ6_bitCount_0f7a4 14 = .ok (.iand, 1) := by decide +kernel
theorem dJ6_bitCount_0f7a4_15 : decode cJ6_bitCount_0f7a4 15 = .ok (.iload_n 0, 1) := by decide +kernel
theorem dJ6_bitCount_0f7a4_16 : decode cJ6_bitCount_0f7a4 16 = .ok (.iconst 2, 1) := by decide +kernel
theorem dJ6_bitCount_0f7a4_17 : decode cJ6_bitCount_0f7a4 17 = .ok (.iushr, 1) := by decide +kernel
theorem dJ6_bitCount_0f7a4_18 : decode cJ6_bitCount_0f7a4 18 = .ok (.ldc_w 266, 3) := by decide +kernel
theorem dJ6_bitCount_0f7a4_21 : decode cJ6_bitCount_0f7a4 21 = .ok (.iand, 1) := by decide +kernel
theorem dJ6_bitCount_0f7a4_22 : decode cJ6_bitCount_0f7a4 22 = .ok (.iadd, 1) := by decide +kernel
theorem dJ6_bitCount_0f7a4_23 : decode cJ6_bitCount_0f7a4 23 = .ok (.istore_n 0, 1) := by decide +kernel
theorem dJ6_bitCount_0f7a4_24 : decode cJ6_bitCount_0f7a4 24 = .ok (.iload_n 0, 1) := by decide +kernel
theorem dJ6_bitCount_0f7a4_25 : decode cJ6_bitCount_0f7a4 25 = .ok (.iload_n 0, 1) := by decide +kernel
theorem dJ6_bitCount_0f7a4_26 : decode cJ6_bitCount_0f7a4 26 = .ok (.iconst 4, 1) := by decide +kernel
theorem dJ6_bitCount_0f7a4_27 : decode cJ6_bitCount_0f7a4 27 = .ok (.iushr, 1) := by decide +kernel
theorem dJ6_bitCount_0f7a4_28 : decode cJ6_bitCount_0f7a4 28 = .ok (.iadd, 1) := by decide +kernel
theorem dJ6_bitCount_0f7a4_29 : decode cJ6_bitCount_0f7a4 29 = .ok (.ldc_w 267, 3) := by decide +kernel
theorem dJ6_bitCount_0f7a4_32 : decode cJ6_bitCount_0f7a4 32 = .ok (.iand, 1) := by decide +kernel
theorem dJ6_bitCount_0f7a4_33 : decode cJ6_bitCount_0f7a4 33 = .ok (.istore_n 0, 1) := by decide +kernel
theorem dJ6_bitCount_0f7a4_34 : decode cJ6_bitCount_0f7a4 34 = .ok (.iload_n 0, 1) := by decide +kernel
theorem dJ6_bitCount_0f7a4_35 : decode cJ6_bitCount_0f7a4 35 = .ok (.iload_n 0, 1) := by decide +kernel
theorem dJ6_bitCount_0f7a4_36 : decode cJ6_bitCount_0f7a4 36 = .ok (.bipush 8, 2) := by decide +kernel
theorem dJ6_bitCount_0f7a4_38 : decode cJ6_bitCount_0f7a4 38 = .ok (.iushr, 1) := by decide +kernel
theorem dJ6_bitCount_0f7a4_39 : decode cJ6_bitCount_0f7a4 39 = .ok (.iadd, 1) := by decide +kernel
theorem dJ6_bitCount_0f7a4_40 : decode cJ6_bitCount_0f7a4 40 = .ok (.istore_n 0, 1) := by decide +kernel
theorem dJ6_bitCount_0f7a4_41 : decode cJ6_bitCount_0f7a4 41 = .ok (.iload_n 0, 1) := by decide +kernel
theorem dJ6_bitCount_0f7a4_42 : decode cJ6_bitCount_0f7a4 42 = .ok (.iload_n 0, 1) := by decide +kernel
theorem dJ6_bitCount_0f7a4_43 : decode cJ6_bitCount_0f7a4 43 = .ok (.bipush 16, 2) := by decide +kernel
theorem dJ6_bitCount_0f7a4_45 : decode cJ6_bitCount_0f7a4 45 = .ok (.iushr, 1) := by decide +kernel
theorem dJ6_bitCount_0f7a4_46 : decode cJ6_bitCount_0f7a4 46 = .ok (.iadd, 1) := by decide +kernel
theorem dJ6_bitCount_0f7a4_47 : decode cJ6_bitCount_0f7a4 47 = .ok (.istore_n 0, 1) := by decide +kernel
theorem dJ6_bitCount_0f7a4_48 : decode cJ6_bitCount_0f7a4 48 = .ok (.iload_n 0, 1) := by decide +kernel
theorem dJ6_bitCount_0f7a4_49 : decode cJ6_bitCount_0f7a4 49 = .ok (.bipush 63, 2) := by decide +kernel
theorem dJ6_bitCount_0f7a4_51 : decode cJ6_bitCount_0f7a4 51 = .ok (.iand, 1) := by decide +kernel
theorem dJ6_bitCount_0f7a4_52 : decode cJ6_bitCount_0f7a4 52 = .ok (.ireturn, 1) := by decide +kernel
theorem dJ13_bitCount_95d88_0 : decode cJ13_bitCount_95d88 0 = .ok (.lload_n 0, 1) := by decide +kernel
theorem dJ13_bitCount_95d88_1 : decode cJ13_bitCount_95d88 1 = .ok (.lload_n 0, 1) := by decide +kernel
theorem dJ13_bitCount_95d88_2 : decode cJ13_bitCount_95d88 2 = .ok (.iconst 1, 1) := by decide +kernel
theorem dJ13_bitCount_95d88_3 : decode cJ13_bitCount_95d88 3 = .ok (.lushr, 1) := by decide +kernel
theorem dJ13_bitCount_95d88_4 : decode cJ13_bitCount_95d88 4 = .ok (.ldc2_w 314, 3) := by decide +kernel
theorem dJ13_bitCount_95d88_7 : decode cJ13_bitCount_95d88 7 = .ok (.land, 1) := by decide +kernel
theorem dJ13_bitCount_95d88_8 : decode cJ13_bitCount_95d88 8 = .ok (.lsub, 1) := by decide +kernel
theorem dJ13_bitCount_95d88_9 : decode cJ13_bitCount_95d88 9 = .ok (.lstore_n 0, 1) := by decide +kernel
theorem dJ13_bitCount_95d88_10 : decode cJ13_bitCount_95d88 10 = .ok (.lload_n 0, 1) := by decide +kernel
theorem dJ13_bitCount_95d88_11 : decode cJ13_bitCount_95d88 11 = .ok (.ldc2_w 316, 3) := by decide +kernel
theorem dJ13_bitCount_95d88_14 : decode cJ13_bitCount_95d88 14 = .ok (.land, 1) := by decide +kernel
theorem dJ13_bitCount_95d88_15 : decode cJ13_bitCount_95d88 15 = .ok (.lload_n 0, 1) := by decide +kernel
theorem dJ13_bitCount_95d88_16 : decode cJ13_bitCount_95d88 16 = .ok (.iconst 2, 1) := by decide +kernel
theorem dJ13_bitCount_95d88_17 : decode cJ13_bitCount_95d88 17 = .ok (.lushr, 1) := by decide +kernel
theorem dJ13_bitCount_95d88_18 : decode cJ13_bitCount_95d88 18 = .ok (.ldc2_w 316, 3) := by decide +kernel
theorem dJ13_bitCount_95d88_21 : decode cJ13_bitCount_95d88 21 = .ok (.land, 1) := by decide +kernel
theorem dJ13_bitCount_95d88_22 : decode cJ13_bitCount_95d88 22 = .ok (.ladd, 1) := by decide +kernel
theorem dJ13_bitCount_95d88_23 : decode cJ13_bitCount_95d88 23 = .ok (.lstore_n 0, 1) := by decide +kernel
theorem dJ13_bitCount_95d88_24 : decode cJ13_bitCount_95d88 24 = .ok (.lload_n 0, 1) := by decide +kernel
theorem dJ13_bitCount_95d88_25 : decode cJ13_bitCount_95d88 25 = .ok (.lload_n 0, 1) := by decide +kernel
theorem dJ13_bitCount_95d88_26 : decode cJ13_bitCount_95d88 26 = .ok (.iconst 4, 1) := by decide +kernel
theorem dJ13_bitCount_95d88_27 : decode cJ13_bitCount_95d88 27 = .ok (.lushr, 1) := by decide +kernel
theorem dJ13_bitCount_95d88_28 : decode cJ13_bitCount_95d88 28 = .ok (.ladd, 1) := by decide +kernel
theorem dJ13_bitCount_95d88_29 : decode cJ13_bitCount_95d88 29 = .ok (.ldc2_w 318, 3) := by decide +kernel
theorem dJ13_bitCount_95d88_32 : decode cJ13_bitCount_95d88 32 = .ok (.land, 1) := by decide +kernel
theorem dJ13_bitCount_95d88_33 : decode cJ13_bitCount_95d88 33 = .ok (.lstore_n 0, 1) := by decide +kernel
theorem dJ13_bitCount_95d88_34 : decode cJ13_bitCount_95d88 34 = .ok (.lload_n 0, 1) := by decide +kernel
theorem dJ13_bitCount_95d88_35 : decode cJ13_bitCount_95d88 35 = .ok (.lload_n 0, 1) := by decide +kernel
theorem dJ13_bitCount_95d88_36 : decode cJ13_bitCount_95d88 36 = .ok (.bipush 8, 2) := by decide +kernel
theorem dJ13_bitCount_95d88_38 : decode cJ13_bitCount_95d88 38 = .ok (.lushr, 1) := by decide +kernel
theorem dJ13_bitCount_95d88_39 : decode cJ13_bitCount_95d88 39 = .ok (.ladd, 1) := by decide +kernel
theorem dJ13_bitCount_95d88_40 : decode cJ13_bitCount_95d88 40 = .ok (.lstore_n 0, 1) := by decide +kernel
theorem dJ13_bitCount_95d88_41 : decode cJ13_bitCount_95d88 41 = .ok (.lload_n 0, 1) := by decide +kernel
theorem dJ13_bitCount_95d88_42 : decode cJ13_bitCount_95d88 42 = .ok (.lload_n 0, 1) := by decide +kernel
theorem dJ13_bitCount_95d88_43 : decode cJ13_bitCount_95d88 43 = .ok (.bipush 16, 2) := by decide +kernel
theorem dJ13_bitCount_95d88_45 : decode cJ13_bitCount_95d88 45 = .ok (.lushr, 1) := by decide +kernel
theorem dJ13_bitCount_95d88_46 : decode cJ13_bitCount_95d88 46 = .ok (.ladd, 1) := by decide +kernel
theorem dJ13_bitCount_95d88_47 : decode cJ13_bitCount_95d88 47 = .ok (.lstore_n 0, 1) := by decide +kernel
theorem dJ13_bitCount_95d88_48 : decode cJ13_bitCount_95d88 48 = .ok (.lload_n 0, 1) := by decide +kernel
theorem dJ13_bitCount_95d88_49 : decode cJ13_bitCount_95d88 49 = .ok (.lload_n 0, 1) := by decide +kernel
theorem dJ13_bitCount_95d88_50 : decode cJ13_bitCount_95d88 50 = .ok (.bipush 32, 2) := by decide +kernel
theorem dJ13_bitCount_95d88_52 : decode cJ13_bitCount_95d88 52 = .ok (.lushr, 1) := by decide +kernel
theorem dJ13_bitCount_95d88_53 : decode cJ13_bitCount_95d88 53 = .ok (.ladd, 1) := by decide +kernel
theorem dJ13_bitCount_95d88_54 : decode cJ13_bitCount_95d88 54 = .ok (.lstore_n 0, 1) := by decide +kernel
theorem dJ13_bitCount_95d88_55 : decode cJ13_bitCount_95d88 55 = .ok (.lload_n 0, 1) := by decide +kernel
theorem dJ13_bitCount_95d88_56 : decode cJ13_bitCount_95d88 56 = .ok (.l2i, 1) := by decide +kernel
theorem dJ13_bitCount_95d88_57 : decode cJ13_bitCount_95d88 57 = .ok (.bipush 127, 2) := by decide +kernel
theorem dJ13_bitCount_95d88_59 : decode cJ13_bitCount_95d88 59 = .ok (.iand, 1) := by decide +kernel
theorem dJ13_bitCount_95d88_60 : decode cJ13_bitCount_95d88 60 = .ok (.ireturn, 1) := by decide +kernel
theorem dJ9_abs_0f7a4_0 : decode cJ9_abs_0f7a4 0 = .ok (.iload_n 0, 1) := by decide +kernel
theorem dJ9_abs_0f7a4_1 : decode cJ9_abs_0f7a4 1 = .ok (.ifCond .ge 8, 3) := by decide +kernel
theorem dJ9_abs_0f7a4_4 : decode cJ9_abs_0f7a4 4 = .ok (.iload_n 0, 1) := by decide +kernel
theorem dJ9_abs_0f7a4_5 : decode cJ9_abs_0f7a4 5 = .ok (.ineg, 1) := by decide +kernel
theorem dJ9_abs_0f7a4_6 : decode cJ9_abs_0f7a4 6 = .ok (.goto 4, 3) := by decide +kernel
theorem dJ9_abs_0f7a4_9 : decode cJ9_abs_0f7a4 9 = .ok (.iload_n 0, 1) := by decide +kernel
theorem dJ9_abs_0f7a4_10 : decode cJ9_abs_0f7a4 10 = .ok (.ireturn, 1) := by decide +kernel
theorem dJ9_max_7cf53_0 : decode cJ9_max_7cf53 0 = .ok (.iload_n 0, 1) := by decide +kernel
theorem dJ9_max_7cf53_1 : decode cJ9_max_7cf53 1 = .ok (.iload_n 1, 1) := by decide +kernel
theorem dJ9_max_7cf53_2 : decode cJ9_max_7cf53 2 = .ok (.if_icmp .lt 7, 3) := by decide +kernel
theorem dJ9_max_7cf53_5 : decode cJ9_max_7cf53 5 = .ok (.iload_n 0, 1) := by decide +kernel
theorem dJ9_max_7cf53_6 : decode cJ9_max_7cf53 6 = .ok (.goto 4, 3) := by decide +kernel
theorem dJ9_max_7cf53_9 : decode cJ9_max_7cf53 9 = .ok (.iload_n 1, 1) := by decide +kernel
theorem dJ9_max_7cf53_10 : decode cJ9_max_7cf53 10 = .ok (.ireturn, 1) := by decide +kernel
theorem dJ9_min_7cf53_0 : decode cJ9_min_7cf53 0 = .ok (.iload_n 0, 1) := by decide +kernel
theorem dJ9_min_7cf53_1 : decode cJ9_min_7cf53 1 = .ok (.iload_n 1, 1) := by decide +kernel
theorem dJ9_min_7cf53_2 : decode cJ9_min_7cf53 2 = .ok (.if_icmp .gt 7, 3) := by decide +kernel
theorem dJ9_min_7cf53_5 : decode cJ9_min_7cf53 5 = .ok (.iload_n 0, 1) := by decide +kernel
theorem dJ9_min_7cf53_6 : decode cJ9_min_7cf53 6 = .ok (.goto 4, 3) := by decide +kernel
theorem dJ9_min_7cf53_9 : decode cJ9_min_7cf53 9 = .ok (.iload_n 1, 1) := by decide +kernel
theorem dJ9_min_7cf53_10 : decode cJ9_min_7cf53 10 = .ok (.ireturn, 1) := by decide +kernel
theorem dJ7_rangeCheck_23922_0 : decode cJ7_rangeCheck_23922 0 = .ok (.iload_n 1, 1) := by decide +kernel
theorem dJ7_rangeCheck_23922_1 : decode cJ7_rangeCheck_23922 1 = .ok (.iload_n 2, 1) := by decide +kernel
theorem dJ7_rangeCheck_23922_2 : decode cJ7_rangeCheck_23922 2 = .ok (.if_icmp .le 44, 3) := by decide +kernel
theorem dJ7_rangeCheck_23922_5 : decode cJ7_rangeCheck_23922 5 = .ok (.new 43, 3) := by decide +kernel
theorem dJ7_rangeCheck_23922_8 : decode cJ7_rangeCheck_23922 8 = .ok (.dup, 1) := by decide +kernel
theorem dJ7_rangeCheck_23922_9 : decode cJ7_rangeCheck_23922 9 = .ok (.new 45, 3) := by decide +kernel
theorem dJ7_rangeCheck_23922_12 : decode cJ7_rangeCheck_23922 12 = .ok (.dup, 1) := by decide +kernel
theorem dJ7_rangeCheck_23922_13 : decode cJ7_rangeCheck_23922 13 = .ok (.invokespecial 47, 3) := by decide +kernel
theorem dJ7_rangeCheck_23922_16 : decode cJ7_rangeCheck_23922 16 = .ok (.ldc 48, 2) := by decide +kernel
theorem dJ7_rangeCheck_23922_18 : decode cJ7_rangeCheck_23922 18 = .ok (.invokevirtual 50, 3) := by decide +kernel
theorem dJ7_rangeCheck_23922_21 : decode cJ7_rangeCheck_23922 21 = .ok (.iload_n 1, 1) := by decide +kernel
theorem dJ7_rangeCheck_23922_22 : decode cJ7_rangeCheck_23922 22 = .ok (.invokevirtual 54, 3) := by decide +kernel
theorem dJ7_rangeCheck_23922_25 : decode cJ7_rangeCheck_23922 25 = .ok (.ldc 57, 2) := by decide +kernel
theorem dJ7_rangeCheck_23922_27 : decode cJ7_rangeCheck_23922 27 = .ok (.invokevirtual 50, 3) := by decide +kernel
theorem dJ7_rangeCheck_23922_30 : decode cJ7_rangeCheck_23922 30 = .ok (.iload_n 2, 1) := by decide +kernel
theorem dJ7_rangeCheck_23922_31 : decode cJ7_rangeCheck_23922 31 = .ok (.invokevirtual 54, 3) := by decide +kernel
theorem dJ7_rangeCheck_23922_34 : decode cJ7_rangeCheck_23922 34 = .ok (.ldc 59, 2) := by decide +kernel
theorem dJ7_rangeCheck_23922_36 : decode cJ7_rangeCheck_23922 36 = .ok (.invokevirtual 50, 3) := by decide +kernel
theorem dJ7_rangeCheck_23922_39 : decode cJ7_rangeCheck_23922 39 = .ok (.invokevirtual 61, 3) := by decide +kernel
theorem dJ7_rangeCheck_23922_42 : decode cJ7_rangeCheck_23922 42 = .ok (.invokespecial 65, 3) := by decide +kernel
theorem dJ7_rangeCheck_23922_45 : decode cJ7_rangeCheck_23922 45 = .ok (.athrow, 1) := by decide +kernel
theorem dJ7_rangeCheck_23922_46 : decode cJ7_rangeCheck_23922 46 = .ok (.iload_n 1, 1) := by decide +kernel
theorem dJ7_rangeCheck_23922_47 : decode cJ7_rangeCheck_23922 47 = .ok (.ifCond .ge 12, 3) := by decide +kernel
theorem dJ7_rangeCheck_23922_50 : decode cJ7_rangeCheck_23922 50 = .ok (.new 68, 3) := by decide +kernel
theorem dJ7_rangeCheck_23922_53 : decode cJ7_rangeCheck_23922 53 = .ok (.dup, 1) := by decide +kernel
theorem dJ7_rangeCheck_23922_54 : decode cJ7_rangeCheck_23922 54 = .ok (.iload_n 1, 1) := by decide +kernel
theorem dJ7_rangeCheck_23922_55 : decode cJ7_rangeCheck_23922 55 = .ok (.invokespecial 70, 3) := by decide +kernel
theorem dJ7_rangeCheck_23922_58 : decode cJ7_rangeCheck_23922 58 = .ok (.athrow, 1) := by decide +kernel
theorem dJ7_rangeCheck_23922_59 : decode cJ7_rangeCheck_23922 59 = .ok (.iload_n 2, 1) := by decide +kernel
theorem dJ7_rangeCheck_23922_60 : decode cJ7_rangeCheck_23922 60 = .ok (.iload_n 0, 1) := by decide +kernel
theorem dJ7_rangeCheck_23922_61 : decode cJ7_rangeCheck_23922 61 = .ok (.if_icmp .le 12, 3) := by decide +kernel
theorem dJ7_rangeCheck_23922_64 : decode cJ7_rangeCheck_23922 64 = .ok (.new 68, 3) := by decide +kernel
theorem dJ7_rangeCheck_23922_67 : decode cJ7_rangeCheck_23922 67 = .ok (.dup, 1) := by decide +kernel
theorem dJ7_rangeCheck_23922_68 : decode cJ7_rangeCheck_23922 68 = .ok (.iload_n 2, 1) := by decide +kernel
theorem dJ7_rangeCheck_23922_69 : decode cJ7_rangeCheck_23922 69 = .ok (.invokespecial 70, 3) := by decide +kernel
theorem dJ7_rangeCheck_23922_72 : decode cJ7_rangeCheck_23922 72 = .ok (.athrow, 1) := by decide +kernel
theorem dJ7_rangeCheck_23922_73 : decode cJ7_rangeCheck_23922 73 = .ok (.return_, 1) := by decide +kernel
theorem dJ7_fill_53178_0 : decode cJ7_fill_53178 0 = .ok (.iconst 0, 1) := by decide +kernel
theorem dJ7_fill_53178_1 : decode cJ7_fill_53178 1 = .ok (.istore_n 2, 1) := by decide +kernel
theorem dJ7_fill_53178_2 : decode cJ7_fill_53178 2 = .ok (.aload_n 0, 1) := by decide +kernel
theorem dJ7_fill_53178_3 : decode cJ7_fill_53178 3 = .ok (.arraylength, 1) := by decide +kernel
theorem dJ7_fill_53178_4 : decode cJ7_fill_53178 4 = .ok (.istore_n 3, 1) := by decide +kernel
theorem dJ7_fill_53178_5 : decode cJ7_fill_53178 5 = .ok (.iload_n 2, 1) := by decide +kernel
theorem dJ7_fill_53178_6 : decode cJ7_fill_53178 6 = .ok (.iload_n 3, 1) := by decide +kernel
theorem dJ7_fill_53178_7 : decode cJ7_fill_53178 7 = .ok (.if_icmp .ge 13, 3) := by decide +kernel
theorem dJ7_fill_53178_10 : decode cJ7_fill_53178 10 = .ok (.aload_n 0, 1) := by decide +kernel
theorem dJ7_fill_53178_11 : decode cJ7_fill_53178 11 = .ok (.iload_n 2, 1) := by decide +kernel
theorem dJ7_fill_53178_12 : decode cJ7_fill_53178 12 = .ok (.iload_n 1, 1) := by decide +kernel
theorem dJ7_fill_53178_13 : decode cJ7_fill_53178 13 = .ok (.iastore, 1) := by decide +kernel
theorem dJ7_fill_53178_14 : decode cJ7_fill_53178 14 = .ok (.iinc 2 1, 3) := by decide +kernel
theorem dJ7_fill_53178_17 : decode cJ7_fill_53178 17 = .ok (.goto (-12), 3) := by decide +kernel
theorem dJ7_fill_53178_20 : decode cJ7_fill_53178 20 = .ok (.return_, 1) := by decide +kernel
theorem dJ7_fill_fda19_0 : decode cJ7_fill_fda19 0 = .ok (.aload_n 0, 1) := by decide +kernel
theorem dJ7_fill_fda19_1 : decode cJ7_fill_fda19 1 = .ok (.arraylength, 1) := by decide +kernel
theorem dJ7_fill_fda19_2 : decode cJ7_fill_fda19 2 = .ok (.iload_n 1, 1) := by decide +kernel
theorem dJ7_fill_fda19_3 : decode cJ7_fill_fda19 3 = .ok (.iload_n 2, 1) := by decide +kernel
theorem dJ7_fill_fda19_4 : decode cJ7_fill_fda19 4 = .ok (.invokestatic 13, 3) := by decide +kernel
theorem dJ7_fill_fda19_7 : decode cJ7_fill_fda19 7 = .ok (.iload_n 1, 1) := by decide +kernel
theorem dJ7_fill_fda19_8 : decode cJ7_fill_fda19 8 = .ok (.istore 4, 2) := by decide +kernel
theorem dJ7_fill_fda19_10 : decode cJ7_fill_fda19 10 = .ok (.iload 4, 2) := by decide +kernel
theorem dJ7_fill_fda19_12 : decode cJ7_fill_fda19 12 = .ok (.iload_n 2, 1) := by decide +kernel
theorem dJ7_fill_fda19_13 : decode cJ7_fill_fda19 13 = .ok (.if_icmp .ge 14, 3) := by decide +kernel
theorem dJ7_fill_fda19_16 : decode cJ7_fill_fda19 16 = .ok (.aload_n 0, 1) := by decide +kernel
theorem dJ7_fill_fda19_17 : decode cJ7_fill_fda19 17 = .ok (.iload 4, 2) := by decide +kernel
theorem dJ7_fill_fda19_19 : decode cJ7_fill_fda19 19 = .ok (.iload_n 3, 1) := by decide +kernel
theorem dJ7_fill_fda19_20 : decode cJ7_fill_fda19 20 = .ok (.iastore, 1) := by decide +kernel
theorem dJ7_fill_fda19_21 : decode cJ7_fill_fda19 21 = .ok (.iinc 4 1, 3) := by decide +kernel
theorem dJ7_fill_fda19_24 : decode cJ7_fill_fda19 24 = .ok (.goto (-14), 3) := by decide +kernel
theorem dJ7_fill_fda19_27 : decode cJ7_fill_fda19 27 = .ok (.return_, 1) := by decide +kernel
theorem dL_law_0 : decode cL_law 0 = .ok (.new 7, 3) := by decide +kernel
theorem dL_law_3 : decode cL_law 3 = .ok (.dup, 1) := by decide +kernel
theorem dL_law_4 : decode cL_law 4 = .ok (.invokespecial 9, 3) := by decide +kernel
theorem dL_law_7 : decode cL_law 7 = .ok (.astore_n 1, 1) := by decide +kernel
theorem dL_law_8 : decode cL_law 8 = .ok (.new 10, 3) := by decide +kernel
theorem dL_law_11 : decode cL_law 11 = .ok (.dup, 1) := by decide +kernel
theorem dL_law_12 : decode cL_law 12 = .ok (.invokespecial 12, 3) := by decide +kernel
theorem dL_law_15 : decode cL_law 15 = .ok (.astore_n 2, 1) := by decide +kernel
theorem dL_law_16 : decode cL_law 16 = .ok (.iconst 0, 1) := by decide +kernel
theorem dL_law_17 : decode cL_law 17 = .ok (.istore_n 3, 1) := by decide +kernel
theorem dL_law_18 : decode cL_law 18 = .ok (.iload_n 3, 1) := by decide +kernel
theorem dL_law_19 : decode cL_law 19 = .ok (.aload_n 0, 1) := by decide +kernel
theorem dL_law_20 : decode cL_law 20 = .ok (.arraylength, 1) := by decide +kernel
theorem dL_law_21 : decode cL_law 21 = .ok (.iconst 4, 1) := by decide +kernel
theorem dL_law_22 : decode cL_law 22 = .ok (.isub, 1) := by decide +kernel
theorem dL_law_23 : decode cL_law 23 = .ok (.if_icmp .gt 874, 3) := by decide +kernel
theorem dL_law_26 : decode cL_law 26 = .ok (.aload_n 0, 1) := by decide +kernel
theorem dL_law_27 : decode cL_law 27 = .ok (.iload_n 3, 1) := by decide +kernel
theorem dL_law_28 : decode cL_law 28 = .ok (.iaload, 1) := by decide +kernel
theorem dL_law_29 : decode cL_law 29 = .ok (.bipush 31, 2) := by decide +kernel
theorem dL_law_31 : decode cL_law 31 = .ok (.iand, 1) := by decide +kernel
theorem dL_law_32 : decode cL_law 32 = .ok (.tableswitch 859 0 25 #[120, 183, 196, 209, 222, 255, 288, 321, 355, 398, 431, 464, 497, 530, 553, 596, 629, 662, 675, 698, 721, 754, 767, 810, 823, 836], 120) := by decide +kernel
theorem dL_law_152 : decode cL_law 152 = .ok (.aload_n 1, 1) := by decide +kernel
theorem dL_law_153 : decode cL_law 153 = .ok (.aload_n 0, 1) := by decide +kernel
theorem dL_law_154 : decode cL_law 154 = .ok (.iload_n 3, 1) := by decide +kernel
theorem dL_law_155 : decode cL_law 155 = .ok (.iconst 1, 1) := by decide +kernel
theorem dL_law_156 : decode cL_law 156 = .ok (.iadd, 1) := by decide +kernel
theorem dL_law_157 : decode cL_law 157 = .ok (.iaload, 1) := by decide +kernel
theorem dL_law_158 : decode cL_law 158 = .ok (.aload_n 0, 1) := by decide +kernel
theorem dL_law_159 : decode cL_law 159 = .ok (.iload_n 3, 1) := by decide +kernel
theorem dL_law_160 : decode cL_law 160 = .ok (.iconst 2, 1) := by decide +kernel
theorem dL_law_161 : decode cL_law 161 = .ok (.iadd, 1) := by decide +kernel
theorem dL_law_162 : decode cL_law 162 = .ok (.iaload, 1) := by decide +kernel
theorem dL_law_163 : decode cL_law 163 = .ok (.i2l, 1) := by decide +kernel
theorem dL_law_164 : decode cL_law 164 = .ok (.bipush 32, 2) := by decide +kernel
theorem dL_law_166 : decode cL_law 166 = .ok (.lshl, 1) := by decide +kernel
theorem dL_law_167 : decode cL_law 167 = .ok (.aload_n 0, 1) := by decide +kernel
theorem dL_law_168 : decode cL_law 168 = .ok (.iload_n 3, 1) := by decide +kernel
theorem dL_law_169 : decode cL_law 169 = .ok (.iconst 3, 1) := by decide +kernel
theorem dL_law_170 : decode cL_law 170 = .ok (.iadd, 1) := by decide +kernel
theorem dL_law_171 : decode cL_law 171 = .ok (.iaload, 1) := by decide +kernel
theorem dL_law_172 : decode cL_law 172 = .ok (.i2l, 1) := by decide +kernel
theorem dL_law_173 : decode cL_law 173 = .ok (.ldc2_w 13, 3) := by decide +kernel
theorem dL_law_176 : decode cL_law 176 = .ok (.land, 1) := by decide +kernel
theorem dL_law_177 : decode cL_law 177 = .ok (.lor, 1) := by decide +kernel
theorem dL_law_178 : decode cL_law 178 = .ok (.invokevirtual 15, 3) := by decide +kernel
theorem dL_law_181 : decode cL_law 181 = .ok (.aload_n 2, 1) := by decide +kernel
theorem dL_law_182 : decode cL_law 182 = .ok (.aload_n 0, 1) := by decide +kernel
theorem dL_law_183 : decode cL_law 183 = .ok (.iload_n 3, 1) := by decide +kernel
theorem dL_law_184 : decode cL_law 184 = .ok (.iconst 1, 1) := by decide +kernel
theorem dL_law_185 : decode cL_law 185 = .ok (.iadd, 1) := by decide +kernel
theorem dL_law_186 : decode cL_law 186 = .ok (.iaload, 1) := by decide +kernel
theorem dL_law_187 : decode cL_law 187 = .ok (.aload_n 0, 1) := by decide +kernel
theorem dL_law_188 : decode cL_law 188 = .ok (.iload_n 3, 1) := by decide +kernel
theorem dL_law_189 : decode cL_law 189 = .ok (.iconst 2, 1) := by decide +kernel
theorem dL_law_190 : decode cL_law 190 = .ok (.iadd, 1) := by decide +kernel
theorem dL_law_191 : decode cL_law 191 = .ok (.iaload, 1) := by decide +kernel
theorem dL_law_192 : decode cL_law 192 = .ok (.i2l, 1) := by decide +kernel
theorem dL_law_193 : decode cL_law 193 = .ok (.bipush 32, 2) := by decide +kernel
theorem dL_law_195 : decode cL_law 195 = .ok (.lshl, 1) := by decide +kernel
theorem dL_law_196 : decode cL_law 196 = .ok (.aload_n 0, 1) := by decide +kernel
theorem dL_law_197 : decode cL_law 197 = .ok (.iload_n 3, 1) := by decide +kernel
theorem dL_law_198 : decode cL_law 198 = .ok (.iconst 3, 1) := by decide +kernel
theorem dL_law_199 : decode cL_law 199 = .ok (.iadd, 1) := by decide +kernel
theorem dL_law_200 : decode cL_law 200 = .ok (.iaload, 1) := by decide +kernel
theorem dL_law_201 : decode cL_law 201 = .ok (.i2l, 1) := by decide +kernel
theorem dL_law_202 : decode cL_law 202 = .ok (.ldc2_w 13, 3) := by decide +kernel
theorem dL_law_205 : decode cL_law 205 = .ok (.land, 1) := by decide +kernel
theorem dL_law_206 : decode cL_law 206 = .ok (.lor, 1) := by decide +kernel
theorem dL_law_207 : decode cL_law 207 = .ok (.invokevirtual 19, 3) := by decide +kernel
theorem dL_law_210 : decode cL_law 210 = .ok (.if_icmp .eq 681, 3) := by decide +kernel
theorem dL_law_213 : decode cL_law 213 = .ok (.iconst 0, 1) := by decide +kernel
theorem dL_law_214 : decode cL_law 214 = .ok (.ireturn, 1) := by decide +kernel
theorem dL_law_215 : decode cL_law 215 = .ok (.aload_n 1, 1) := by decide +kernel
theorem dL_law_216 : decode cL_law 216 = .ok (.invokevirtual 20, 3) := by decide +kernel
theorem dL_law_219 : decode cL_law 219 = .ok (.aload_n 2, 1) := by decide +kernel
theorem dL_law_220 : decode cL_law 220 = .ok (.invokevirtual 24, 3) := by decide +kernel
theorem dL_law_223 : decode cL_law 223 = .ok (.if_icmp .eq 668, 3) := by decide +kernel
theorem dL_law_226 : decode cL_law 226 = .ok (.iconst 0, 1) := by decide +kernel
theorem dL_law_227 : decode cL_law 227 = .ok (.ireturn, 1) := by decide +kernel
theorem dL_law_228 : decode cL_law 228 = .ok (.aload_n 1, 1) := by decide +kernel
theorem dL_law_229 : decode cL_law 229 = .ok (.invokevirtual 25, 3) := by decide +kernel
theorem dL_law_232 : decode cL_law 232 = .ok (.aload_n 2, 1) := by decide +kernel
theorem dL_law_233 : decode cL_law 233 = .ok (.invokevirtual 28, 3) := by decide +kernel
theorem dL_law_236 : decode cL_law 236 = .ok (.if_icmp .eq 655, 3) := by decide +kernel
theorem dL_law_239 : decode cL_law 239 = .ok (.iconst 0, 1) := by decide +kernel
theorem dL_law_240 : decode cL_law 240 = .ok (.ireturn, 1) := by decide +kernel
theorem dL_law_241 : decode cL_law 241 = .ok (.aload_n 1, 1) := by decide +kernel
theorem dL_law_242 : decode cL_law 242 = .ok (.invokevirtual 29, 3) := by decide +kernel
theorem dL_law_245 : decode cL_law 245 = .ok (.aload_n 2, 1) := by decide +kernel
theorem dL_law_246 : decode cL_law 246 = .ok (.invokevirtual 32, 3) := by decide +kernel
theorem dL_law_249 : decode cL_law 249 = .ok (.if_icmp .eq 642, 3) := by decide +kernel
theorem dL_law_252 : decode cL_law 252 = .ok (.iconst 0, 1) := by decide +kernel
theorem dL_law_253 : decode cL_law 253 = .ok (.ireturn, 1) := by decide +kernel
theorem dL_law_254 : decode cL_law 254 = .ok (.aload_n 1, 1) := by decide +kernel
theorem dL_law_255 : decode cL_law 255 = .ok (.aload_n 0, 1) := by decide +kernel
theorem dL_law_256 : decode cL_law 256 = .ok (.iload_n 3, 1) := by decide +kernel
theorem dL_law_257 : decode cL_law 257 = .ok (.iconst 1, 1) := by decide +kernel
theorem dL_law_258 : decode cL_law 258 = .ok (.iadd, 1) := by decide +kernel
theorem dL_law_259 : decode cL_law 259 = .ok (.iaload, 1) := by decide +kernel
theorem dL_law_260 : decode cL_law 260 = .ok (.aload_n 0, 1) := by decide +kernel
theorem dL_law_261 : decode cL_law 261 = .ok (.iload_n 3, 1) := by decide +kernel
theorem dL_law_262 : decode cL_law 262 = .ok (.iconst 2, 1) := by decide +kernel
theorem dL_law_263 : decode cL_law 263 = .ok (.iadd, 1) := by decide +kernel
theorem dL_law_264 : decode cL_law 264 = .ok (.iaload, 1) := by decide +kernel
theorem dL_law_265 : decode cL_law 265 = .ok (.invokevirtual 33, 3) := by decide +kernel
theorem dL_law_268 : decode cL_law 268 = .ok (.aload_n 2, 1) := by decide +kernel
theorem dL_law_269 : decode cL_law 269 = .ok (.aload_n 0, 1) := by decide +kernel
theorem dL_law_270 : decode cL_law 270 = .ok (.iload_n 3, 1) := by decide +kernel
theorem dL_law_271 : decode cL_law 271 = .ok (.iconst 1, 1) := by decide +kernel
theorem dL_law_272 : decode cL_law 272 = .ok (.iadd, 1) := by decide +kernel
theorem dL_law_273 : decode cL_law 273 = .ok (.iaload, 1) := by decide +kernel
theorem dL_law_274 : decode cL_law 274 = .ok (.aload_n 0, 1) := by decide +kernel
theorem dL_law_275 : decode cL_law 275 = .ok (.iload_n 3, 1) := by decide +kernel
theorem dL_law_276 : decode cL_law 276 = .ok (.iconst 2, 1) := by decide +kernel
theorem dL_law_277 : decode cL_law 277 = .ok (.iadd, 1) := by decide +kernel
theorem dL_law_278 : decode cL_law 278 = .ok (.iaload, 1) := by decide +kernel
theorem dL_law_279 : decode cL_law 279 = .ok (.invokevirtual 37, 3) := by decide +kernel
theorem dL_law_282 : decode cL_law 282 = .ok (.if_icmp .eq 609, 3) := by decide +kernel
theorem dL_law_285 : decode cL_law 285 = .ok (.iconst 0, 1) := by decide +kernel
theorem dL_law_286 : decode cL_law 286 = .ok (.ireturn, 1) := by decide +kernel
theorem dL_law_287 : decode cL_law 287 = .ok (.aload_n 1, 1) := by decide +kernel
theorem dL_law_288 : decode cL_law 288 = .ok (.aload_n 0, 1) := by decide +kernel
theorem dL_law_289 : decode cL_law 289 = .ok (.iload_n 3, 1) := by decide +kernel
theorem dL_law_290 : decode cL_law 290 = .ok (.iconst 1, 1) := by decide +kernel
theorem dL_law_291 : decode cL_law 291 = .ok (.iadd, 1) := by decide +kernel
theorem dL_law_292 : decode cL_law 292 = .ok (.iaload, 1) := by decide +kernel
theorem dL_law_293 : decode cL_law 293 = .ok (.aload_n 0, 1) := by decide +kernel
theorem dL_law_294 : decode cL_law 294 = .ok (.iload_n 3, 1) := by decide +kernel
theorem dL_law_295 : decode cL_law 295 = .ok (.iconst 2, 1) := by decide +kernel
theorem dL_law_296 : decode cL_law 296 = .ok (.iadd, 1) := by decide +kernel
theorem dL_law_297 : decode cL_law 297 = .ok (.iaload, 1) := by decide +kernel
theorem dL_law_298 : decode cL_law 298 = .ok (.invokevirtual 38, 3) := by decide +kernel
theorem dL_law_301 : decode cL_law 301 = .ok (.aload_n 2, 1) := by decide +kernel
theorem dL_law_302 : decode cL_law 302 = .ok (.aload_n 0, 1) := by decide +kernel
theorem dL_law_303 : decode cL_law 303 = .ok (.iload_n 3, 1) := by decide +kernel
theorem dL_law_304 : decode cL_law 304 = .ok (.iconst 1, 1) := by decide +kernel
theorem dL_law_305 : decode cL_law 305 = .ok (.iadd, 1) := by decide +kernel
theorem dL_law_306 : decode cL_law 306 = .ok (.iaload, 1) := by decide +kernel
theorem dL_law_307 : decode cL_law 307 = .ok (.aload_n 0, 1) := by decide +kernel
theorem dL_law_308 : decode cL_law 308 = .ok (.iload_n 3, 1) := by decide +kernel
theorem dL_law_309 : decode cL_law 309 = .ok (.iconst 2, 1) := by decide +kernel
theorem dL_law_310 : decode cL_law 310 = .ok (.iadd, 1) := by decide +kernel
theorem dL_law_311 : decode cL_law 311 = .ok (.iaload, 1) := by decide +kernel
theorem dL_law_312 : decode cL_law 312 = .ok (.invokevirtual 41, 3) := by decide +kernel
theorem dL_law_315 : decode cL_law 315 = .ok (.if_icmp .eq 576, 3) := by decide +kernel
theorem dL_law_318 : decode cL_law 318 = .ok (.iconst 0, 1) := by decide +kernel
theorem dL_law_319 : decode cL_law 319 = .ok (.ireturn, 1) := by decide +kernel
theorem dL_law_320 : decode cL_law 320 = .ok (.aload_n 1, 1) := by decide +kernel
theorem dL_law_321 : decode cL_law 321 = .ok (.aload_n 0, 1) := by decide +kernel
theorem dL_law_322 : decode cL_law 322 = .ok (.iload_n 3, 1) := by decide +kernel
theorem dL_law_323 : decode cL_law 323 = .ok (.iconst 1, 1) := by decide +kernel
theorem dL_law_324 : decode cL_law 324 = .ok (.iadd, 1) := by decide +kernel
theorem dL_law_325 : decode cL_law 325 = .ok (.iaload, 1) := by decide +kernel
theorem dL_law_326 : decode cL_law 326 = .ok (.aload_n 0, 1) := by decide +kernel
theorem dL_law_327 : decode cL_law 327 = .ok (.iload_n 3, 1) := by decide +kernel
theorem dL_law_328 : decode cL_law 328 = .ok (.iconst 2, 1) := by decide +kernel
theorem dL_law_329 : decode cL_law 329 = .ok (.iadd, 1) := by decide +kernel
theorem dL_law_330 : decode cL_law 330 = .ok (.iaload, 1) := by decide +kernel
theorem dL_law_331 : decode cL_law 331 = .ok (.invokevirtual 42, 3) := by decide +kernel
theorem dL_law_334 : decode cL_law 334 = .ok (.aload_n 2, 1) := by decide +kernel
theorem dL_law_335 : decode cL_law 335 = .ok (.aload_n 0, 1) := by decide +kernel
theorem dL_law_336 : decode cL_law 336 = .ok (.iload_n 3, 1) := by decide +kernel
theorem dL_law_337 : decode cL_law 337 = .ok (.iconst 1, 1) := by decide +kernel
theorem dL_law_338 : decode cL_law 338 = .ok (.iadd, 1) := by decide +kernel
theorem dL_law_339 : decode cL_law 339 = .ok (.iaload, 1) := by decide +kernel
theorem dL_law_340 : decode cL_law 340 = .ok (.aload_n 0, 1) := by decide +kernel
theorem dL_law_341 : decode cL_law 341 = .ok (.iload_n 3, 1) := by decide +kernel
theorem dL_law_342 : decode cL_law 342 = .ok (.iconst 2, 1) := by decide +kernel
theorem dL_law_343 : decode cL_law 343 = .ok (.iadd, 1) := by decide +kernel
theorem dL_law_344 : decode cL_law 344 = .ok (.iaload, 1) := by decide +kernel
theorem dL_law_345 : decode cL_law 345 = .ok (.invokevirtual 45, 3) := by decide +kernel
theorem dL_law_348 : decode cL_law 348 = .ok (.if_icmp .eq 543, 3) := by decide +kernel
theorem dL_law_351 : decode cL_law 351 = .ok (.iconst 0, 1) := by decide +kernel
theorem dL_law_352 : decode cL_law 352 = .ok (.ireturn, 1) := by decide +kernel
theorem dL_law_353 : decode cL_law 353 = .ok (.aload_n 1, 1) := by decide +kernel
theorem dL_law_354 : decode cL_law 354 = .ok (.aload_n 0, 1) := by decide +kernel
theorem dL_law_355 : decode cL_law 355 = .ok (.iload_n 3, 1) := by decide +kernel
theorem dL_law_356 : decode cL_law 356 = .ok (.iconst 1, 1) := by decide +kernel
theorem dL_law_357 : decode cL_law 357 = .ok (.iadd, 1) := by decide +kernel
theorem dL_law_358 : decode cL_law 358 = .ok (.iaload, 1) := by decide +kernel
theorem dL_law_359 : decode cL_law 359 = .ok (.aload_n 0, 1) := by decide +kernel
theorem dL_law_360 : decode cL_law 360 = .ok (.iload_n 3, 1) := by decide +kernel
theorem dL_law_361 : decode cL_law 361 = .ok (.iconst 2, 1) := by decide +kernel
theorem dL_law_362 : decode cL_law 362 = .ok (.iadd, 1) := by decide +kernel
theorem dL_law_363 : decode cL_law 363 = .ok (.iaload, 1) := by decide +kernel
theorem dL_law_364 : decode cL_law 364 = .ok (.invokevirtual 46, 3) := by decide +kernel
theorem dL_law_367 : decode cL_law 367 = .ok (.aload_n 2, 1) := by decide +kernel
theorem dL_law_368 : decode cL_law 368 = .ok (.aload_n 0, 1) := by decide +kernel
theorem dL_law_369 : decode cL_law 369 = .ok (.iload_n 3, 1) := by decide +kernel
theorem dL_law_370 : decode cL_law 370 = .ok (.iconst 1, 1) := by decide +kernel
theorem dL_law_371 : decode cL_law 371 = .ok (.iadd, 1) := by decide +kernel
theorem dL_law_372 : decode cL_law 372 = .ok (.iaload, 1) := by decide +kernel
theorem dL_law_373 : decode cL_law 373 = .ok (.aload_n 0, 1) := by decide +kernel
theorem dL_law_374 : decode cL_law 374 = .ok (.iload_n 3, 1) := by decide +kernel
theorem dL_law_375 : decode cL_law 375 = .ok (.iconst 2, 1) := by decide +kernel
theorem dL_law_376 : decode cL_law 376 = .ok (.iadd, 1) := by decide +kernel
theorem dL_law_377 : decode cL_law 377 = .ok (.iaload, 1) := by decide +kernel
theorem dL_law_378 : decode cL_law 378 = .ok (.invokevirtual 50, 3) := by decide +kernel
theorem dL_law_381 : decode cL_law 381 = .ok (.lcmp, 1) := by decide +kernel
theorem dL_law_382 : decode cL_law 382 = .ok (.ifCond .eq 509, 3) := by decide +kernel
theorem dL_law_385 : decode cL_law 385 = .ok (.iconst 0, 1) := by decide +kernel
theorem dL_law_386 : decode cL_law 386 = .ok (.ireturn, 1) := by decide +kernel
theorem dL_law_387 : decode cL_law 387 = .ok (.aload_n 1, 1) := by decide +kernel
theorem dL_law_388 : decode cL_law 388 = .ok (.aload_n 0, 1) := by decide +kernel
theorem dL_law_389 : decode cL_law 389 = .ok (.iload_n 3, 1) := by decide +kernel
theorem dL_law_390 : decode cL_law 390 = .ok (.iconst 1, 1) := by decide +kernel
theorem dL_law_391 : decode cL_law 391 = .ok (.iadd, 1) := by decide +kernel
theorem dL_law_392 : decode cL_law 392 = .ok (.iaload, 1) := by decide +kernel
theorem dL_law_393 : decode cL_law 393 = .ok (.aload_n 0, 1) := by decide +kernel
theorem dL_law_394 : decode cL_law 394 = .ok (.iload_n 3, 1) := by decide +kernel
theorem dL_law_395 : decode cL_law 395 = .ok (.iconst 2, 1) := by decide +kernel
theorem dL_law_396 : decode cL_law 396 = .ok (.iadd, 1) := by decide +kernel
theorem dL_law_397 : decode cL_law 397 = .ok (.iaload, 1) := by decide +kernel
theorem dL_law_398 : decode cL_law 398 = .ok (.aload_n 0, 1) := by decide +kernel
theorem dL_law_399 : decode cL_law 399 = .ok (.iload_n 3, 1) := by decide +kernel
theorem dL_law_400 : decode cL_law 400 = .ok (.iconst 3, 1) := by decide +kernel
theorem dL_law_401 : decode cL_law 401 = .ok (.iadd, 1) := by decide +kernel
theorem dL_law_402 : decode cL_law 402 = .ok (.iaload, 1) := by decide +kernel
theorem dL_law_403 : decode cL_law 403 = .ok (.invokevirtual 51, 3) := by decide +kernel
theorem dL_law_406 : decode cL_law 406 = .ok (.aload_n 2, 1) := by decide +kernel
theorem dL_law_407 : decode cL_law 407 = .ok (.aload_n 0, 1) := by decide +kernel
theorem dL_law_408 : decode cL_law 408 = .ok (.iload_n 3, 1) := by decide +kernel
theorem dL_law_409 : decode cL_law 409 = .ok (.iconst 1, 1) := by decide +kernel
theorem dL_law_410 : decode cL_law 410 = .ok (.iadd, 1) := by decide +kernel
theorem dL_law_411 : decode cL_law 411 = .ok (.iaload, 1) := by decide +kernel
theorem dL_law_412 : decode cL_law 412 = .ok (.aload_n 0, 1) := by decide +kernel
theorem dL_law_413 : decode cL_law 413 = .ok (.iload_n 3, 1) := by decide +kernel
theorem dL_law_414 : decode cL_law 414 = .ok (.iconst 2, 1) := by decide +kernel
theorem dL_law_415 : decode cL_law 415 = .ok (.iadd, 1) := by decide +kernel
theorem dL_law_416 : decode cL_law 416 = .ok (.iaload, 1) := by decide +kernel
theorem dL_law_417 : decode cL_law 417 = .ok (.aload_n 0, 1) := by decide +kernel
theorem dL_law_418 : decode cL_law 418 = .ok (.iload_n 3, 1) := by decide +kernel
theorem dL_law_419 : decode cL_law 419 = .ok (.iconst 3, 1) := by decide +kernel
theorem dL_law_420 : decode cL_law 420 = .ok (.iadd, 1) := by decide +kernel
theorem dL_law_421 : decode cL_law 421 = .ok (.iaload, 1) := by decide +kernel
theorem dL_law_422 : decode cL_law 422 = .ok (.invokevirtual 55, 3) := by decide +kernel
theorem dL_law_425 : decode cL_law 425 = .ok (.if_icmp .eq 466, 3) := by decide +kernel
theorem dL_law_428 : decode cL_law 428 = .ok (.iconst 0, 1) := by decide +kernel
theorem dL_law_429 : decode cL_law 429 = .ok (.ireturn, 1) := by decide +kernel
theorem dL_law_430 : decode cL_law 430 = .ok (.aload_n 1, 1) := by decide +kernel
theorem dL_law_431 : decode cL_law 431 = .ok (.aload_n 0, 1) := by decide +kernel
theorem dL_law_432 : decode cL_law 432 = .ok (.iload_n 3, 1) := by decide +kernel
theorem dL_law_433 : decode cL_law 433 = .ok (.iconst 1, 1) := by decide +kernel
theorem dL_law_434 : decode cL_law 434 = .ok (.iadd, 1) := by decide +kernel
theorem dL_law_435 : decode cL_law 435 = .ok (.iaload, 1) := by decide +kernel
theorem dL_law_436 : decode cL_law 436 = .ok (.aload_n 0, 1) := by decide +kernel
theorem dL_law_437 : decode cL_law 437 = .ok (.iload_n 3, 1) := by decide +kernel
theorem dL_law_438 : decode cL_law 438 = .ok (.iconst 2, 1) := by decide +kernel
theorem dL_law_439 : decode cL_law 439 = .ok (.iadd, 1) := by decide +kernel
theorem dL_law_440 : decode cL_law 440 = .ok (.iaload, 1) := by decide +kernel
theorem dL_law_441 : decode cL_law 441 = .ok (.invokevirtual 56, 3) := by decide +kernel
theorem dL_law_444 : decode cL_law 444 = .ok (.aload_n 2, 1) := by decide +kernel
theorem dL_law_445 : decode cL_law 445 = .ok (.aload_n 0, 1) := by decide +kernel
theorem dL_law_446 : decode cL_law 446 = .ok (.iload_n 3, 1) := by decide +kernel
theorem dL_law_447 : decode cL_law 447 = .ok (.iconst 1, 1) := by decide +kernel
theorem dL_law_448 : decode cL_law 448 = .ok (.iadd, 1) := by decide +kernel
theorem dL_law_449 : decode cL_law 449 = .ok (.iaload, 1) := by decide +kernel
theorem dL_law_450 : decode cL_law 450 = .ok (.aload_n 0, 1) := by decide +kernel
theorem dL_law_451 : decode cL_law 451 = .ok (.iload_n 3, 1) := by decide +kernel
theorem dL_law_452 : decode cL_law 452 = .ok (.iconst 2, 1) := by decide +kernel
theorem dL_law_453 : decode cL_law 453 = .ok (.iadd, 1) := by decide +kernel
theorem dL_law_454 : decode cL_law 454 = .ok (.iaload, 1) := by decide +kernel
theorem dL_law_455 : decode cL_law 455 = .ok (.invokevirtual 59, 3) := by decide +kernel
theorem dL_law_458 : decode cL_law 458 = .ok (.if_icmp .eq 433, 3) := by decide +kernel
theorem dL_law_461 : decode cL_law 461 = .ok (.iconst 0, 1) := by decide +kernel
theorem dL_law_462 : decode cL_law 462 = .ok (.ireturn, 1) := by decide +kernel
theorem dL_law_463 : decode cL_law 463 = .ok (.aload_n 1, 1) := by decide +kernel
theorem dL_law_464 : decode cL_law 464 = .ok (.aload_n 0, 1) := by decide +kernel
theorem dL_law_465 : decode cL_law 465 = .ok (.iload_n 3, 1) := by decide +kernel
theorem dL_law_466 : decode cL_law 466 = .ok (.iconst 1, 1) := by decide +kernel
theorem dL_law_467 : decode cL_law 467 = .ok (.iadd, 1) := by decide +kernel
theorem dL_law_468 : decode cL_law 468 = .ok (.iaload, 1) := by decide +kernel
theorem dL_law_469 : decode cL_law 469 = .ok (.aload_n 0, 1) := by decide +kernel
theorem dL_law_470 : decode cL_law 470 = .ok (.iload_n 3, 1) := by decide +kernel
theorem dL_law_471 : decode cL_law 471 = .ok (.iconst 2, 1) := by decide +kernel
theorem dL_law_472 : decode cL_law 472 = .ok (.iadd, 1) := by decide +kernel
theorem dL_law_473 : decode cL_law 473 = .ok (.iaload, 1) := by decide +kernel
theorem dL_law_474 : decode cL_law 474 = .ok (.invokevirtual 60, 3) := by decide +kernel
theorem dL_law_477 : decode cL_law 477 = .ok (.aload_n 2, 1) := by decide +kernel
theorem dL_law_478 : decode cL_law 478 = .ok (.aload_n 0, 1) := by decide +kernel
theorem dL_law_479 : decode cL_law 479 = .ok (.iload_n 3, 1) := by decide +kernel
theorem dL_law_480 : decode cL_law 480 = .ok (.iconst 1, 1) := by decide +kernel
theorem dL_law_481 : decode cL_law 481 = .ok (.iadd, 1) := by decide +kernel
theorem dL_law_482 : decode cL_law 482 = .ok (.iaload, 1) := by decide +kernel
theorem dL_law_483 : decode cL_law 483 = .ok (.aload_n 0, 1) := by decide +kernel
theorem dL_law_484 : decode cL_law 484 = .ok (.iload_n 3, 1) := by decide +kernel
theorem dL_law_485 : decode cL_law 485 = .ok (.iconst 2, 1) := by decide +kernel
theorem dL_law_486 : decode cL_law 486 = .ok (.iadd, 1) := by decide +kernel
theorem dL_law_487 : decode cL_law 487 = .ok (.iaload, 1) := by decide +kernel
theorem dL_law_488 : decode cL_law 488 = .ok (.invokevirtual 63, 3) := by decide +kernel
theorem dL_law_491 : decode cL_law 491 = .ok (.if_icmp .eq 400, 3) := by decide +kernel
theorem dL_law_494 : decode cL_law 494 = .ok (.iconst 0, 1) := by decide +kernel
theorem dL_law_495 : decode cL_law 495 = .ok (.ireturn, 1) := by decide +kernel
theorem dL_law_496 : decode cL_law 496 = .ok (.aload_n 1, 1) := by decide +kernel
theorem dL_law_497 : decode cL_law 497 = .ok (.aload_n 0, 1) := by decide +kernel
theorem dL_law_498 : decode cL_law 498 = .ok (.iload_n 3, 1) := by decide +kernel
theorem dL_law_499 : decode cL_law 499 = .ok (.iconst 1, 1) := by decide +kernel
theorem dL_law_500 : decode cL_law 500 = .ok (.iadd, 1) := by decide +kernel
theorem dL_law_501 : decode cL_law 501 = .ok (.iaload, 1) := by decide +kernel
theorem dL_law_502 : decode cL_law 502 = .ok (.aload_n 0, 1) := by decide +kernel
theorem dL_law_503 : decode cL_law 503 = .ok (.iload_n 3, 1) := by decide +kernel
theorem dL_law_504 : decode cL_law 504 = .ok (.iconst 2, 1) := by decide +kernel
theorem dL_law_505 : decode cL_law 505 = .ok (.iadd, 1) := by decide +kernel
theorem dL_law_506 : decode cL_law 506 = .ok (.iaload, 1) := by decide +kernel
theorem dL_law_507 : decode cL_law 507 = .ok (.invokevirtual 64, 3) := by decide +kernel
theorem dL_law_510 : decode cL_law 510 = .ok (.aload_n 2, 1) := by decide +kernel
theorem dL_law_511 : decode cL_law 511 = .ok (.aload_n 0, 1) := by decide +kernel
theorem dL_law_512 : decode cL_law 512 = .ok (.iload_n 3, 1) := by decide +kernel
theorem dL_law_513 : decode cL_law 513 = .ok (.iconst 1, 1) := by decide +kernel
theorem dL_law_514 : decode cL_law 514 = .ok (.iadd, 1) := by decide +kernel
theorem dL_law_515 : decode cL_law 515 = .ok (.iaload, 1) := by decide +kernel
theorem dL_law_516 : decode cL_law 516 = .ok (.aload_n 0, 1) := by decide +kernel
theorem dL_law_517 : decode cL_law 517 = .ok (.iload_n 3, 1) := by decide +kernel
theorem dL_law_518 : decode cL_law 518 = .ok (.iconst 2, 1) := by decide +kernel
theorem dL_law_519 : decode cL_law 519 = .ok (.iadd, 1) := by decide +kernel
theorem dL_law_520 : decode cL_law 520 = .ok (.iaload, 1) := by decide +kernel
theorem dL_law_521 : decode cL_law 521 = .ok (.invokevirtual 67, 3) := by decide +kernel
theorem dL_law_524 : decode cL_law 524 = .ok (.if_icmp .eq 367, 3) := by decide +kernel
theorem dL_law_527 : decode cL_law 527 = .ok (.iconst 0, 1) := by decide +kernel
theorem dL_law_528 : decode cL_law 528 = .ok (.ireturn, 1) := by decide +kernel
theorem dL_law_529 : decode cL_law 529 = .ok (.aload_n 1, 1) := by decide +kernel
theorem dL_law_530 : decode cL_law 530 = .ok (.aload_n 0, 1) := by decide +kernel
theorem dL_law_531 : decode cL_law 531 = .ok (.iload_n 3, 1) := by decide +kernel
theorem dL_law_532 : decode cL_law 532 = .ok (.iconst 1, 1) := by decide +kernel
theorem dL_law_533 : decode cL_law 533 = .ok (.iadd, 1) := by decide +kernel
theorem dL_law_534 : decode cL_law 534 = .ok (.iaload, 1) := by decide +kernel
theorem dL_law_535 : decode cL_law 535 = .ok (.aload_n 0, 1) := by decide +kernel
theorem dL_law_536 : decode cL_law 536 = .ok (.iload_n 3, 1) := by decide +kernel
theorem dL_law_537 : decode cL_law 537 = .ok (.iconst 2, 1) := by decide +kernel
theorem dL_law_538 : decode cL_law 538 = .ok (.iadd, 1) := by decide +kernel
theorem dL_law_539 : decode cL_law 539 = .ok (.iaload, 1) := by decide +kernel
theorem dL_law_540 : decode cL_law 540 = .ok (.invokevirtual 68, 3) := by decide +kernel
theorem dL_law_543 : decode cL_law 543 = .ok (.aload_n 2, 1) := by decide +kernel
theorem dL_law_544 : decode cL_law 544 = .ok (.aload_n 0, 1) := by decide +kernel
theorem dL_law_545 : decode cL_law 545 = .ok (.iload_n 3, 1) := by decide +kernel
theorem dL_law_546 : decode cL_law 546 = .ok (.iconst 1, 1) := by decide +kernel
theorem dL_law_547 : decode cL_law 547 = .ok (.iadd, 1) := by decide +kernel
theorem dL_law_548 : decode cL_law 548 = .ok (.iaload, 1) := by decide +kernel
theorem dL_law_549 : decode cL_law 549 = .ok (.aload_n 0, 1) := by decide +kernel
theorem dL_law_550 : decode cL_law 550 = .ok (.iload_n 3, 1) := by decide +kernel
theorem dL_law_551 : decode cL_law 551 = .ok (.iconst 2, 1) := by decide +kernel
theorem dL_law_552 : decode cL_law 552 = .ok (.iadd, 1) := by decide +kernel
theorem dL_law_553 : decode cL_law 553 = .ok (.iaload, 1) := by decide +kernel
theorem dL_law_554 : decode cL_law 554 = .ok (.invokevirtual 71, 3) := by decide +kernel
theorem dL_law_557 : decode cL_law 557 = .ok (.if_icmp .eq 334, 3) := by decide +kernel
theorem dL_law_560 : decode cL_law 560 = .ok (.iconst 0, 1) := by decide +kernel
theorem dL_law_561 : decode cL_law 561 = .ok (.ireturn, 1) := by decide +kernel
theorem dL_law_562 : decode cL_law 562 = .ok (.aload_n 1, 1) := by decide +kernel
theorem dL_law_563 : decode cL_law 563 = .ok (.aload_n 0, 1) := by decide +kernel
theorem dL_law_564 : decode cL_law 564 = .ok (.iload_n 3, 1) := by decide +kernel
theorem dL_law_565 : decode cL_law 565 = .ok (.iconst 1, 1) := by decide +kernel
theorem dL_law_566 : decode cL_law 566 = .ok (.iadd, 1) := by decide +kernel
theorem dL_law_567 : decode cL_law 567 = .ok (.iaload, 1) := by decide +kernel
theorem dL_law_568 : decode cL_law 568 = .ok (.invokevirtual 72, 3) := by decide +kernel
theorem dL_law_571 : decode cL_law 571 = .ok (.aload_n 2, 1) := by decide +kernel
theorem dL_law_572 : decode cL_law 572 = .ok (.aload_n 0, 1) := by decide +kernel
theorem dL_law_573 : decode cL_law 573 = .ok (.iload_n 3, 1) := by decide +kernel
theorem dL_law_574 : decode cL_law 574 = .ok (.iconst 1, 1) := by decide +kernel
theorem dL_law_575 : decode cL_law 575 = .ok (.iadd, 1) := by decide +kernel
theorem dL_law_576 : decode cL_law 576 = .ok (.iaload, 1) := by decide +kernel
theorem dL_law_577 : decode cL_law 577 = .ok (.invokevirtual 76, 3) := by decide +kernel
theorem dL_law_580 : decode cL_law 580 = .ok (.if_icmp .eq 311, 3) := by decide +kernel
theorem dL_law_583 : decode cL_law 583 = .ok (.iconst 0, 1) := by decide +kernel
theorem dL_law_584 : decode cL_law 584 = .ok (.ireturn, 1) := by decide +kernel
theorem dL_law_585 : decode cL_law 585 = .ok (.aload_n 1, 1) := by decide +kernel
theorem dL_law_586 : decode cL_law 586 = .ok (.aload_n 0, 1) := by decide +kernel
theorem dL_law_587 : decode cL_law 587 = .ok (.iload_n 3, 1) := by decide +kernel
theorem dL_law_588 : decode cL_law 588 = .ok (.iconst 1, 1) := by decide +kernel
theorem dL_law_589 : decode cL_law 589 = .ok (.iadd, 1) := by decide +kernel
theorem dL_law_590 : decode cL_law 590 = .ok (.iaload, 1) := by decide +kernel
theorem dL_law_591 : decode cL_law 591 = .ok (.aload_n 0, 1) := by decide +kernel
theorem dL_law_592 : decode cL_law 592 = .ok (.iload_n 3, 1) := by decide +kernel
theorem dL_law_593 : decode cL_law 593 = .ok (.iconst 2, 1) := by decide +kernel
theorem dL_law_594 : decode cL_law 594 = .ok (.iadd, 1) := by decide +kernel
theorem dL_law_595 : decode cL_law 595 = .ok (.iaload, 1) := by decide +kernel
theorem dL_law_596 : decode cL_law 596 = .ok (.aload_n 0, 1) := by decide +kernel
theorem dL_law_597 : decode cL_law 597 = .ok (.iload_n 3, 1) := by decide +kernel
theorem dL_law_598 : decode cL_law 598 = .ok (.iconst 3, 1) := by decide +kernel
theorem dL_law_599 : decode cL_law 599 = .ok (.iadd, 1) := by decide +kernel
theorem dL_law_600 : decode cL_law 600 = .ok (.iaload, 1) := by decide +kernel
theorem dL_law_601 : decode cL_law 601 = .ok (.invokevirtual 77, 3) := by decide +kernel
theorem dL_law_604 : decode cL_law 604 = .ok (.aload_n 2, 1) := by decide +kernel
theorem dL_law_605 : decode cL_law 605 = .ok (.aload_n 0, 1) := by decide +kernel
theorem dL_law_606 : decode cL_law 606 = .ok (.iload_n 3, 1) := by decide +kernel
theorem dL_law_607 : decode cL_law 607 = .ok (.iconst 1, 1) := by decide +kernel
theorem dL_law_608 : decode cL_law 608 = .ok (.iadd, 1) := by decide +kernel
theorem dL_law_609 : decode cL_law 609 = .ok (.iaload, 1) := by decide +kernel
theorem dL_law_610 : decode cL_law 610 = .ok (.aload_n 0, 1) := by decide +kernel
theorem dL_law_611 : decode cL_law 611 = .ok (.iload_n 3, 1) := by decide +kernel
theorem dL_law_612 : decode cL_law 612 = .ok (.iconst 2, 1) := by decide +kernel
theorem dL_law_613 : decode cL_law 613 = .ok (.iadd, 1) := by decide +kernel
theorem dL_law_614 : decode cL_law 614 = .ok (.iaload, 1) := by decide +kernel
theorem dL_law_615 : decode cL_law 615 = .ok (.aload_n 0, 1) := by decide +kernel
theorem dL_law_616 : decode cL_law 616 = .ok (.iload_n 3, 1) := by decide +kernel
theorem dL_law_617 : decode cL_law 617 = .ok (.iconst 3, 1) := by decide +kernel
theorem dL_law_618 : decode cL_law 618 = .ok (.iadd, 1) := by decide +kernel
theorem dL_law_619 : decode cL_law 619 = .ok (.iaload, 1) := by decide +kernel
theorem dL_law_620 : decode cL_law 620 = .ok (.invokevirtual 80, 3) := by decide +kernel
theorem dL_law_623 : decode cL_law 623 = .ok (.if_icmp .eq 268, 3) := by decide +kernel
theorem dL_law_626 : decode cL_law 626 = .ok (.iconst 0, 1) := by decide +kernel
theorem dL_law_627 : decode cL_law 627 = .ok (.ireturn, 1) := by decide +kernel
theorem dL_law_628 : decode cL_law 628 = .ok (.aload_n 1, 1) := by decide +kernel
theorem dL_law_629 : decode cL_law 629 = .ok (.aload_n 0, 1) := by decide +kernel
theorem dL_law_630 : decode cL_law 630 = .ok (.iload_n 3, 1) := by decide +kernel
theorem dL_law_631 : decode cL_law 631 = .ok (.iconst 1, 1) := by decide +kernel
theorem dL_law_632 : decode cL_law 632 = .ok (.iadd, 1) := by decide +kernel
theorem dL_law_633 : decode cL_law 633 = .ok (.iaload, 1) := by decide +kernel
theorem dL_law_634 : decode cL_law 634 = .ok (.aload_n 0, 1) := by decide +kernel
theorem dL_law_635 : decode cL_law 635 = .ok (.iload_n 3, 1) := by decide +kernel
theorem dL_law_636 : decode cL_law 636 = .ok (.iconst 2, 1) := by decide +kernel
theorem dL_law_637 : decode cL_law 637 = .ok (.iadd, 1) := by decide +kernel
theorem dL_law_638 : decode cL_law 638 = .ok (.iaload, 1) := by decide +kernel
theorem dL_law_639 : decode cL_law 639 = .ok (.invokevirtual 81, 3) := by decide +kernel
theorem dL_law_642 : decode cL_law 642 = .ok (.aload_n 2, 1) := by decide +kernel
theorem dL_law_643 : decode cL_law 643 = .ok (.aload_n 0, 1) := by decide +kernel
theorem dL_law_644 : decode cL_law 644 = .ok (.iload_n 3, 1) := by decide +kernel
theorem dL_law_645 : decode cL_law 645 = .ok (.iconst 1, 1) := by decide +kernel
theorem dL_law_646 : decode cL_law 646 = .ok (.iadd, 1) := by decide +kernel
theorem dL_law_647 : decode cL_law 647 = .ok (.iaload, 1) := by decide +kernel
theorem dL_law_648 : decode cL_law 648 = .ok (.aload_n 0, 1) := by decide +kernel
theorem dL_law_649 : decode cL_law 649 = .ok (.iload_n 3, 1) := by decide +kernel
theorem dL_law_650 : decode cL_law 650 = .ok (.iconst 2, 1) := by decide +kernel
theorem dL_law_651 : decode cL_law 651 = .ok (.iadd, 1) := by decide +kernel
theorem dL_law_652 : decode cL_law 652 = .ok (.iaload, 1) := by decide +kernel
theorem dL_law_653 : decode cL_law 653 = .ok (.invokevirtual 84, 3) := by decide +kernel
theorem dL_law_656 : decode cL_law 656 = .ok (.if_icmp .eq 235, 3) := by decide +kernel
theorem dL_law_659 : decode cL_law 659 = .ok (.iconst 0, 1) := by decide +kernel
theorem dL_law_660 : decode cL_law 660 = .ok (.ireturn, 1) := by decide +kernel
theorem dL_law_661 : decode cL_law 661 = .ok (.aload_n 1, 1) := by decide +kernel
theorem dL_law_662 : decode cL_law 662 = .ok (.aload_n 0, 1) := by decide +kernel
theorem dL_law_663 : decode cL_law 663 = .ok (.iload_n 3, 1) := by decide +kernel
theorem dL_law_664 : decode cL_law 664 = .ok (.iconst 1, 1) := by decide +kernel
theorem dL_law_665 : decode cL_law 665 = .ok (.iadd, 1) := by decide +kernel
theorem dL_law_666 : decode cL_law 666 = .ok (.iaload, 1) := by decide +kernel
theorem dL_law_667 : decode cL_law 667 = .ok (.aload_n 0, 1) := by decide +kernel
theorem dL_law_668 : decode cL_law 668 = .ok (.iload_n 3, 1) := by decide +kernel
theorem dL_law_669 : decode cL_law 669 = .ok (.iconst 2, 1) := by decide +kernel
theorem dL_law_670 : decode cL_law 670 = .ok (.iadd, 1) := by decide +kernel
theorem dL_law_671 : decode cL_law 671 = .ok (.iaload, 1) := by decide +kernel
theorem dL_law_672 : decode cL_law 672 = .ok (.invokevirtual 85, 3) := by decide +kernel
theorem dL_law_675 : decode cL_law 675 = .ok (.aload_n 2, 1) := by decide +kernel
theorem dL_law_676 : decode cL_law 676 = .ok (.aload_n 0, 1) := by decide +kernel
theorem dL_law_677 : decode cL_law 677 = .ok (.iload_n 3, 1) := by decide +kernel
theorem dL_law_678 : decode cL_law 678 = .ok (.iconst 1, 1) := by decide +kernel
theorem dL_law_679 : decode cL_law 679 = .ok (.iadd, 1) := by decide +kernel
theorem dL_law_680 : decode cL_law 680 = .ok (.iaload, 1) := by decide +kernel
theorem dL_law_681 : decode cL_law 681 = .ok (.aload_n 0, 1) := by decide +kernel
theorem dL_law_682 : decode cL_law 682 = .ok (.iload_n 3, 1) := by decide +kernel
theorem dL_law_683 : decode cL_law 683 = .ok (.iconst 2, 1) := by decide +kernel
theorem dL_law_684 : decode cL_law 684 = .ok (.iadd, 1) := by decide +kernel
theorem dL_law_685 : decode cL_law 685 = .ok (.iaload, 1) := by decide +kernel
theorem dL_law_686 : decode cL_law 686 = .ok (.invokevirtual 88, 3) := by decide +kernel
theorem dL_law_689 : decode cL_law 689 = .ok (.if_icmp .eq 202, 3) := by decide +kernel
theorem dL_law_692 : decode cL_law 692 = .ok (.iconst 0, 1) := by decide +kernel
theorem dL_law_693 : decode cL_law 693 = .ok (.ireturn, 1) := by decide +kernel
theorem dL_law_694 : decode cL_law 694 = .ok (.aload_n 1, 1) := by decide +kernel
theorem dL_law_695 : decode cL_law 695 = .ok (.invokevirtual 89, 3) := by decide +kernel
theorem dL_law_698 : decode cL_law 698 = .ok (.aload_n 2, 1) := by decide +kernel
theorem dL_law_699 : decode cL_law 699 = .ok (.invokevirtual 92, 3) := by decide +kernel
theorem dL_law_702 : decode cL_law 702 = .ok (.if_icmp .eq 189, 3) := by decide +kernel
theorem dL_law_705 : decode cL_law 705 = .ok (.iconst 0, 1) := by decide +kernel
theorem dL_law_706 : decode cL_law 706 = .ok (.ireturn, 1) := by decide +kernel
theorem dL_law_707 : decode cL_law 707 = .ok (.aload_n 1, 1) := by decide +kernel
theorem dL_law_708 : decode cL_law 708 = .ok (.aload_n 0, 1) := by decide +kernel
theorem dL_law_709 : decode cL_law 709 = .ok (.iload_n 3, 1) := by decide +kernel
theorem dL_law_710 : decode cL_law 710 = .ok (.iconst 1, 1) := by decide +kernel
theorem dL_law_711 : decode cL_law 711 = .ok (.iadd, 1) := by decide +kernel
theorem dL_law_712 : decode cL_law 712 = .ok (.iaload, 1) := by decide +kernel
theorem dL_law_713 : decode cL_law 713 = .ok (.invokevirtual 93, 3) := by decide +kernel
theorem dL_law_716 : decode cL_law 716 = .ok (.aload_n 2, 1) := by decide +kernel
theorem dL_law_717 : decode cL_law 717 = .ok (.aload_n 0, 1) := by decide +kernel
theorem dL_law_718 : decode cL_law 718 = .ok (.iload_n 3, 1) := by decide +kernel
theorem dL_law_719 : decode cL_law 719 = .ok (.iconst 1, 1) := by decide +kernel
theorem dL_law_720 : decode cL_law 720 = .ok (.iadd, 1) := by decide +kernel
theorem dL_law_721 : decode cL_law 721 = .ok (.iaload, 1) := by decide +kernel
theorem dL_law_722 : decode cL_law 722 = .ok (.invokevirtual 96, 3) := by decide +kernel
theorem dL_law_725 : decode cL_law 725 = .ok (.if_icmp .eq 166, 3) := by decide +kernel
theorem dL_law_728 : decode cL_law 728 = .ok (.iconst 0, 1) := by decide +kernel
theorem dL_law_729 : decode cL_law 729 = .ok (.ireturn, 1) := by decide +kernel
theorem dL_law_730 : decode cL_law 730 = .ok (.aload_n 1, 1) := by decide +kernel
theorem dL_law_731 : decode cL_law 731 = .ok (.aload_n 0, 1) := by decide +kernel
theorem dL_law_732 : decode cL_law 732 = .ok (.iload_n 3, 1) := by decide +kernel
theorem dL_law_733 : decode cL_law 733 = .ok (.iconst 1, 1) := by decide +kernel
theorem dL_law_734 : decode cL_law 734 = .ok (.iadd, 1) := by decide +kernel
theorem dL_law_735 : decode cL_law 735 = .ok (.iaload, 1) := by decide +kernel
theorem dL_law_736 : decode cL_law 736 = .ok (.invokevirtual 97, 3) := by decide +kernel
theorem dL_law_739 : decode cL_law 739 = .ok (.aload_n 2, 1) := by decide +kernel
theorem dL_law_740 : decode cL_law 740 = .ok (.aload_n 0, 1) := by decide +kernel
theorem dL_law_741 : decode cL_law 741 = .ok (.iload_n 3, 1) := by decide +kernel
theorem dL_law_742 : decode cL_law 742 = .ok (.iconst 1, 1) := by decide +kernel
theorem dL_law_743 : decode cL_law 743 = .ok (.iadd, 1) := by decide +kernel
theorem dL_law_744 : decode cL_law 744 = .ok (.iaload, 1) := by decide +kernel
theorem dL_law_745 : decode cL_law 745 = .ok (.invokevirtual 100, 3) := by decide +kernel
theorem dL_law_748 : decode cL_law 748 = .ok (.if_icmp .eq 143, 3) := by decide +kernel
theorem dL_law_751 : decode cL_law 751 = .ok (.iconst 0, 1) := by decide +kernel
theorem dL_law_752 : decode cL_law 752 = .ok (.ireturn, 1) := by decide +kernel
theorem dL_law_753 : decode cL_law 753 = .ok (.aload_n 1, 1) := by decide +kernel
theorem dL_law_754 : decode cL_law 754 = .ok (.aload_n 0, 1) := by decide +kernel
theorem dL_law_755 : decode cL_law 755 = .ok (.iload_n 3, 1) := by decide +kernel
theorem dL_law_756 : decode cL_law 756 = .ok (.iconst 1, 1) := by decide +kernel
theorem dL_law_757 : decode cL_law 757 = .ok (.iadd, 1) := by decide +kernel
theorem dL_law_758 : decode cL_law 758 = .ok (.iaload, 1) := by decide +kernel
theorem dL_law_759 : decode cL_law 759 = .ok (.aload_n 0, 1) := by decide +kernel
theorem dL_law_760 : decode cL_law 760 = .ok (.iload_n 3, 1) := by decide +kernel
theorem dL_law_761 : decode cL_law 761 = .ok (.iconst 2, 1) := by decide +kernel
theorem dL_law_762 : decode cL_law 762 = .ok (.iadd, 1) := by decide +kernel
theorem dL_law_763 : decode cL_law 763 = .ok (.iaload, 1) := by decide +kernel
theorem dL_law_764 : decode cL_law 764 = .ok (.invokevirtual 101, 3) := by decide +kernel
theorem dL_law_767 : decode cL_law 767 = .ok (.aload_n 2, 1) := by decide +kernel
theorem dL_law_768 : decode cL_law 768 = .ok (.aload_n 0, 1) := by decide +kernel
theorem dL_law_769 : decode cL_law 769 = .ok (.iload_n 3, 1) := by decide +kernel
theorem dL_law_770 : decode cL_law 770 = .ok (.iconst 1, 1) := by decide +kernel
theorem dL_law_771 : decode cL_law 771 = .ok (.iadd, 1) := by decide +kernel
theorem dL_law_772 : decode cL_law 772 = .ok (.iaload, 1) := by decide +kernel
theorem dL_law_773 : decode cL_law 773 = .ok (.aload_n 0, 1) := by decide +kernel
theorem dL_law_774 : decode cL_law 774 = .ok (.iload_n 3, 1) := by decide +kernel
theorem dL_law_775 : decode cL_law 775 = .ok (.iconst 2, 1) := by decide +kernel
theorem dL_law_776 : decode cL_law 776 = .ok (.iadd, 1) := by decide +kernel
theorem dL_law_777 : decode cL_law 777 = .ok (.iaload, 1) := by decide +kernel
theorem dL_law_778 : decode cL_law 778 = .ok (.invokevirtual 104, 3) := by decide +kernel
theorem dL_law_781 : decode cL_law 781 = .ok (.if_icmp .eq 110, 3) := by decide +kernel
theorem dL_law_784 : decode cL_law 784 = .ok (.iconst 0, 1) := by decide +kernel
theorem dL_law_785 : decode cL_law 785 = .ok (.ireturn, 1) := by decide +kernel
theorem dL_law_786 : decode cL_law 786 = .ok (.aload_n 1, 1) := by decide +kernel
theorem dL_law_787 : decode cL_law 787 = .ok (.invokevirtual 105, 3) := by decide +kernel
theorem dL_law_790 : decode cL_law 790 = .ok (.aload_n 2, 1) := by decide +kernel
theorem dL_law_791 : decode cL_law 791 = .ok (.invokevirtual 108, 3) := by decide +kernel
theorem dL_law_794 : decode cL_law 794 = .ok (.if_icmp .eq 97, 3) := by decide +kernel
theorem dL_law_797 : decode cL_law 797 = .ok (.iconst 0, 1) := by decide +kernel
theorem dL_law_798 : decode cL_law 798 = .ok (.ireturn, 1) := by decide +kernel
theorem dL_law_799 : decode cL_law 799 = .ok (.aload_n 1, 1) := by decide +kernel
theorem dL_law_800 : decode cL_law 800 = .ok (.aload_n 0, 1) := by decide +kernel
theorem dL_law_801 : decode cL_law 801 = .ok (.iload_n 3, 1) := by decide +kernel
theorem dL_law_802 : decode cL_law 802 = .ok (.iconst 1, 1) := by decide +kernel
theorem dL_law_803 : decode cL_law 803 = .ok (.iadd, 1) := by decide +kernel
theorem dL_law_804 : decode cL_law 804 = .ok (.iaload, 1) := by decide +kernel
theorem dL_law_805 : decode cL_law 805 = .ok (.aload_n 0, 1) := by decide +kernel
theorem dL_law_806 : decode cL_law 806 = .ok (.iload_n 3, 1) := by decide +kernel
theorem dL_law_807 : decode cL_law 807 = .ok (.iconst 2, 1) := by decide +kernel
theorem dL_law_808 : decode cL_law 808 = .ok (.iadd, 1) := by decide +kernel
theorem dL_law_809 : decode cL_law 809 = .ok (.iaload, 1) := by decide +kernel
theorem dL_law_810 : decode cL_law 810 = .ok (.aload_n 0, 1) := by decide +kernel
theorem dL_law_811 : decode cL_law 811 = .ok (.iload_n 3, 1) := by decide +kernel
theorem dL_law_812 : decode cL_law 812 = .ok (.iconst 3, 1) := by decide +kernel
theorem dL_law_813 : decode cL_law 813 = .ok (.iadd, 1) := by decide +kernel
theorem dL_law_814 : decode cL_law 814 = .ok (.iaload, 1) := by decide +kernel
theorem dL_law_815 : decode cL_law 815 = .ok (.invokevirtual 109, 3) := by decide +kernel
theorem dL_law_818 : decode cL_law 818 = .ok (.aload_n 2, 1) := by decide +kernel
theorem dL_law_819 : decode cL_law 819 = .ok (.aload_n 0, 1) := by decide +kernel
theorem dL_law_820 : decode cL_law 820 = .ok (.iload_n 3, 1) := by decide +kernel
theorem dL_law_821 : decode cL_law 821 = .ok (.iconst 1, 1) := by decide +kernel
theorem dL_law_822 : decode cL_law 822 = .ok (.iadd, 1) := by decide +kernel
theorem dL_law_823 : decode cL_law 823 = .ok (.iaload, 1) := by decide +kernel
theorem dL_law_824 : decode cL_law 824 = .ok (.aload_n 0, 1) := by decide +kernel
theorem dL_law_825 : decode cL_law 825 = .ok (.iload_n 3, 1) := by decide +kernel
theorem dL_law_826 : decode cL_law 826 = .ok (.iconst 2, 1) := by decide +kernel
theorem dL_law_827 : decode cL_law 827 = .ok (.iadd, 1) := by decide +kernel
theorem dL_law_828 : decode cL_law 828 = .ok (.iaload, 1) := by decide +kernel
theorem dL_law_829 : decode cL_law 829 = .ok (.aload_n 0, 1) := by decide +kernel
theorem dL_law_830 : decode cL_law 830 = .ok (.iload_n 3, 1) := by decide +kernel
theorem dL_law_831 : decode cL_law 831 = .ok (.iconst 3, 1) := by decide +kernel
theorem dL_law_832 : decode cL_law 832 = .ok (.iadd, 1) := by decide +kernel
theorem dL_law_833 : decode cL_law 833 = .ok (.iaload, 1) := by decide +kernel
theorem dL_law_834 : decode cL_law 834 = .ok (.invokevirtual 112, 3) := by decide +kernel
end
section
theorem dL_law_837 : decode cL_law 837 = .ok (.if_icmp .eq 54, 3) := by decide +kernel
theorem dL_law_840 : decode cL_law 840 = .ok (.iconst 0, 1) := by decide +kernel
theorem dL_law_841 : decode cL_law 841 = .ok (.ireturn, 1) := by decide +kernel
theorem dL_law_842 : decode cL_law 842 = .ok (.aload_n 1, 1) := by decide +kernel
theorem dL_law_843 : decode cL_law 843 = .ok (.invokevirtual 113, 3) := by decide +kernel
theorem dL_law_846 : decode cL_law 846 = .ok (.aload_n 2, 1) := by decide +kernel
theorem dL_law_847 : decode cL_law 847 = .ok (.invokevirtual 116, 3) := by decide +kernel
theorem dL_law_850 : decode cL_law 850 = .ok (.if_icmp .eq 41, 3) := by decide +kernel
theorem dL_law_853 : decode cL_law 853 = .ok (.iconst 0, 1) := by decide +kernel
theorem dL_law_854 : decode cL_law 854 = .ok (.ireturn, 1) := by decide +kernel
theorem dL_law_855 : decode cL_law 855 = .ok (.aload_n 1, 1) := by decide +kernel
theorem dL_law_856 : decode cL_law 856 = .ok (.invokevirtual 117, 3) := by decide +kernel
theorem dL_law_859 : decode cL_law 859 = .ok (.aload_n 2, 1) := by decide +kernel
theorem dL_law_860 : decode cL_law 860 = .ok (.invokevirtual 120, 3) := by decide +kernel
theorem dL_law_863 : decode cL_law 863 = .ok (.if_icmp .eq 28, 3) := by decide +kernel
theorem dL_law_866 : decode cL_law 866 = .ok (.iconst 0, 1) := by decide +kernel
theorem dL_law_867 : decode cL_law 867 = .ok (.ireturn, 1) := by decide +kernel
theorem dL_law_868 : decode cL_law 868 = .ok (.aload_n 1, 1) := by decide +kernel
theorem dL_law_869 : decode cL_law 869 = .ok (.aload_n 0, 1) := by decide +kernel
theorem dL_law_870 : decode cL_law 870 = .ok (.iload_n 3, 1) := by decide +kernel
theorem dL_law_871 : decode cL_law 871 = .ok (.iconst 1, 1) := by decide +kernel
theorem dL_law_872 : decode cL_law 872 = .ok (.iadd, 1) := by decide +kernel
theorem dL_law_873 : decode cL_law 873 = .ok (.iaload, 1) := by decide +kernel
theorem dL_law_874 : decode cL_law 874 = .ok (.invokevirtual 121, 3) := by decide +kernel
theorem dL_law_877 : decode cL_law 877 = .ok (.aload_n 2, 1) := by decide +kernel
theorem dL_law_878 : decode cL_law 878 = .ok (.aload_n 0, 1) := by decide +kernel
theorem dL_law_879 : decode cL_law 879 = .ok (.iload_n 3, 1) := by decide +kernel
theorem dL_law_880 : decode cL_law 880 = .ok (.iconst 1, 1) := by decide +kernel
theorem dL_law_881 : decode cL_law 881 = .ok (.iadd, 1) := by decide +kernel
theorem dL_law_882 : decode cL_law 882 = .ok (.iaload, 1) := by decide +kernel
theorem dL_law_883 : decode cL_law 883 = .ok (.invokevirtual 124, 3) := by decide +kernel
theorem dL_law_886 : decode cL_law 886 = .ok (.if_icmp .eq 5, 3) := by decide +kernel
theorem dL_law_889 : decode cL_law 889 = .ok (.iconst 0, 1) := by decide +kernel
theorem dL_law_890 : decode cL_law 890 = .ok (.ireturn, 1) := by decide +kernel
theorem dL_law_891 : decode cL_law 891 = .ok (.iinc 3 4, 3) := by decide +kernel
theorem dL_law_894 : decode cL_law 894 = .ok (.goto (-876), 3) := by decide +kernel
theorem dL_law_897 : decode cL_law 897 = .ok (.iconst 1, 1) := by decide +kernel
theorem dL_law_898 : decode cL_law 898 = .ok (.ireturn, 1) := by decide +kernel
end
