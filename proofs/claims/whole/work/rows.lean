section
-- ===== PART A: goes FIRST, ahead of the names: the tables' words, and 'selects' of the private methods out of them =====
/-- a private method of a class that the tables say can be made, by its rows of tables_1 -/
def lw_okq (q : MethodName × Nat) : Prop := (q.1.cls ≠ "java/lang/invoke/MethodHandle" ∧ q.1.cls ≠ "java/lang/invoke/VarHandle") ∧ Cond.instantiable q.1.cls q.2 ∈ tables_1 ∧ Cond.privateMethod q.1 ∈ tables_1 ∧ Cond.instanceMethod q.1 ∈ tables_1
theorem lw_p0 : lw_okq (⟨"PairVm$Machine", "frameAt", "(I)LPairVm$Frame;"⟩, 7) := ⟨⟨by decide +kernel, by decide +kernel⟩, List.mem_of_getElem? (i := 74) (by decide +kernel), List.mem_of_getElem? (i := 418) (by decide +kernel), List.mem_of_getElem? (i := 419) (by decide +kernel)⟩
theorem lw_p1 : lw_okq (⟨"PairVm$FileBytes", "dueCheck", "()J"⟩, 4) := ⟨⟨by decide +kernel, by decide +kernel⟩, List.mem_of_getElem? (i := 32) (by decide +kernel), List.mem_of_getElem? (i := 449) (by decide +kernel), List.mem_of_getElem? (i := 450) (by decide +kernel)⟩
theorem lw_p2 : lw_okq (⟨"java/lang/Throwable", "fillInStackTrace", "(I)Ljava/lang/Throwable;"⟩, 6) := ⟨⟨by decide +kernel, by decide +kernel⟩, List.mem_of_getElem? (i := 494) (by decide +kernel), List.mem_of_getElem? (i := 492) (by decide +kernel), List.mem_of_getElem? (i := 493) (by decide +kernel)⟩
theorem lw_p3 : lw_okq (⟨"PairVm", "takeFile", "()I"⟩, 6) := ⟨⟨by decide +kernel, by decide +kernel⟩, List.mem_of_getElem? (i := 24) (by decide +kernel), List.mem_of_getElem? (i := 524) (by decide +kernel), List.mem_of_getElem? (i := 525) (by decide +kernel)⟩
theorem lw_p4 : lw_okq (⟨"PairVm$FileBytes", "toldCheck", "()J"⟩, 4) := ⟨⟨by decide +kernel, by decide +kernel⟩, List.mem_of_getElem? (i := 32) (by decide +kernel), List.mem_of_getElem? (i := 560) (by decide +kernel), List.mem_of_getElem? (i := 561) (by decide +kernel)⟩
theorem lw_p5 : lw_okq (⟨"PairVm$Method", "unitAt", "(I)I"⟩, 11) := ⟨⟨by decide +kernel, by decide +kernel⟩, List.mem_of_getElem? (i := 147) (by decide +kernel), List.mem_of_getElem? (i := 581) (by decide +kernel), List.mem_of_getElem? (i := 582) (by decide +kernel)⟩
theorem lw_p6 : lw_okq (⟨"PairVm$Step", "findOperation", "()V"⟩, 15) := ⟨⟨by decide +kernel, by decide +kernel⟩, List.mem_of_getElem? (i := 154) (by decide +kernel), List.mem_of_getElem? (i := 589) (by decide +kernel), List.mem_of_getElem? (i := 590) (by decide +kernel)⟩
theorem lw_p7 : lw_okq (⟨"PairVm$Program", "giveTypes", "(LPairVm$Method;)V"⟩, 6) := ⟨⟨by decide +kernel, by decide +kernel⟩, List.mem_of_getElem? (i := 127) (by decide +kernel), List.mem_of_getElem? (i := 645) (by decide +kernel), List.mem_of_getElem? (i := 646) (by decide +kernel)⟩
theorem lw_p8 : lw_okq (⟨"PairVm$Flow", "begin", "(LPairVm$Method;)V"⟩, 2) := ⟨⟨by decide +kernel, by decide +kernel⟩, List.mem_of_getElem? (i := 135) (by decide +kernel), List.mem_of_getElem? (i := 654) (by decide +kernel), List.mem_of_getElem? (i := 655) (by decide +kernel)⟩
theorem lw_p9 : lw_okq (⟨"PairVm$Flow", "setTypes", "(III)V"⟩, 2) := ⟨⟨by decide +kernel, by decide +kernel⟩, List.mem_of_getElem? (i := 135) (by decide +kernel), List.mem_of_getElem? (i := 665) (by decide +kernel), List.mem_of_getElem? (i := 666) (by decide +kernel)⟩
theorem lw_p10 : lw_okq (⟨"PairVm$Flow", "setOne", "(II)V"⟩, 2) := ⟨⟨by decide +kernel, by decide +kernel⟩, List.mem_of_getElem? (i := 135) (by decide +kernel), List.mem_of_getElem? (i := 669) (by decide +kernel), List.mem_of_getElem? (i := 670) (by decide +kernel)⟩
theorem lw_p11 : lw_okq (⟨"PairVm$Flow", "join", "(LPairVm$Step;)V"⟩, 2) := ⟨⟨by decide +kernel, by decide +kernel⟩, List.mem_of_getElem? (i := 135) (by decide +kernel), List.mem_of_getElem? (i := 674) (by decide +kernel), List.mem_of_getElem? (i := 675) (by decide +kernel)⟩
theorem lw_p12 : lw_okq (⟨"PairVm$Flow", "passOver", "(LPairVm$Step;)V"⟩, 2) := ⟨⟨by decide +kernel, by decide +kernel⟩, List.mem_of_getElem? (i := 135) (by decide +kernel), List.mem_of_getElem? (i := 678) (by decide +kernel), List.mem_of_getElem? (i := 679) (by decide +kernel)⟩
theorem lw_p13 : lw_okq (⟨"PairVm", "beginCall", "(I)I"⟩, 6) := ⟨⟨by decide +kernel, by decide +kernel⟩, List.mem_of_getElem? (i := 24) (by decide +kernel), List.mem_of_getElem? (i := 721) (by decide +kernel), List.mem_of_getElem? (i := 722) (by decide +kernel)⟩
theorem lw_p14 : lw_okq (⟨"PairVm$Machine", "perform", "(LPairVm$Program;LPairVm$Frame;LPairVm$Step;)V"⟩, 7) := ⟨⟨by decide +kernel, by decide +kernel⟩, List.mem_of_getElem? (i := 74) (by decide +kernel), List.mem_of_getElem? (i := 789) (by decide +kernel), List.mem_of_getElem? (i := 790) (by decide +kernel)⟩
theorem lw_p15 : lw_okq (⟨"PairVm$Machine", "leave", "(LPairVm$Frame;LPairVm$Step;)V"⟩, 7) := ⟨⟨by decide +kernel, by decide +kernel⟩, List.mem_of_getElem? (i := 74) (by decide +kernel), List.mem_of_getElem? (i := 793) (by decide +kernel), List.mem_of_getElem? (i := 794) (by decide +kernel)⟩
def lw_privs_1 : List (MethodName × Nat) := [(⟨"PairVm$Machine", "frameAt", "(I)LPairVm$Frame;"⟩, 7), (⟨"PairVm$FileBytes", "dueCheck", "()J"⟩, 4), (⟨"java/lang/Throwable", "fillInStackTrace", "(I)Ljava/lang/Throwable;"⟩, 6), (⟨"PairVm", "takeFile", "()I"⟩, 6), (⟨"PairVm$FileBytes", "toldCheck", "()J"⟩, 4), (⟨"PairVm$Method", "unitAt", "(I)I"⟩, 11), (⟨"PairVm$Step", "findOperation", "()V"⟩, 15), (⟨"PairVm$Program", "giveTypes", "(LPairVm$Method;)V"⟩, 6), (⟨"PairVm$Flow", "begin", "(LPairVm$Method;)V"⟩, 2), (⟨"PairVm$Flow", "setTypes", "(III)V"⟩, 2), (⟨"PairVm$Flow", "setOne", "(II)V"⟩, 2), (⟨"PairVm$Flow", "join", "(LPairVm$Step;)V"⟩, 2), (⟨"PairVm$Flow", "passOver", "(LPairVm$Step;)V"⟩, 2), (⟨"PairVm", "beginCall", "(I)I"⟩, 6), (⟨"PairVm$Machine", "perform", "(LPairVm$Program;LPairVm$Frame;LPairVm$Step;)V"⟩, 7), (⟨"PairVm$Machine", "leave", "(LPairVm$Frame;LPairVm$Step;)V"⟩, 7)]
theorem lw_r1 : ∀ q ∈ lw_privs_1, lw_okq q := List.forall_mem_cons.mpr ⟨lw_p0, List.forall_mem_cons.mpr ⟨lw_p1, List.forall_mem_cons.mpr ⟨lw_p2, List.forall_mem_cons.mpr ⟨lw_p3, List.forall_mem_cons.mpr ⟨lw_p4, List.forall_mem_cons.mpr ⟨lw_p5, List.forall_mem_cons.mpr ⟨lw_p6, List.forall_mem_cons.mpr ⟨lw_p7, List.forall_mem_cons.mpr ⟨lw_p8, List.forall_mem_cons.mpr ⟨lw_p9, List.forall_mem_cons.mpr ⟨lw_p10, List.forall_mem_cons.mpr ⟨lw_p11, List.forall_mem_cons.mpr ⟨lw_p12, List.forall_mem_cons.mpr ⟨lw_p13, List.forall_mem_cons.mpr ⟨lw_p14, List.forall_mem_cons.mpr ⟨lw_p15, fun _ h => absurd h List.not_mem_nil⟩⟩⟩⟩⟩⟩⟩⟩⟩⟩⟩⟩⟩⟩⟩⟩
theorem lw_p16 : lw_okq (⟨"PairVm$Machine", "combine", "(LPairVm$Frame;LPairVm$Step;)V"⟩, 7) := ⟨⟨by decide +kernel, by decide +kernel⟩, List.mem_of_getElem? (i := 74) (by decide +kernel), List.mem_of_getElem? (i := 809) (by decide +kernel), List.mem_of_getElem? (i := 810) (by decide +kernel)⟩
theorem lw_p17 : lw_okq (⟨"PairVm$Machine", "stop", "(I)V"⟩, 7) := ⟨⟨by decide +kernel, by decide +kernel⟩, List.mem_of_getElem? (i := 74) (by decide +kernel), List.mem_of_getElem? (i := 816) (by decide +kernel), List.mem_of_getElem? (i := 817) (by decide +kernel)⟩
theorem lw_p18 : lw_okq (⟨"PairVm$Machine", "enter", "(LPairVm$Method;LPairVm$Frame;LPairVm$Step;)V"⟩, 7) := ⟨⟨by decide +kernel, by decide +kernel⟩, List.mem_of_getElem? (i := 74) (by decide +kernel), List.mem_of_getElem? (i := 852) (by decide +kernel), List.mem_of_getElem? (i := 853) (by decide +kernel)⟩
theorem lw_p19 : lw_okq (⟨"PairVmModel", "readFile", "()V"⟩, 36) := ⟨⟨by decide +kernel, by decide +kernel⟩, List.mem_of_getElem? (i := 892) (by decide +kernel), List.mem_of_getElem? (i := 1019) (by decide +kernel), List.mem_of_getElem? (i := 1020) (by decide +kernel)⟩
theorem lw_p20 : lw_okq (⟨"PairVmModel", "next", "(II)I"⟩, 36) := ⟨⟨by decide +kernel, by decide +kernel⟩, List.mem_of_getElem? (i := 892) (by decide +kernel), List.mem_of_getElem? (i := 1023) (by decide +kernel), List.mem_of_getElem? (i := 1024) (by decide +kernel)⟩
theorem lw_p21 : lw_okq (⟨"PairVmModel", "readMethod", "(I)V"⟩, 36) := ⟨⟨by decide +kernel, by decide +kernel⟩, List.mem_of_getElem? (i := 892) (by decide +kernel), List.mem_of_getElem? (i := 1027) (by decide +kernel), List.mem_of_getElem? (i := 1028) (by decide +kernel)⟩
theorem lw_p22 : lw_okq (⟨"PairVmModel", "paramWords", "(I)I"⟩, 36) := ⟨⟨by decide +kernel, by decide +kernel⟩, List.mem_of_getElem? (i := 892) (by decide +kernel), List.mem_of_getElem? (i := 1031) (by decide +kernel), List.mem_of_getElem? (i := 1032) (by decide +kernel)⟩
theorem lw_p23 : lw_okq (⟨"PairVmModel", "checkOf", "(I)J"⟩, 36) := ⟨⟨by decide +kernel, by decide +kernel⟩, List.mem_of_getElem? (i := 892) (by decide +kernel), List.mem_of_getElem? (i := 1038) (by decide +kernel), List.mem_of_getElem? (i := 1039) (by decide +kernel)⟩
theorem lw_p24 : lw_okq (⟨"PairVmModel", "fail", "(I)I"⟩, 36) := ⟨⟨by decide +kernel, by decide +kernel⟩, List.mem_of_getElem? (i := 892) (by decide +kernel), List.mem_of_getElem? (i := 1044) (by decide +kernel), List.mem_of_getElem? (i := 1045) (by decide +kernel)⟩
theorem lw_p25 : lw_okq (⟨"PairVmModel", "keepFile", "()V"⟩, 36) := ⟨⟨by decide +kernel, by decide +kernel⟩, List.mem_of_getElem? (i := 892) (by decide +kernel), List.mem_of_getElem? (i := 1048) (by decide +kernel), List.mem_of_getElem? (i := 1049) (by decide +kernel)⟩
theorem lw_p26 : lw_okq (⟨"PairVmModel", "verifyMethod", "(I)V"⟩, 36) := ⟨⟨by decide +kernel, by decide +kernel⟩, List.mem_of_getElem? (i := 892) (by decide +kernel), List.mem_of_getElem? (i := 1052) (by decide +kernel), List.mem_of_getElem? (i := 1053) (by decide +kernel)⟩
theorem lw_p27 : lw_okq (⟨"PairVmModel", "findBeginnings", "(I)V"⟩, 36) := ⟨⟨by decide +kernel, by decide +kernel⟩, List.mem_of_getElem? (i := 892) (by decide +kernel), List.mem_of_getElem? (i := 1056) (by decide +kernel), List.mem_of_getElem? (i := 1057) (by decide +kernel)⟩
theorem lw_p28 : lw_okq (⟨"PairVmModel", "op", "(II)I"⟩, 36) := ⟨⟨by decide +kernel, by decide +kernel⟩, List.mem_of_getElem? (i := 892) (by decide +kernel), List.mem_of_getElem? (i := 1060) (by decide +kernel), List.mem_of_getElem? (i := 1061) (by decide +kernel)⟩
theorem lw_p29 : lw_okq (⟨"PairVmModel", "unit", "(II)I"⟩, 36) := ⟨⟨by decide +kernel, by decide +kernel⟩, List.mem_of_getElem? (i := 892) (by decide +kernel), List.mem_of_getElem? (i := 1064) (by decide +kernel), List.mem_of_getElem? (i := 1065) (by decide +kernel)⟩
theorem lw_p30 : lw_okq (⟨"PairVmModel", "firstIllFormed", "(I)I"⟩, 36) := ⟨⟨by decide +kernel, by decide +kernel⟩, List.mem_of_getElem? (i := 892) (by decide +kernel), List.mem_of_getElem? (i := 1080) (by decide +kernel), List.mem_of_getElem? (i := 1081) (by decide +kernel)⟩
theorem lw_p31 : lw_okq (⟨"PairVmModel", "namesGood", "(II)Z"⟩, 36) := ⟨⟨by decide +kernel, by decide +kernel⟩, List.mem_of_getElem? (i := 892) (by decide +kernel), List.mem_of_getElem? (i := 1084) (by decide +kernel), List.mem_of_getElem? (i := 1085) (by decide +kernel)⟩
def lw_privs_2 : List (MethodName × Nat) := [(⟨"PairVm$Machine", "combine", "(LPairVm$Frame;LPairVm$Step;)V"⟩, 7), (⟨"PairVm$Machine", "stop", "(I)V"⟩, 7), (⟨"PairVm$Machine", "enter", "(LPairVm$Method;LPairVm$Frame;LPairVm$Step;)V"⟩, 7), (⟨"PairVmModel", "readFile", "()V"⟩, 36), (⟨"PairVmModel", "next", "(II)I"⟩, 36), (⟨"PairVmModel", "readMethod", "(I)V"⟩, 36), (⟨"PairVmModel", "paramWords", "(I)I"⟩, 36), (⟨"PairVmModel", "checkOf", "(I)J"⟩, 36), (⟨"PairVmModel", "fail", "(I)I"⟩, 36), (⟨"PairVmModel", "keepFile", "()V"⟩, 36), (⟨"PairVmModel", "verifyMethod", "(I)V"⟩, 36), (⟨"PairVmModel", "findBeginnings", "(I)V"⟩, 36), (⟨"PairVmModel", "op", "(II)I"⟩, 36), (⟨"PairVmModel", "unit", "(II)I"⟩, 36), (⟨"PairVmModel", "firstIllFormed", "(I)I"⟩, 36), (⟨"PairVmModel", "namesGood", "(II)Z"⟩, 36)]
theorem lw_r2 : ∀ q ∈ lw_privs_2, lw_okq q := List.forall_mem_cons.mpr ⟨lw_p16, List.forall_mem_cons.mpr ⟨lw_p17, List.forall_mem_cons.mpr ⟨lw_p18, List.forall_mem_cons.mpr ⟨lw_p19, List.forall_mem_cons.mpr ⟨lw_p20, List.forall_mem_cons.mpr ⟨lw_p21, List.forall_mem_cons.mpr ⟨lw_p22, List.forall_mem_cons.mpr ⟨lw_p23, List.forall_mem_cons.mpr ⟨lw_p24, List.forall_mem_cons.mpr ⟨lw_p25, List.forall_mem_cons.mpr ⟨lw_p26, List.forall_mem_cons.mpr ⟨lw_p27, List.forall_mem_cons.mpr ⟨lw_p28, List.forall_mem_cons.mpr ⟨lw_p29, List.forall_mem_cons.mpr ⟨lw_p30, List.forall_mem_cons.mpr ⟨lw_p31, fun _ h => absurd h List.not_mem_nil⟩⟩⟩⟩⟩⟩⟩⟩⟩⟩⟩⟩⟩⟩⟩⟩
theorem lw_p32 : lw_okq (⟨"PairVmModel", "regA", "(II)I"⟩, 36) := ⟨⟨by decide +kernel, by decide +kernel⟩, List.mem_of_getElem? (i := 892) (by decide +kernel), List.mem_of_getElem? (i := 1088) (by decide +kernel), List.mem_of_getElem? (i := 1089) (by decide +kernel)⟩
theorem lw_p33 : lw_okq (⟨"PairVmModel", "has", "(III)Z"⟩, 36) := ⟨⟨by decide +kernel, by decide +kernel⟩, List.mem_of_getElem? (i := 892) (by decide +kernel), List.mem_of_getElem? (i := 1095) (by decide +kernel), List.mem_of_getElem? (i := 1096) (by decide +kernel)⟩
theorem lw_p34 : lw_okq (⟨"PairVmModel", "regB", "(II)I"⟩, 36) := ⟨⟨by decide +kernel, by decide +kernel⟩, List.mem_of_getElem? (i := 892) (by decide +kernel), List.mem_of_getElem? (i := 1099) (by decide +kernel), List.mem_of_getElem? (i := 1100) (by decide +kernel)⟩
theorem lw_p35 : lw_okq (⟨"PairVmModel", "regAA", "(II)I"⟩, 36) := ⟨⟨by decide +kernel, by decide +kernel⟩, List.mem_of_getElem? (i := 892) (by decide +kernel), List.mem_of_getElem? (i := 1109) (by decide +kernel), List.mem_of_getElem? (i := 1110) (by decide +kernel)⟩
theorem lw_p36 : lw_okq (⟨"PairVmModel", "regC", "(II)I"⟩, 36) := ⟨⟨by decide +kernel, by decide +kernel⟩, List.mem_of_getElem? (i := 892) (by decide +kernel), List.mem_of_getElem? (i := 1113) (by decide +kernel), List.mem_of_getElem? (i := 1114) (by decide +kernel)⟩
theorem lw_p37 : lw_okq (⟨"PairVmModel", "regD", "(II)I"⟩, 36) := ⟨⟨by decide +kernel, by decide +kernel⟩, List.mem_of_getElem? (i := 892) (by decide +kernel), List.mem_of_getElem? (i := 1117) (by decide +kernel), List.mem_of_getElem? (i := 1118) (by decide +kernel)⟩
theorem lw_p38 : lw_okq (⟨"PairVmModel", "number", "(II)I"⟩, 36) := ⟨⟨by decide +kernel, by decide +kernel⟩, List.mem_of_getElem? (i := 892) (by decide +kernel), List.mem_of_getElem? (i := 1124) (by decide +kernel), List.mem_of_getElem? (i := 1125) (by decide +kernel)⟩
theorem lw_p39 : lw_okq (⟨"PairVmModel", "argumentsThere", "(II)Z"⟩, 36) := ⟨⟨by decide +kernel, by decide +kernel⟩, List.mem_of_getElem? (i := 892) (by decide +kernel), List.mem_of_getElem? (i := 1129) (by decide +kernel), List.mem_of_getElem? (i := 1130) (by decide +kernel)⟩
theorem lw_p40 : lw_okq (⟨"PairVmModel", "argument", "(III)I"⟩, 36) := ⟨⟨by decide +kernel, by decide +kernel⟩, List.mem_of_getElem? (i := 892) (by decide +kernel), List.mem_of_getElem? (i := 1133) (by decide +kernel), List.mem_of_getElem? (i := 1134) (by decide +kernel)⟩
theorem lw_p41 : lw_okq (⟨"PairVmModel", "kindGood", "(III)Z"⟩, 36) := ⟨⟨by decide +kernel, by decide +kernel⟩, List.mem_of_getElem? (i := 892) (by decide +kernel), List.mem_of_getElem? (i := 1137) (by decide +kernel), List.mem_of_getElem? (i := 1138) (by decide +kernel)⟩
theorem lw_p42 : lw_okq (⟨"PairVmModel", "isResult", "(II)Z"⟩, 36) := ⟨⟨by decide +kernel, by decide +kernel⟩, List.mem_of_getElem? (i := 892) (by decide +kernel), List.mem_of_getElem? (i := 1141) (by decide +kernel), List.mem_of_getElem? (i := 1142) (by decide +kernel)⟩
theorem lw_p43 : lw_okq (⟨"PairVmModel", "mayGo", "(IIZ)Z"⟩, 36) := ⟨⟨by decide +kernel, by decide +kernel⟩, List.mem_of_getElem? (i := 892) (by decide +kernel), List.mem_of_getElem? (i := 1148) (by decide +kernel), List.mem_of_getElem? (i := 1149) (by decide +kernel)⟩
theorem lw_p44 : lw_okq (⟨"PairVmModel", "target", "(II)I"⟩, 36) := ⟨⟨by decide +kernel, by decide +kernel⟩, List.mem_of_getElem? (i := 892) (by decide +kernel), List.mem_of_getElem? (i := 1155) (by decide +kernel), List.mem_of_getElem? (i := 1156) (by decide +kernel)⟩
theorem lw_p45 : lw_okq (⟨"PairVmModel", "begin", "(I)V"⟩, 36) := ⟨⟨by decide +kernel, by decide +kernel⟩, List.mem_of_getElem? (i := 892) (by decide +kernel), List.mem_of_getElem? (i := 1159) (by decide +kernel), List.mem_of_getElem? (i := 1160) (by decide +kernel)⟩
theorem lw_p46 : lw_okq (⟨"PairVmModel", "set", "(II)V"⟩, 36) := ⟨⟨by decide +kernel, by decide +kernel⟩, List.mem_of_getElem? (i := 892) (by decide +kernel), List.mem_of_getElem? (i := 1163) (by decide +kernel), List.mem_of_getElem? (i := 1164) (by decide +kernel)⟩
theorem lw_p47 : lw_okq (⟨"PairVmModel", "loosen", "(I)V"⟩, 36) := ⟨⟨by decide +kernel, by decide +kernel⟩, List.mem_of_getElem? (i := 892) (by decide +kernel), List.mem_of_getElem? (i := 1167) (by decide +kernel), List.mem_of_getElem? (i := 1168) (by decide +kernel)⟩
def lw_privs_3 : List (MethodName × Nat) := [(⟨"PairVmModel", "regA", "(II)I"⟩, 36), (⟨"PairVmModel", "has", "(III)Z"⟩, 36), (⟨"PairVmModel", "regB", "(II)I"⟩, 36), (⟨"PairVmModel", "regAA", "(II)I"⟩, 36), (⟨"PairVmModel", "regC", "(II)I"⟩, 36), (⟨"PairVmModel", "regD", "(II)I"⟩, 36), (⟨"PairVmModel", "number", "(II)I"⟩, 36), (⟨"PairVmModel", "argumentsThere", "(II)Z"⟩, 36), (⟨"PairVmModel", "argument", "(III)I"⟩, 36), (⟨"PairVmModel", "kindGood", "(III)Z"⟩, 36), (⟨"PairVmModel", "isResult", "(II)Z"⟩, 36), (⟨"PairVmModel", "mayGo", "(IIZ)Z"⟩, 36), (⟨"PairVmModel", "target", "(II)I"⟩, 36), (⟨"PairVmModel", "begin", "(I)V"⟩, 36), (⟨"PairVmModel", "set", "(II)V"⟩, 36), (⟨"PairVmModel", "loosen", "(I)V"⟩, 36)]
theorem lw_r3 : ∀ q ∈ lw_privs_3, lw_okq q := List.forall_mem_cons.mpr ⟨lw_p32, List.forall_mem_cons.mpr ⟨lw_p33, List.forall_mem_cons.mpr ⟨lw_p34, List.forall_mem_cons.mpr ⟨lw_p35, List.forall_mem_cons.mpr ⟨lw_p36, List.forall_mem_cons.mpr ⟨lw_p37, List.forall_mem_cons.mpr ⟨lw_p38, List.forall_mem_cons.mpr ⟨lw_p39, List.forall_mem_cons.mpr ⟨lw_p40, List.forall_mem_cons.mpr ⟨lw_p41, List.forall_mem_cons.mpr ⟨lw_p42, List.forall_mem_cons.mpr ⟨lw_p43, List.forall_mem_cons.mpr ⟨lw_p44, List.forall_mem_cons.mpr ⟨lw_p45, List.forall_mem_cons.mpr ⟨lw_p46, List.forall_mem_cons.mpr ⟨lw_p47, fun _ h => absurd h List.not_mem_nil⟩⟩⟩⟩⟩⟩⟩⟩⟩⟩⟩⟩⟩⟩⟩⟩
theorem lw_p48 : lw_okq (⟨"PairVmModel", "flow", "(II)V"⟩, 36) := ⟨⟨by decide +kernel, by decide +kernel⟩, List.mem_of_getElem? (i := 892) (by decide +kernel), List.mem_of_getElem? (i := 1174) (by decide +kernel), List.mem_of_getElem? (i := 1175) (by decide +kernel)⟩
theorem lw_p49 : lw_okq (⟨"PairVmModel", "step1", "(III)V"⟩, 36) := ⟨⟨by decide +kernel, by decide +kernel⟩, List.mem_of_getElem? (i := 892) (by decide +kernel), List.mem_of_getElem? (i := 1178) (by decide +kernel), List.mem_of_getElem? (i := 1179) (by decide +kernel)⟩
theorem lw_p50 : lw_okq (⟨"PairVmModel", "pass1", "(III)V"⟩, 36) := ⟨⟨by decide +kernel, by decide +kernel⟩, List.mem_of_getElem? (i := 892) (by decide +kernel), List.mem_of_getElem? (i := 1182) (by decide +kernel), List.mem_of_getElem? (i := 1183) (by decide +kernel)⟩
theorem lw_p51 : lw_okq (⟨"PairVmModel", "typeAt", "(III)I"⟩, 36) := ⟨⟨by decide +kernel, by decide +kernel⟩, List.mem_of_getElem? (i := 892) (by decide +kernel), List.mem_of_getElem? (i := 1186) (by decide +kernel), List.mem_of_getElem? (i := 1187) (by decide +kernel)⟩
theorem lw_p52 : lw_okq (⟨"PairVmModel", "is", "(IIII)Z"⟩, 36) := ⟨⟨by decide +kernel, by decide +kernel⟩, List.mem_of_getElem? (i := 892) (by decide +kernel), List.mem_of_getElem? (i := 1190) (by decide +kernel), List.mem_of_getElem? (i := 1191) (by decide +kernel)⟩
theorem lw_p53 : lw_okq (⟨"PairVmModel", "need", "(Z)V"⟩, 36) := ⟨⟨by decide +kernel, by decide +kernel⟩, List.mem_of_getElem? (i := 892) (by decide +kernel), List.mem_of_getElem? (i := 1194) (by decide +kernel), List.mem_of_getElem? (i := 1195) (by decide +kernel)⟩
theorem lw_p54 : lw_okq (⟨"PairVmModel", "passOther", "(III)V"⟩, 36) := ⟨⟨by decide +kernel, by decide +kernel⟩, List.mem_of_getElem? (i := 892) (by decide +kernel), List.mem_of_getElem? (i := 1198) (by decide +kernel), List.mem_of_getElem? (i := 1199) (by decide +kernel)⟩
theorem lw_p55 : lw_okq (⟨"PairVmModel", "useArguments", "(II)V"⟩, 36) := ⟨⟨by decide +kernel, by decide +kernel⟩, List.mem_of_getElem? (i := 892) (by decide +kernel), List.mem_of_getElem? (i := 1202) (by decide +kernel), List.mem_of_getElem? (i := 1203) (by decide +kernel)⟩
theorem lw_p56 : lw_okq (⟨"PairVmModel", "idle", "(I)V"⟩, 36) := ⟨⟨by decide +kernel, by decide +kernel⟩, List.mem_of_getElem? (i := 892) (by decide +kernel), List.mem_of_getElem? (i := 1206) (by decide +kernel), List.mem_of_getElem? (i := 1207) (by decide +kernel)⟩
theorem lw_p57 : lw_okq (⟨"PairVmModel", "isMethod", "(I)Z"⟩, 36) := ⟨⟨by decide +kernel, by decide +kernel⟩, List.mem_of_getElem? (i := 892) (by decide +kernel), List.mem_of_getElem? (i := 1224) (by decide +kernel), List.mem_of_getElem? (i := 1225) (by decide +kernel)⟩
theorem lw_p58 : lw_okq (⟨"PairVmModel", "addArgument", "(IJD)Z"⟩, 36) := ⟨⟨by decide +kernel, by decide +kernel⟩, List.mem_of_getElem? (i := 892) (by decide +kernel), List.mem_of_getElem? (i := 1236) (by decide +kernel), List.mem_of_getElem? (i := 1237) (by decide +kernel)⟩
theorem lw_p59 : lw_okq (⟨"PairVmModel", "enter", "(I)V"⟩, 36) := ⟨⟨by decide +kernel, by decide +kernel⟩, List.mem_of_getElem? (i := 892) (by decide +kernel), List.mem_of_getElem? (i := 1250) (by decide +kernel), List.mem_of_getElem? (i := 1251) (by decide +kernel)⟩
theorem lw_p60 : lw_okq (⟨"PairVmModel", "one", "()I"⟩, 36) := ⟨⟨by decide +kernel, by decide +kernel⟩, List.mem_of_getElem? (i := 892) (by decide +kernel), List.mem_of_getElem? (i := 1258) (by decide +kernel), List.mem_of_getElem? (i := 1259) (by decide +kernel)⟩
theorem lw_p61 : lw_okq (⟨"PairVmModel", "callFrom", "(II)V"⟩, 36) := ⟨⟨by decide +kernel, by decide +kernel⟩, List.mem_of_getElem? (i := 892) (by decide +kernel), List.mem_of_getElem? (i := 1262) (by decide +kernel), List.mem_of_getElem? (i := 1263) (by decide +kernel)⟩
theorem lw_p62 : lw_okq (⟨"PairVmModel", "base", "()I"⟩, 36) := ⟨⟨by decide +kernel, by decide +kernel⟩, List.mem_of_getElem? (i := 892) (by decide +kernel), List.mem_of_getElem? (i := 1266) (by decide +kernel), List.mem_of_getElem? (i := 1267) (by decide +kernel)⟩
theorem lw_p63 : lw_okq (⟨"PairVmModel", "giveBack", "(II)V"⟩, 36) := ⟨⟨by decide +kernel, by decide +kernel⟩, List.mem_of_getElem? (i := 892) (by decide +kernel), List.mem_of_getElem? (i := 1270) (by decide +kernel), List.mem_of_getElem? (i := 1271) (by decide +kernel)⟩
def lw_privs_4 : List (MethodName × Nat) := [(⟨"PairVmModel", "flow", "(II)V"⟩, 36), (⟨"PairVmModel", "step1", "(III)V"⟩, 36), (⟨"PairVmModel", "pass1", "(III)V"⟩, 36), (⟨"PairVmModel", "typeAt", "(III)I"⟩, 36), (⟨"PairVmModel", "is", "(IIII)Z"⟩, 36), (⟨"PairVmModel", "need", "(Z)V"⟩, 36), (⟨"PairVmModel", "passOther", "(III)V"⟩, 36), (⟨"PairVmModel", "useArguments", "(II)V"⟩, 36), (⟨"PairVmModel", "idle", "(I)V"⟩, 36), (⟨"PairVmModel", "isMethod", "(I)Z"⟩, 36), (⟨"PairVmModel", "addArgument", "(IJD)Z"⟩, 36), (⟨"PairVmModel", "enter", "(I)V"⟩, 36), (⟨"PairVmModel", "one", "()I"⟩, 36), (⟨"PairVmModel", "callFrom", "(II)V"⟩, 36), (⟨"PairVmModel", "base", "()I"⟩, 36), (⟨"PairVmModel", "giveBack", "(II)V"⟩, 36)]
theorem lw_r4 : ∀ q ∈ lw_privs_4, lw_okq q := List.forall_mem_cons.mpr ⟨lw_p48, List.forall_mem_cons.mpr ⟨lw_p49, List.forall_mem_cons.mpr ⟨lw_p50, List.forall_mem_cons.mpr ⟨lw_p51, List.forall_mem_cons.mpr ⟨lw_p52, List.forall_mem_cons.mpr ⟨lw_p53, List.forall_mem_cons.mpr ⟨lw_p54, List.forall_mem_cons.mpr ⟨lw_p55, List.forall_mem_cons.mpr ⟨lw_p56, List.forall_mem_cons.mpr ⟨lw_p57, List.forall_mem_cons.mpr ⟨lw_p58, List.forall_mem_cons.mpr ⟨lw_p59, List.forall_mem_cons.mpr ⟨lw_p60, List.forall_mem_cons.mpr ⟨lw_p61, List.forall_mem_cons.mpr ⟨lw_p62, List.forall_mem_cons.mpr ⟨lw_p63, fun _ h => absurd h List.not_mem_nil⟩⟩⟩⟩⟩⟩⟩⟩⟩⟩⟩⟩⟩⟩⟩⟩
theorem lw_p64 : lw_okq (⟨"PairVmModel", "wholeOf", "(I)J"⟩, 36) := ⟨⟨by decide +kernel, by decide +kernel⟩, List.mem_of_getElem? (i := 892) (by decide +kernel), List.mem_of_getElem? (i := 1274) (by decide +kernel), List.mem_of_getElem? (i := 1275) (by decide +kernel)⟩
theorem lw_p65 : lw_okq (⟨"PairVmModel", "realOf", "(I)D"⟩, 36) := ⟨⟨by decide +kernel, by decide +kernel⟩, List.mem_of_getElem? (i := 892) (by decide +kernel), List.mem_of_getElem? (i := 1278) (by decide +kernel), List.mem_of_getElem? (i := 1279) (by decide +kernel)⟩
theorem lw_p66 : lw_okq (⟨"PairVmModel", "join", "(IIII)Z"⟩, 36) := ⟨⟨by decide +kernel, by decide +kernel⟩, List.mem_of_getElem? (i := 892) (by decide +kernel), List.mem_of_getElem? (i := 1282) (by decide +kernel), List.mem_of_getElem? (i := 1283) (by decide +kernel)⟩
theorem lw_p67 : lw_okq (⟨"PairVmModel", "setWhole", "(IJ)V"⟩, 36) := ⟨⟨by decide +kernel, by decide +kernel⟩, List.mem_of_getElem? (i := 892) (by decide +kernel), List.mem_of_getElem? (i := 1292) (by decide +kernel), List.mem_of_getElem? (i := 1293) (by decide +kernel)⟩
theorem lw_p68 : lw_okq (⟨"PairVmModel", "setReal", "(ID)V"⟩, 36) := ⟨⟨by decide +kernel, by decide +kernel⟩, List.mem_of_getElem? (i := 892) (by decide +kernel), List.mem_of_getElem? (i := 1304) (by decide +kernel), List.mem_of_getElem? (i := 1305) (by decide +kernel)⟩
theorem lw_p69 : lw_okq (⟨"PairVmModel", "convert", "(III)V"⟩, 36) := ⟨⟨by decide +kernel, by decide +kernel⟩, List.mem_of_getElem? (i := 892) (by decide +kernel), List.mem_of_getElem? (i := 1314) (by decide +kernel), List.mem_of_getElem? (i := 1315) (by decide +kernel)⟩
theorem lw_p70 : lw_okq (⟨"PairVmModel", "compare", "(IIII)V"⟩, 36) := ⟨⟨by decide +kernel, by decide +kernel⟩, List.mem_of_getElem? (i := 892) (by decide +kernel), List.mem_of_getElem? (i := 1318) (by decide +kernel), List.mem_of_getElem? (i := 1319) (by decide +kernel)⟩
theorem lw_p71 : lw_okq (⟨"PairVmModel", "simple", "(III)V"⟩, 36) := ⟨⟨by decide +kernel, by decide +kernel⟩, List.mem_of_getElem? (i := 892) (by decide +kernel), List.mem_of_getElem? (i := 1322) (by decide +kernel), List.mem_of_getElem? (i := 1323) (by decide +kernel)⟩
theorem lw_p72 : lw_okq (⟨"PairVmModel", "copy", "(II)V"⟩, 36) := ⟨⟨by decide +kernel, by decide +kernel⟩, List.mem_of_getElem? (i := 892) (by decide +kernel), List.mem_of_getElem? (i := 1326) (by decide +kernel), List.mem_of_getElem? (i := 1327) (by decide +kernel)⟩
def lw_privs_5 : List (MethodName × Nat) := [(⟨"PairVmModel", "wholeOf", "(I)J"⟩, 36), (⟨"PairVmModel", "realOf", "(I)D"⟩, 36), (⟨"PairVmModel", "join", "(IIII)Z"⟩, 36), (⟨"PairVmModel", "setWhole", "(IJ)V"⟩, 36), (⟨"PairVmModel", "setReal", "(ID)V"⟩, 36), (⟨"PairVmModel", "convert", "(III)V"⟩, 36), (⟨"PairVmModel", "compare", "(IIII)V"⟩, 36), (⟨"PairVmModel", "simple", "(III)V"⟩, 36), (⟨"PairVmModel", "copy", "(II)V"⟩, 36)]
theorem lw_r5 : ∀ q ∈ lw_privs_5, lw_okq q := List.forall_mem_cons.mpr ⟨lw_p64, List.forall_mem_cons.mpr ⟨lw_p65, List.forall_mem_cons.mpr ⟨lw_p66, List.forall_mem_cons.mpr ⟨lw_p67, List.forall_mem_cons.mpr ⟨lw_p68, List.forall_mem_cons.mpr ⟨lw_p69, List.forall_mem_cons.mpr ⟨lw_p70, List.forall_mem_cons.mpr ⟨lw_p71, List.forall_mem_cons.mpr ⟨lw_p72, fun _ h => absurd h List.not_mem_nil⟩⟩⟩⟩⟩⟩⟩⟩⟩
def lw_privs : List (MethodName × Nat) := lw_privs_1 ++ (lw_privs_2 ++ (lw_privs_3 ++ (lw_privs_4 ++ (lw_privs_5))))
def lw_tbl : List Cond := k2_sels lw_privs ++ tables_1
theorem lw_privs_ok : ∀ q ∈ lw_privs, lw_okq q := by
  show ∀ q ∈ lw_privs_1 ++ (lw_privs_2 ++ (lw_privs_3 ++ (lw_privs_4 ++ (lw_privs_5)))), lw_okq q
  exact List.forall_mem_append.mpr ⟨lw_r1, List.forall_mem_append.mpr ⟨lw_r2, List.forall_mem_append.mpr ⟨lw_r3, List.forall_mem_append.mpr ⟨lw_r4, lw_r5⟩⟩⟩⟩

/-! names, by program -/
def al_W : List Cond := lw_tbl.filter goodWord
theorem al_in {w : Cond} (i : Nat) (h : lw_tbl[i]? = some w) (g : goodWord w = true) : w ∈ al_W := List.mem_filter.mpr ⟨List.mem_of_getElem? h, g⟩
theorem al_good : ∀ w ∈ al_W, goodWord w = true := fun w h => (List.mem_filter.mp h).2
def rn_V : String := "PairVm"
def ft_V : u_T := fun k => match k with
  | 0 => ("PairVm", "file", "LPairVm$FileBytes;", true)
  | 1 => ("PairVm", "arguments", "LPairVm$Arguments;", true)
  | 2 => ("PairVm", "machine", "LPairVm$Machine;", true)
  | 3 => ("PairVm", "program", "LPairVm$Program;", false)
  | 4 => ("PairVm", "spare", "LPairVm$Program;", false)
  | _ => ("PairVm", "illPlace", "I", false)
def ty_V : Nat → FieldType := fun k => match k with
  | 0 => .object "PairVm$FileBytes"
  | 1 => .object "PairVm$Arguments"
  | 2 => .object "PairVm$Machine"
  | 3 => .object "PairVm$Program"
  | 4 => .object "PairVm$Program"
  | _ => .int
theorem nm_V : ∀ a, a < 6 → ∀ b, b < 6 → a ≠ b → (ft_V a).2.1 ≠ (ft_V b).2.1 := by decide +kernel
theorem tk_V : ∀ k, k < 6 → parseFieldDescriptor (ft_V k).2.2.1 = some (ty_V k) := by decide +kernel
theorem uw_V : ∀ w ∈ u_ws rn_V ft_V 6, w ∈ al_W := by
  intro w hw
  obtain ⟨k, hk, rfl⟩ := List.mem_map.mp hw
  have hk := List.mem_range.mp hk
  exact (show ∀ k, k < 6 → u_lay rn_V ft_V k ∈ al_W from fun k hk => al_in (([391, 393, 395, 397, 399, 401] : List Nat).getD k 0) ((show ∀ k, k < 6 → lw_tbl[([391, 393, 395, 397, 399, 401] : List Nat).getD k 0]? = some (u_lay rn_V ft_V k) by decide +kernel) k hk) ((show ∀ k, k < 6 → goodWord (u_lay rn_V ft_V k) = true by decide +kernel) k hk)) k hk
def rn_Fb : String := "PairVm$FileBytes"
def ft_Fb : u_T := fun k => match k with
  | 0 => ("PairVm$FileBytes", "bytes", "[I", true)
  | 1 => ("PairVm$FileBytes", "length", "I", false)
  | 2 => ("PairVm$FileBytes", "next", "I", false)
  | _ => ("PairVm$FileBytes", "fault", "I", false)
def ty_Fb : Nat → FieldType := fun k => match k with
  | 0 => .array .int
  | 1 => .int
  | 2 => .int
  | _ => .int
theorem nm_Fb : ∀ a, a < 4 → ∀ b, b < 4 → a ≠ b → (ft_Fb a).2.1 ≠ (ft_Fb b).2.1 := by decide +kernel
theorem tk_Fb : ∀ k, k < 4 → parseFieldDescriptor (ft_Fb k).2.2.1 = some (ty_Fb k) := by decide +kernel
theorem uw_Fb : ∀ w ∈ u_ws rn_Fb ft_Fb 4, w ∈ al_W := by
  intro w hw
  obtain ⟨k, hk, rfl⟩ := List.mem_map.mp hw
  have hk := List.mem_range.mp hk
  exact (show ∀ k, k < 4 → u_lay rn_Fb ft_Fb k ∈ al_W from fun k hk => al_in (([115, 117, 119, 121] : List Nat).getD k 0) ((show ∀ k, k < 4 → lw_tbl[([115, 117, 119, 121] : List Nat).getD k 0]? = some (u_lay rn_Fb ft_Fb k) by decide +kernel) k hk) ((show ∀ k, k < 4 → goodWord (u_lay rn_Fb ft_Fb k) = true by decide +kernel) k hk)) k hk
def rn_Ag : String := "PairVm$Arguments"
def ft_Ag : u_T := fun k => match k with
  | 0 => ("PairVm$Arguments", "types", "[I", true)
  | 1 => ("PairVm$Arguments", "wholes", "[J", true)
  | 2 => ("PairVm$Arguments", "reals", "[D", true)
  | _ => ("PairVm$Arguments", "count", "I", false)
def ty_Ag : Nat → FieldType := fun k => match k with
  | 0 => .array .int
  | 1 => .array .long
  | 2 => .array .double
  | _ => .int
theorem nm_Ag : ∀ a, a < 4 → ∀ b, b < 4 → a ≠ b → (ft_Ag a).2.1 ≠ (ft_Ag b).2.1 := by decide +kernel
theorem tk_Ag : ∀ k, k < 4 → parseFieldDescriptor (ft_Ag k).2.2.1 = some (ty_Ag k) := by decide +kernel
theorem uw_Ag : ∀ w ∈ u_ws rn_Ag ft_Ag 4, w ∈ al_W := by
  intro w hw
  obtain ⟨k, hk, rfl⟩ := List.mem_map.mp hw
  have hk := List.mem_range.mp hk
  exact (show ∀ k, k < 4 → u_lay rn_Ag ft_Ag k ∈ al_W from fun k hk => al_in (([135, 137, 139, 141] : List Nat).getD k 0) ((show ∀ k, k < 4 → lw_tbl[([135, 137, 139, 141] : List Nat).getD k 0]? = some (u_lay rn_Ag ft_Ag k) by decide +kernel) k hk) ((show ∀ k, k < 4 → goodWord (u_lay rn_Ag ft_Ag k) = true by decide +kernel) k hk)) k hk
def rn_Mc : String := "PairVm$Machine"
def ft_Mc : u_T := fun k => match k with
  | 0 => ("PairVm$Machine", "frames", "[LPairVm$Frame;", true)
  | 1 => ("PairVm$Machine", "open", "I", false)
  | 2 => ("PairVm$Machine", "condition", "I", false)
  | 3 => ("PairVm$Machine", "trouble", "I", false)
  | 4 => ("PairVm$Machine", "resultType", "I", false)
  | 5 => ("PairVm$Machine", "whole", "J", false)
  | _ => ("PairVm$Machine", "realResult", "D", false)
def ty_Mc : Nat → FieldType := fun k => match k with
  | 0 => .array (.object "PairVm$Frame")
  | 1 => .int
  | 2 => .int
  | 3 => .int
  | 4 => .int
  | 5 => .long
  | _ => .double
theorem nm_Mc : ∀ a, a < 7 → ∀ b, b < 7 → a ≠ b → (ft_Mc a).2.1 ≠ (ft_Mc b).2.1 := by decide +kernel
theorem tk_Mc : ∀ k, k < 7 → parseFieldDescriptor (ft_Mc k).2.2.1 = some (ty_Mc k) := by decide +kernel
theorem uw_Mc : ∀ w ∈ u_ws rn_Mc ft_Mc 7, w ∈ al_W := by
  intro w hw
  obtain ⟨k, hk, rfl⟩ := List.mem_map.mp hw
  have hk := List.mem_range.mp hk
  exact (show ∀ k, k < 7 → u_lay rn_Mc ft_Mc k ∈ al_W from fun k hk => al_in (([184, 186, 188, 190, 192, 194, 196] : List Nat).getD k 0) ((show ∀ k, k < 7 → lw_tbl[([184, 186, 188, 190, 192, 194, 196] : List Nat).getD k 0]? = some (u_lay rn_Mc ft_Mc k) by decide +kernel) k hk) ((show ∀ k, k < 7 → goodWord (u_lay rn_Mc ft_Mc k) = true by decide +kernel) k hk)) k hk
def rn_Fr : String := "PairVm$Frame"
def ft_Fr : u_T := fun k => match k with
  | 0 => ("PairVm$Frame", "wholes", "[J", true)
  | 1 => ("PairVm$Frame", "reals", "[D", true)
  | 2 => ("PairVm$Frame", "method", "LPairVm$Method;", false)
  | _ => ("PairVm$Frame", "unit", "I", false)
def ty_Fr : Nat → FieldType := fun k => match k with
  | 0 => .array .long
  | 1 => .array .double
  | 2 => .object "PairVm$Method"
  | _ => .int
theorem nm_Fr : ∀ a, a < 4 → ∀ b, b < 4 → a ≠ b → (ft_Fr a).2.1 ≠ (ft_Fr b).2.1 := by decide +kernel
theorem tk_Fr : ∀ k, k < 4 → parseFieldDescriptor (ft_Fr k).2.2.1 = some (ty_Fr k) := by decide +kernel
theorem uw_Fr : ∀ w ∈ u_ws rn_Fr ft_Fr 4, w ∈ al_W := by
  intro w hw
  obtain ⟨k, hk, rfl⟩ := List.mem_map.mp hw
  have hk := List.mem_range.mp hk
  exact (show ∀ k, k < 4 → u_lay rn_Fr ft_Fr k ∈ al_W from fun k hk => al_in (([164, 166, 168, 170] : List Nat).getD k 0) ((show ∀ k, k < 4 → lw_tbl[([164, 166, 168, 170] : List Nat).getD k 0]? = some (u_lay rn_Fr ft_Fr k) by decide +kernel) k hk) ((show ∀ k, k < 4 → goodWord (u_lay rn_Fr ft_Fr k) = true by decide +kernel) k hk)) k hk
def rn_Pg : String := "PairVm$Program"
def ft_Pg : u_T := fun k => match k with
  | 0 => ("PairVm$Program", "methods", "[LPairVm$Method;", true)
  | 1 => ("PairVm$Program", "fields", "[I", true)
  | 2 => ("PairVm$Program", "flow", "LPairVm$Flow;", true)
  | 3 => ("PairVm$Program", "methodCount", "I", false)
  | 4 => ("PairVm$Program", "fieldCount", "I", false)
  | _ => ("PairVm$Program", "fit", "Z", false)
def ty_Pg : Nat → FieldType := fun k => match k with
  | 0 => .array (.object "PairVm$Method")
  | 1 => .array .int
  | 2 => .object "PairVm$Flow"
  | 3 => .int
  | 4 => .int
  | _ => .boolean
theorem nm_Pg : ∀ a, a < 6 → ∀ b, b < 6 → a ≠ b → (ft_Pg a).2.1 ≠ (ft_Pg b).2.1 := by decide +kernel
theorem tk_Pg : ∀ k, k < 6 → parseFieldDescriptor (ft_Pg k).2.2.1 = some (ty_Pg k) := by decide +kernel
theorem uw_Pg : ∀ w ∈ u_ws rn_Pg ft_Pg 6, w ∈ al_W := by
  intro w hw
  obtain ⟨k, hk, rfl⟩ := List.mem_map.mp hw
  have hk := List.mem_range.mp hk
  exact (show ∀ k, k < 6 → u_lay rn_Pg ft_Pg k ∈ al_W from fun k hk => al_in (([372, 374, 376, 378, 380, 382] : List Nat).getD k 0) ((show ∀ k, k < 6 → lw_tbl[([372, 374, 376, 378, 380, 382] : List Nat).getD k 0]? = some (u_lay rn_Pg ft_Pg k) by decide +kernel) k hk) ((show ∀ k, k < 6 → goodWord (u_lay rn_Pg ft_Pg k) = true by decide +kernel) k hk)) k hk
def rn_Fl : String := "PairVm$Flow"
def ft_Fl : u_T := fun k => match k with
  | 0 => ("PairVm$Flow", "after", "[I", true)
  | _ => ("PairVm$Flow", "changed", "Z", false)
def ty_Fl : Nat → FieldType := fun k => match k with
  | 0 => .array .int
  | _ => .boolean
theorem nm_Fl : ∀ a, a < 2 → ∀ b, b < 2 → a ≠ b → (ft_Fl a).2.1 ≠ (ft_Fl b).2.1 := by decide +kernel
theorem tk_Fl : ∀ k, k < 2 → parseFieldDescriptor (ft_Fl k).2.2.1 = some (ty_Fl k) := by decide +kernel
theorem uw_Fl : ∀ w ∈ u_ws rn_Fl ft_Fl 2, w ∈ al_W := by
  intro w hw
  obtain ⟨k, hk, rfl⟩ := List.mem_map.mp hw
  have hk := List.mem_range.mp hk
  exact (show ∀ k, k < 2 → u_lay rn_Fl ft_Fl k ∈ al_W from fun k hk => al_in (([215, 217] : List Nat).getD k 0) ((show ∀ k, k < 2 → lw_tbl[([215, 217] : List Nat).getD k 0]? = some (u_lay rn_Fl ft_Fl k) by decide +kernel) k hk) ((show ∀ k, k < 2 → goodWord (u_lay rn_Fl ft_Fl k) = true by decide +kernel) k hk)) k hk
def rn_Me : String := "PairVm$Method"
def ft_Me : u_T := fun k => match k with
  | 0 => ("PairVm$Method", "parameters", "[I", true)
  | 1 => ("PairVm$Method", "units", "[I", true)
  | 2 => ("PairVm$Method", "steps", "[LPairVm$Step;", true)
  | 3 => ("PairVm$Method", "begins", "[Z", true)
  | 4 => ("PairVm$Method", "returns", "I", false)
  | 5 => ("PairVm$Method", "parameterCount", "I", false)
  | 6 => ("PairVm$Method", "words", "I", false)
  | 7 => ("PairVm$Method", "registers", "I", false)
  | 8 => ("PairVm$Method", "unitCount", "I", false)
  | 9 => ("PairVm$Method", "formed", "Z", false)
  | _ => ("PairVm$Method", "verdict", "I", false)
def ty_Me : Nat → FieldType := fun k => match k with
  | 0 => .array .int
  | 1 => .array .int
  | 2 => .array (.object "PairVm$Step")
  | 3 => .array .boolean
  | 4 => .int
  | 5 => .int
  | 6 => .int
  | 7 => .int
  | 8 => .int
  | 9 => .boolean
  | _ => .int
theorem nm_Me : ∀ a, a < 11 → ∀ b, b < 11 → a ≠ b → (ft_Me a).2.1 ≠ (ft_Me b).2.1 := by decide +kernel
theorem tk_Me : ∀ k, k < 11 → parseFieldDescriptor (ft_Me k).2.2.1 = some (ty_Me k) := by decide +kernel
theorem uw_Me : ∀ w ∈ u_ws rn_Me ft_Me 11, w ∈ al_W := by
  intro w hw
  obtain ⟨k, hk, rfl⟩ := List.mem_map.mp hw
  have hk := List.mem_range.mp hk
  exact (show ∀ k, k < 11 → u_lay rn_Me ft_Me k ∈ al_W from fun k hk => al_in (([341, 343, 345, 347, 349, 351, 353, 355, 357, 359, 361] : List Nat).getD k 0) ((show ∀ k, k < 11 → lw_tbl[([341, 343, 345, 347, 349, 351, 353, 355, 357, 359, 361] : List Nat).getD k 0]? = some (u_lay rn_Me ft_Me k) by decide +kernel) k hk) ((show ∀ k, k < 11 → goodWord (u_lay rn_Me ft_Me k) = true by decide +kernel) k hk)) k hk
def rn_St : String := "PairVm$Step"
def ft_St : u_T := fun k => match k with
  | 0 => ("PairVm$Step", "reached", "Z", false)
  | 1 => ("PairVm$Step", "types", "[I", true)
  | 2 => ("PairVm$Step", "operation", "I", false)
  | 3 => ("PairVm$Step", "kind", "I", false)
  | 4 => ("PairVm$Step", "length", "I", false)
  | 5 => ("PairVm$Step", "complete", "Z", false)
  | 6 => ("PairVm$Step", "before", "I", false)
  | 7 => ("PairVm$Step", "sets", "I", false)
  | 8 => ("PairVm$Step", "uses", "I", false)
  | 9 => ("PairVm$Step", "result", "I", false)
  | 10 => ("PairVm$Step", "first", "I", false)
  | 11 => ("PairVm$Step", "second", "I", false)
  | 12 => ("PairVm$Step", "number", "I", false)
  | 13 => ("PairVm$Step", "namedCount", "I", false)
  | _ => ("PairVm$Step", "names", "I", false)
def ty_St : Nat → FieldType := fun k => match k with
  | 0 => .boolean
  | 1 => .array .int
  | 2 => .int
  | 3 => .int
  | 4 => .int
  | 5 => .boolean
  | 6 => .int
  | 7 => .int
  | 8 => .int
  | 9 => .int
  | 10 => .int
  | 11 => .int
  | 12 => .int
  | 13 => .int
  | _ => .int
theorem nm_St : ∀ a, a < 15 → ∀ b, b < 15 → a ≠ b → (ft_St a).2.1 ≠ (ft_St b).2.1 := by decide +kernel
theorem tk_St : ∀ k, k < 15 → parseFieldDescriptor (ft_St k).2.2.1 = some (ty_St k) := by decide +kernel
theorem uw_St : ∀ w ∈ u_ws rn_St ft_St 15, w ∈ al_W := by
  intro w hw
  obtain ⟨k, hk, rfl⟩ := List.mem_map.mp hw
  have hk := List.mem_range.mp hk
  exact (show ∀ k, k < 15 → u_lay rn_St ft_St k ∈ al_W from fun k hk => al_in (([284, 286, 288, 290, 292, 294, 296, 298, 300, 302, 304, 306, 308, 310, 312] : List Nat).getD k 0) ((show ∀ k, k < 15 → lw_tbl[([284, 286, 288, 290, 292, 294, 296, 298, 300, 302, 304, 306, 308, 310, 312] : List Nat).getD k 0]? = some (u_lay rn_St ft_St k) by decide +kernel) k hk) ((show ∀ k, k < 15 → goodWord (u_lay rn_St ft_St k) = true by decide +kernel) k hk)) k hk
def rn_Mo : String := "PairVmModel"
def ft_Mo : u_T := fun k => match k with
  | 0 => ("PairVmModel", "code", "I", false)
  | 1 => ("PairVmModel", "size", "I", false)
  | 2 => ("PairVmModel", "bytes", "[I", true)
  | 3 => ("PairVmModel", "pos", "I", false)
  | 4 => ("PairVmModel", "illAt", "I", false)
  | 5 => ("PairVmModel", "ill", "Z", false)
  | 6 => ("PairVmModel", "methods", "[I", true)
  | 7 => ("PairVmModel", "fields", "[I", true)
  | 8 => ("PairVmModel", "returns", "[I", true)
  | 9 => ("PairVmModel", "params", "[I", true)
  | 10 => ("PairVmModel", "param", "[I", true)
  | 11 => ("PairVmModel", "registers", "[I", true)
  | 12 => ("PairVmModel", "units", "[I", true)
  | 13 => ("PairVmModel", "code0", "[I", true)
  | 14 => ("PairVmModel", "badForm", "[I", true)
  | 15 => ("PairVmModel", "badType", "[I", true)
  | 16 => ("PairVmModel", "begins", "[Z", true)
  | 17 => ("PairVmModel", "reached", "[Z", true)
  | 18 => ("PairVmModel", "types", "[I", true)
  | 19 => ("PairVmModel", "now", "[I", true)
  | 20 => ("PairVmModel", "changed", "Z", false)
  | 21 => ("PairVmModel", "wrong", "Z", false)
  | 22 => ("PairVmModel", "args", "I", false)
  | 23 => ("PairVmModel", "argType", "[I", true)
  | 24 => ("PairVmModel", "argWhole", "[J", true)
  | 25 => ("PairVmModel", "argReal", "[D", true)
  | 26 => ("PairVmModel", "state", "I", false)
  | 27 => ("PairVmModel", "depth", "I", false)
  | 28 => ("PairVmModel", "frameMethod", "[I", true)
  | 29 => ("PairVmModel", "framePc", "[I", true)
  | 30 => ("PairVmModel", "whole", "[J", true)
  | 31 => ("PairVmModel", "real", "[D", true)
  | 32 => ("PairVmModel", "outType", "I", false)
  | 33 => ("PairVmModel", "outWhole", "J", false)
  | 34 => ("PairVmModel", "outReal", "D", false)
  | _ => ("PairVmModel", "field", "[I", true)
def ty_Mo : Nat → FieldType := fun k => match k with
  | 0 => .int
  | 1 => .int
  | 2 => .array .int
  | 3 => .int
  | 4 => .int
  | 5 => .boolean
  | 6 => .array .int
  | 7 => .array .int
  | 8 => .array .int
  | 9 => .array .int
  | 10 => .array .int
  | 11 => .array .int
  | 12 => .array .int
  | 13 => .array .int
  | 14 => .array .int
  | 15 => .array .int
  | 16 => .array .boolean
  | 17 => .array .boolean
  | 18 => .array .int
  | 19 => .array .int
  | 20 => .boolean
  | 21 => .boolean
  | 22 => .int
  | 23 => .array .int
  | 24 => .array .long
  | 25 => .array .double
  | 26 => .int
  | 27 => .int
  | 28 => .array .int
  | 29 => .array .int
  | 30 => .array .long
  | 31 => .array .double
  | 32 => .int
  | 33 => .long
  | 34 => .double
  | _ => .array .int
theorem nm_Mo : ∀ a, a < 36 → ∀ b, b < 36 → a ≠ b → (ft_Mo a).2.1 ≠ (ft_Mo b).2.1 := by decide +kernel
theorem tk_Mo : ∀ k, k < 36 → parseFieldDescriptor (ft_Mo k).2.2.1 = some (ty_Mo k) := by decide +kernel
theorem uw_Mo : ∀ w ∈ u_ws rn_Mo ft_Mo 36, w ∈ al_W := by
  intro w hw
  obtain ⟨k, hk, rfl⟩ := List.mem_map.mp hw
  have hk := List.mem_range.mp hk
  exact (show ∀ k, k < 36 → u_lay rn_Mo ft_Mo k ∈ al_W from fun k hk => al_in (([1006, 1008, 1010, 1012, 1014, 1016, 1018, 1020, 1022, 1024, 1026, 1028, 1030, 1032, 1034, 1036, 1038, 1040, 1042, 1044, 1046, 1048, 1050, 1052, 1054, 1056, 1058, 1060, 1062, 1064, 1066, 1068, 1070, 1072, 1074, 1076] : List Nat).getD k 0) ((show ∀ k, k < 36 → lw_tbl[([1006, 1008, 1010, 1012, 1014, 1016, 1018, 1020, 1022, 1024, 1026, 1028, 1030, 1032, 1034, 1036, 1038, 1040, 1042, 1044, 1046, 1048, 1050, 1052, 1054, 1056, 1058, 1060, 1062, 1064, 1066, 1068, 1070, 1072, 1074, 1076] : List Nat).getD k 0]? = some (u_lay rn_Mo ft_Mo k) by decide +kernel) k hk) ((show ∀ k, k < 36 → goodWord (u_lay rn_Mo ft_Mo k) = true by decide +kernel) k hk)) k hk
abbrev cl_all : List vw_C := [(rn_V, ft_V, 6), (rn_Fb, ft_Fb, 4), (rn_Ag, ft_Ag, 4), (rn_Mc, ft_Mc, 7), (rn_Fr, ft_Fr, 4), (rn_Pg, ft_Pg, 6), (rn_Fl, ft_Fl, 2), (rn_Me, ft_Me, 11), (rn_St, ft_St, 15), (rn_Mo, ft_Mo, 36)]
def yn_V_init : MethodName := ⟨"PairVm", "<init>", "()V"⟩
def yn_Fb_init : MethodName := ⟨"PairVm$FileBytes", "<init>", "()V"⟩
def yn_Ag_init : MethodName := ⟨"PairVm$Arguments", "<init>", "()V"⟩
def yn_Mc_init : MethodName := ⟨"PairVm$Machine", "<init>", "()V"⟩
def yn_Fr_init : MethodName := ⟨"PairVm$Frame", "<init>", "()V"⟩
def yn_Pg_init : MethodName := ⟨"PairVm$Program", "<init>", "()V"⟩
def yn_Fl_init : MethodName := ⟨"PairVm$Flow", "<init>", "()V"⟩
def yn_Me_init : MethodName := ⟨"PairVm$Method", "<init>", "()V"⟩
def yn_St_init : MethodName := ⟨"PairVm$Step", "<init>", "()V"⟩
def yn_V_put : MethodName := ⟨"PairVm", "put", "(I)Z"⟩
def yn_Fb_append : MethodName := ⟨"PairVm$FileBytes", "append", "(I)Z"⟩
def yn_V_place : MethodName := ⟨"PairVm", "place", "()I"⟩
def yn_V_verify : MethodName := ⟨"PairVm", "verify", "(I)I"⟩
def yn_Pg_methodAt : MethodName := ⟨"PairVm$Program", "methodAt", "(I)LPairVm$Method;"⟩
def yn_V_type : MethodName := ⟨"PairVm", "type", "(III)I"⟩
def yn_Me_typeBefore : MethodName := ⟨"PairVm$Method", "typeBefore", "(II)I"⟩
def yn_Me_stepAt : MethodName := ⟨"PairVm$Method", "stepAt", "(I)LPairVm$Step;"⟩
def yn_St_typeOf : MethodName := ⟨"PairVm$Step", "typeOf", "(I)I"⟩
def yn_V_pass : MethodName := ⟨"PairVm", "pass", "(IJ)Z"⟩
def yn_Ag_add : MethodName := ⟨"PairVm$Arguments", "add", "(IJD)Z"⟩
def yn_V_passReal : MethodName := ⟨"PairVm", "passReal", "(ID)Z"⟩
def yn_V_state : MethodName := ⟨"PairVm", "state", "()I"⟩
def yn_V_value : MethodName := ⟨"PairVm", "value", "()J"⟩
def yn_Mc_returnedType : MethodName := ⟨"PairVm$Machine", "returnedType", "()I"⟩
def yn_V_isReal : MethodName := ⟨"PairVm", "isReal", "(I)Z"⟩
def yn_Mc_wholeResult : MethodName := ⟨"PairVm$Machine", "wholeResult", "()J"⟩
def yn_V_real : MethodName := ⟨"PairVm", "real", "()D"⟩
def yn_V_calls : MethodName := ⟨"PairVm", "calls", "()I"⟩
def yn_V_at : MethodName := ⟨"PairVm", "at", "(I)I"⟩
def yn_Mc_unitOf : MethodName := ⟨"PairVm$Machine", "unitOf", "(I)I"⟩
def yn_Mc_frameAt : MethodName := ⟨"PairVm$Machine", "frameAt", "(I)LPairVm$Frame;"⟩
def yn_V_field : MethodName := ⟨"PairVm", "field", "(I)I"⟩
def yn_Pg_fieldAt : MethodName := ⟨"PairVm$Program", "fieldAt", "(I)I"⟩
def yn_Pg_hasField : MethodName := ⟨"PairVm$Program", "hasField", "(I)Z"⟩
def yn_Lw_seal : MethodName := ⟨"PairVmLaw", "seal", "(LPairVm;[J)I"⟩
def yn_V_seal : MethodName := ⟨"PairVm", "seal", "()I"⟩
def yn_Fb_putHead : MethodName := ⟨"PairVm$FileBytes", "putHead", "()Z"⟩
def yn_Fb_dueCheck : MethodName := ⟨"PairVm$FileBytes", "dueCheck", "()J"⟩
def yn_V_takeFile : MethodName := ⟨"PairVm", "takeFile", "()I"⟩
def yn_Pg_readFrom : MethodName := ⟨"PairVm$Program", "readFrom", "(LPairVm$FileBytes;)I"⟩
def yn_Fb_takeHead : MethodName := ⟨"PairVm$FileBytes", "takeHead", "()V"⟩
def yn_Fb_take : MethodName := ⟨"PairVm$FileBytes", "take", "(II)I"⟩
def yn_Me_readFrom : MethodName := ⟨"PairVm$Method", "readFrom", "(LPairVm$FileBytes;)V"⟩
def yn_Me_typeTold : MethodName := ⟨"PairVm$Method", "typeTold", "(I)I"⟩
def yn_V_widthOf : MethodName := ⟨"PairVm", "widthOf", "(I)I"⟩
def yn_Fb_takeUnitCount : MethodName := ⟨"PairVm$FileBytes", "takeUnitCount", "()I"⟩
def yn_Fb_takeEnd : MethodName := ⟨"PairVm$FileBytes", "takeEnd", "()V"⟩
def yn_Fb_toldCheck : MethodName := ⟨"PairVm$FileBytes", "toldCheck", "()J"⟩
def yn_Ja_fill : MethodName := ⟨"java/util/Arrays", "fill", "([II)V"⟩
def yn_Fb_clear : MethodName := ⟨"PairVm$FileBytes", "clear", "()V"⟩
def yn_Pg_judge : MethodName := ⟨"PairVm$Program", "judge", "()V"⟩
def yn_Me_layOut : MethodName := ⟨"PairVm$Method", "layOut", "()V"⟩
def yn_Me_unitAt : MethodName := ⟨"PairVm$Method", "unitAt", "(I)I"⟩
def yn_St_decode : MethodName := ⟨"PairVm$Step", "decode", "(III)V"⟩
def yn_St_findOperation : MethodName := ⟨"PairVm$Step", "findOperation", "()V"⟩
def yn_St_lengthOf : MethodName := ⟨"PairVm$Step", "lengthOf", "(I)I"⟩
def yn_Fo_firstFault : MethodName := ⟨"PairVm$Form", "firstFault", "(LPairVm$Program;LPairVm$Method;)I"⟩
def yn_Fo_fits : MethodName := ⟨"PairVm$Form", "fits", "(LPairVm$Program;LPairVm$Method;ILPairVm$Step;)Z"⟩
def yn_Fo_registersAreThere : MethodName := ⟨"PairVm$Form", "registersAreThere", "(LPairVm$Method;LPairVm$Step;)Z"⟩
def yn_Fo_isThere : MethodName := ⟨"PairVm$Form", "isThere", "(LPairVm$Method;II)Z"⟩
def yn_Fo_goesOnRightly : MethodName := ⟨"PairVm$Form", "goesOnRightly", "(LPairVm$Method;ILPairVm$Step;)Z"⟩
def yn_St_goesOnBehind : MethodName := ⟨"PairVm$Step", "goesOnBehind", "()Z"⟩
def yn_St_branches : MethodName := ⟨"PairVm$Step", "branches", "()Z"⟩
def yn_Fo_callFits : MethodName := ⟨"PairVm$Form", "callFits", "(LPairVm$Method;LPairVm$Step;LPairVm$Method;)Z"⟩
def yn_Me_parameterAt : MethodName := ⟨"PairVm$Method", "parameterAt", "(I)I"⟩
def yn_St_named : MethodName := ⟨"PairVm$Step", "named", "(I)I"⟩
def yn_Pg_returnedBefore : MethodName := ⟨"PairVm$Program", "returnedBefore", "(LPairVm$Method;LPairVm$Step;)I"⟩
def yn_Fo_isOfWidth : MethodName := ⟨"PairVm$Form", "isOfWidth", "(II)Z"⟩
def yn_Pg_giveTypes : MethodName := ⟨"PairVm$Program", "giveTypes", "(LPairVm$Method;)V"⟩
def yn_Fl_follow : MethodName := ⟨"PairVm$Flow", "follow", "(LPairVm$Method;)V"⟩
def yn_Fl_begin : MethodName := ⟨"PairVm$Flow", "begin", "(LPairVm$Method;)V"⟩
def yn_Me_firstArgument : MethodName := ⟨"PairVm$Method", "firstArgument", "()I"⟩
def yn_Fl_setTypes : MethodName := ⟨"PairVm$Flow", "setTypes", "(III)V"⟩
def yn_Fl_setOne : MethodName := ⟨"PairVm$Flow", "setOne", "(II)V"⟩
def yn_Fl_join : MethodName := ⟨"PairVm$Flow", "join", "(LPairVm$Step;)V"⟩
def yn_Fl_passOver : MethodName := ⟨"PairVm$Flow", "passOver", "(LPairVm$Step;)V"⟩
def yn_St_has : MethodName := ⟨"PairVm$Step", "has", "(II)Z"⟩
def yn_Fl_firstWrong : MethodName := ⟨"PairVm$Flow", "firstWrong", "(LPairVm$Program;LPairVm$Method;)I"⟩
def yn_Fl_isRight : MethodName := ⟨"PairVm$Flow", "isRight", "(LPairVm$Program;LPairVm$Step;)Z"⟩
def yn_Fl_argumentsAreRight : MethodName := ⟨"PairVm$Flow", "argumentsAreRight", "(LPairVm$Step;LPairVm$Method;)Z"⟩
def yn_Mc_rest : MethodName := ⟨"PairVm$Machine", "rest", "()V"⟩
def yn_Lw_load : MethodName := ⟨"PairVmLaw", "load", "(LPairVm;[J)I"⟩
def yn_V_load : MethodName := ⟨"PairVm", "load", "()I"⟩
def yn_Lw_call : MethodName := ⟨"PairVmLaw", "call", "(LPairVm;I)I"⟩
def yn_V_call : MethodName := ⟨"PairVm", "call", "(I)V"⟩
def yn_V_beginCall : MethodName := ⟨"PairVm", "beginCall", "(I)I"⟩
def yn_Ag_suit : MethodName := ⟨"PairVm$Arguments", "suit", "(LPairVm$Method;)Z"⟩
def yn_Mc_begin : MethodName := ⟨"PairVm$Machine", "begin", "(LPairVm$Method;LPairVm$Arguments;)V"⟩
def yn_Fr_enter : MethodName := ⟨"PairVm$Frame", "enter", "(LPairVm$Method;)V"⟩
def yn_Ag_copyTo : MethodName := ⟨"PairVm$Arguments", "copyTo", "(LPairVm$Frame;LPairVm$Method;)V"⟩
def yn_Fr_set : MethodName := ⟨"PairVm$Frame", "set", "(IJD)V"⟩
def yn_Ag_clear : MethodName := ⟨"PairVm$Arguments", "clear", "()V"⟩
def yn_Lw_run : MethodName := ⟨"PairVmLaw", "run", "(LPairVm;I[J)I"⟩
def yn_V_run : MethodName := ⟨"PairVm", "run", "(I)I"⟩
def yn_Mc_advance : MethodName := ⟨"PairVm$Machine", "advance", "(LPairVm$Program;I)I"⟩
def yn_Fr_nextStep : MethodName := ⟨"PairVm$Frame", "nextStep", "()LPairVm$Step;"⟩
def yn_Mc_perform : MethodName := ⟨"PairVm$Machine", "perform", "(LPairVm$Program;LPairVm$Frame;LPairVm$Step;)V"⟩
def yn_Mc_leave : MethodName := ⟨"PairVm$Machine", "leave", "(LPairVm$Frame;LPairVm$Step;)V"⟩
def yn_Fr_whole : MethodName := ⟨"PairVm$Frame", "whole", "(I)J"⟩
def yn_Fr_realNumber : MethodName := ⟨"PairVm$Frame", "realNumber", "(I)D"⟩
def yn_Mc_convert : MethodName := ⟨"PairVm$Machine", "convert", "(LPairVm$Frame;LPairVm$Step;)V"⟩
def yn_Mc_combine : MethodName := ⟨"PairVm$Machine", "combine", "(LPairVm$Frame;LPairVm$Step;)V"⟩
def yn_Ar_divides : MethodName := ⟨"PairVm$Arithmetic", "divides", "(I)Z"⟩
def yn_Mc_stop : MethodName := ⟨"PairVm$Machine", "stop", "(I)V"⟩
def yn_Jl_compare : MethodName := ⟨"java/lang/Long", "compare", "(JJ)I"⟩
def yn_Ar_compareReals : MethodName := ⟨"PairVm$Arithmetic", "compareReals", "(DD)I"⟩
def yn_Ar_ofInts : MethodName := ⟨"PairVm$Arithmetic", "ofInts", "(III)I"⟩
def yn_Ar_ofLongs : MethodName := ⟨"PairVm$Arithmetic", "ofLongs", "(IJJ)J"⟩
def yn_Ar_ofFloats : MethodName := ⟨"PairVm$Arithmetic", "ofFloats", "(IFF)F"⟩
def yn_Ar_held : MethodName := ⟨"PairVm$Arithmetic", "held", "(D)D"⟩
def yn_Ar_ofDoubles : MethodName := ⟨"PairVm$Arithmetic", "ofDoubles", "(IDD)D"⟩
def yn_Mc_holds : MethodName := ⟨"PairVm$Machine", "holds", "(LPairVm$Frame;LPairVm$Step;)Z"⟩
def yn_Pg_setField : MethodName := ⟨"PairVm$Program", "setField", "(II)V"⟩
def yn_Mc_enter : MethodName := ⟨"PairVm$Machine", "enter", "(LPairVm$Method;LPairVm$Frame;LPairVm$Step;)V"⟩
def yn_Mo_init : MethodName := ⟨"PairVmModel", "<init>", "()V"⟩
def yn_Mo_thrown : MethodName := ⟨"PairVmModel", "thrown", "()I"⟩
def yn_Mo_put : MethodName := ⟨"PairVmModel", "put", "(I)Z"⟩
def yn_Mo_load : MethodName := ⟨"PairVmModel", "load", "()I"⟩
def yn_Mo_readFile : MethodName := ⟨"PairVmModel", "readFile", "()V"⟩
def yn_Mo_next : MethodName := ⟨"PairVmModel", "next", "(II)I"⟩
def yn_Mo_readMethod : MethodName := ⟨"PairVmModel", "readMethod", "(I)V"⟩
def yn_Mo_paramWords : MethodName := ⟨"PairVmModel", "paramWords", "(I)I"⟩
def yn_Mo_words : MethodName := ⟨"PairVmModel", "words", "(I)I"⟩
def yn_Mo_checkOf : MethodName := ⟨"PairVmModel", "checkOf", "(I)J"⟩
def yn_Mo_fail : MethodName := ⟨"PairVmModel", "fail", "(I)I"⟩
def yn_Mo_keepFile : MethodName := ⟨"PairVmModel", "keepFile", "()V"⟩
def yn_Mo_verifyMethod : MethodName := ⟨"PairVmModel", "verifyMethod", "(I)V"⟩
def yn_Mo_findBeginnings : MethodName := ⟨"PairVmModel", "findBeginnings", "(I)V"⟩
def yn_Mo_op : MethodName := ⟨"PairVmModel", "op", "(II)I"⟩
def yn_Mo_unit : MethodName := ⟨"PairVmModel", "unit", "(II)I"⟩
def yn_Mo_sizeOf : MethodName := ⟨"PairVmModel", "sizeOf", "(I)I"⟩
def yn_Mo_converts : MethodName := ⟨"PairVmModel", "converts", "(I)Z"⟩
def yn_Mo_compares : MethodName := ⟨"PairVmModel", "compares", "(I)Z"⟩
def yn_Mo_joins : MethodName := ⟨"PairVmModel", "joins", "(I)Z"⟩
def yn_Mo_firstIllFormed : MethodName := ⟨"PairVmModel", "firstIllFormed", "(I)I"⟩
def yn_Mo_namesGood : MethodName := ⟨"PairVmModel", "namesGood", "(II)Z"⟩
def yn_Mo_regA : MethodName := ⟨"PairVmModel", "regA", "(II)I"⟩
def yn_Mo_gives : MethodName := ⟨"PairVmModel", "gives", "(I)I"⟩
def yn_Mo_has : MethodName := ⟨"PairVmModel", "has", "(III)Z"⟩
def yn_Mo_regB : MethodName := ⟨"PairVmModel", "regB", "(II)I"⟩
def yn_Mo_takes : MethodName := ⟨"PairVmModel", "takes", "(I)I"⟩
def yn_Mo_joined : MethodName := ⟨"PairVmModel", "joined", "(I)I"⟩
def yn_Mo_regAA : MethodName := ⟨"PairVmModel", "regAA", "(II)I"⟩
def yn_Mo_regC : MethodName := ⟨"PairVmModel", "regC", "(II)I"⟩
def yn_Mo_regD : MethodName := ⟨"PairVmModel", "regD", "(II)I"⟩
def yn_Mo_compared : MethodName := ⟨"PairVmModel", "compared", "(I)I"⟩
def yn_Mo_number : MethodName := ⟨"PairVmModel", "number", "(II)I"⟩
def yn_Mo_argumentsThere : MethodName := ⟨"PairVmModel", "argumentsThere", "(II)Z"⟩
def yn_Mo_argument : MethodName := ⟨"PairVmModel", "argument", "(III)I"⟩
def yn_Mo_kindGood : MethodName := ⟨"PairVmModel", "kindGood", "(III)Z"⟩
def yn_Mo_isResult : MethodName := ⟨"PairVmModel", "isResult", "(II)Z"⟩
def yn_Mo_ends : MethodName := ⟨"PairVmModel", "ends", "(I)Z"⟩
def yn_Mo_mayGo : MethodName := ⟨"PairVmModel", "mayGo", "(IIZ)Z"⟩
def yn_Mo_branches : MethodName := ⟨"PairVmModel", "branches", "(I)Z"⟩
def yn_Mo_target : MethodName := ⟨"PairVmModel", "target", "(II)I"⟩
def yn_Mo_begin : MethodName := ⟨"PairVmModel", "begin", "(I)V"⟩
def yn_Mo_set : MethodName := ⟨"PairVmModel", "set", "(II)V"⟩
def yn_Mo_loosen : MethodName := ⟨"PairVmModel", "loosen", "(I)V"⟩
def yn_Mo_firstOf : MethodName := ⟨"PairVmModel", "firstOf", "(I)I"⟩
def yn_Mo_flow : MethodName := ⟨"PairVmModel", "flow", "(II)V"⟩
def yn_Mo_step1 : MethodName := ⟨"PairVmModel", "step1", "(III)V"⟩
def yn_Mo_pass1 : MethodName := ⟨"PairVmModel", "pass1", "(III)V"⟩
def yn_Mo_typeAt : MethodName := ⟨"PairVmModel", "typeAt", "(III)I"⟩
def yn_Mo_is : MethodName := ⟨"PairVmModel", "is", "(IIII)Z"⟩
def yn_Mo_need : MethodName := ⟨"PairVmModel", "need", "(Z)V"⟩
def yn_Mo_passOther : MethodName := ⟨"PairVmModel", "passOther", "(III)V"⟩
def yn_Mo_useArguments : MethodName := ⟨"PairVmModel", "useArguments", "(II)V"⟩
def yn_Mo_idle : MethodName := ⟨"PairVmModel", "idle", "(I)V"⟩
def yn_Mo_seal : MethodName := ⟨"PairVmModel", "seal", "()I"⟩
def yn_Mo_place : MethodName := ⟨"PairVmModel", "place", "()I"⟩
def yn_Mo_verify : MethodName := ⟨"PairVmModel", "verify", "(I)I"⟩
def yn_Mo_isMethod : MethodName := ⟨"PairVmModel", "isMethod", "(I)Z"⟩
def yn_Mo_type : MethodName := ⟨"PairVmModel", "type", "(III)I"⟩
def yn_Mo_pass : MethodName := ⟨"PairVmModel", "pass", "(IJ)Z"⟩
def yn_Mo_addArgument : MethodName := ⟨"PairVmModel", "addArgument", "(IJD)Z"⟩
def yn_Mo_passReal : MethodName := ⟨"PairVmModel", "passReal", "(ID)Z"⟩
def yn_Mo_call : MethodName := ⟨"PairVmModel", "call", "(I)V"⟩
def yn_Mo_enter : MethodName := ⟨"PairVmModel", "enter", "(I)V"⟩
def yn_Mo_run : MethodName := ⟨"PairVmModel", "run", "(I)I"⟩
def yn_Mo_one : MethodName := ⟨"PairVmModel", "one", "()I"⟩
def yn_Mo_callFrom : MethodName := ⟨"PairVmModel", "callFrom", "(II)V"⟩
def yn_Mo_base : MethodName := ⟨"PairVmModel", "base", "()I"⟩
def yn_Mo_giveBack : MethodName := ⟨"PairVmModel", "giveBack", "(II)V"⟩
def yn_Mo_wholeOf : MethodName := ⟨"PairVmModel", "wholeOf", "(I)J"⟩
def yn_Mo_realOf : MethodName := ⟨"PairVmModel", "realOf", "(I)D"⟩
def yn_Mo_join : MethodName := ⟨"PairVmModel", "join", "(IIII)Z"⟩
def yn_Mo_divides : MethodName := ⟨"PairVmModel", "divides", "(I)Z"⟩
def yn_Mo_joinInts : MethodName := ⟨"PairVmModel", "joinInts", "(III)I"⟩
def yn_Mo_setWhole : MethodName := ⟨"PairVmModel", "setWhole", "(IJ)V"⟩
def yn_Mo_joinLongs : MethodName := ⟨"PairVmModel", "joinLongs", "(IJJ)J"⟩
def yn_Mo_joinFloats : MethodName := ⟨"PairVmModel", "joinFloats", "(IFF)F"⟩
def yn_Mo_setReal : MethodName := ⟨"PairVmModel", "setReal", "(ID)V"⟩
def yn_Mo_joinDoubles : MethodName := ⟨"PairVmModel", "joinDoubles", "(IDD)D"⟩
def yn_Mo_holds : MethodName := ⟨"PairVmModel", "holds", "(III)Z"⟩
def yn_Mo_convert : MethodName := ⟨"PairVmModel", "convert", "(III)V"⟩
def yn_Mo_compare : MethodName := ⟨"PairVmModel", "compare", "(IIII)V"⟩
def yn_Mo_simple : MethodName := ⟨"PairVmModel", "simple", "(III)V"⟩
def yn_Mo_copy : MethodName := ⟨"PairVmModel", "copy", "(II)V"⟩
def yn_Mo_state : MethodName := ⟨"PairVmModel", "state", "()I"⟩
def yn_Mo_value : MethodName := ⟨"PairVmModel", "value", "()J"⟩
def yn_Mo_real : MethodName := ⟨"PairVmModel", "real", "()D"⟩
def yn_Mo_calls : MethodName := ⟨"PairVmModel", "calls", "()I"⟩
def yn_Mo_at : MethodName := ⟨"PairVmModel", "at", "(I)I"⟩
def yn_Mo_field : MethodName := ⟨"PairVmModel", "field", "(I)I"⟩
abbrev cd_V_init : ByteArray := prog_1_method_1_code
abbrev cd_Fb_init : ByteArray := prog_4_method_1_code
abbrev cd_Ag_init : ByteArray := prog_2_method_1_code
abbrev cd_Mc_init : ByteArray := prog_8_method_1_code
abbrev cd_Fr_init : ByteArray := prog_7_method_1_code
abbrev cd_Pg_init : ByteArray := prog_10_method_1_code
abbrev cd_Fl_init : ByteArray := prog_5_method_1_code
abbrev cd_Me_init : ByteArray := prog_9_method_1_code
abbrev cd_St_init : ByteArray := prog_11_method_1_code
abbrev cd_V_put : ByteArray := prog_1_method_2_code
abbrev cd_Fb_append : ByteArray := prog_4_method_2_code
abbrev cd_V_place : ByteArray := prog_1_method_5_code
abbrev cd_V_verify : ByteArray := prog_1_method_6_code
abbrev cd_Pg_methodAt : ByteArray := prog_10_method_2_code
abbrev cd_V_type : ByteArray := prog_1_method_7_code
abbrev cd_Me_typeBefore : ByteArray := prog_9_method_9_code
abbrev cd_Me_stepAt : ByteArray := prog_9_method_6_code
abbrev cd_St_typeOf : ByteArray := prog_11_method_6_code
abbrev cd_V_pass : ByteArray := prog_1_method_8_code
abbrev cd_Ag_add : ByteArray := prog_2_method_2_code
abbrev cd_V_passReal : ByteArray := prog_1_method_9_code
abbrev cd_V_state : ByteArray := prog_1_method_12_code
abbrev cd_V_value : ByteArray := prog_1_method_13_code
abbrev cd_Mc_returnedType : ByteArray := prog_8_method_4_code
abbrev cd_V_isReal : ByteArray := prog_1_method_20_code
abbrev cd_Mc_wholeResult : ByteArray := prog_8_method_5_code
abbrev cd_V_real : ByteArray := prog_1_method_14_code
abbrev cd_V_calls : ByteArray := prog_1_method_15_code
abbrev cd_V_at : ByteArray := prog_1_method_16_code
abbrev cd_Mc_unitOf : ByteArray := prog_8_method_6_code
abbrev cd_Mc_frameAt : ByteArray := prog_8_method_7_code
abbrev cd_V_field : ByteArray := prog_1_method_17_code
abbrev cd_Pg_fieldAt : ByteArray := prog_10_method_4_code
abbrev cd_Pg_hasField : ByteArray := prog_10_method_3_code
abbrev cd_Lw_seal : ByteArray := method_3_code
abbrev cd_V_seal : ByteArray := prog_1_method_3_code
abbrev cd_Fb_putHead : ByteArray := prog_4_method_4_code
abbrev cd_Fb_dueCheck : ByteArray := prog_4_method_9_code
abbrev cd_V_takeFile : ByteArray := prog_1_method_18_code
abbrev cd_Pg_readFrom : ByteArray := prog_10_method_6_code
abbrev cd_Fb_takeHead : ByteArray := prog_4_method_5_code
abbrev cd_Fb_take : ByteArray := prog_4_method_6_code
abbrev cd_Me_readFrom : ByteArray := prog_9_method_2_code
abbrev cd_Me_typeTold : ByteArray := prog_9_method_3_code
abbrev cd_V_widthOf : ByteArray := prog_1_method_21_code
abbrev cd_Fb_takeUnitCount : ByteArray := prog_4_method_7_code
abbrev cd_Fb_takeEnd : ByteArray := prog_4_method_8_code
abbrev cd_Fb_toldCheck : ByteArray := prog_4_method_10_code
abbrev cd_Ja_fill : ByteArray := prog_24_method_103_code
abbrev cd_Fb_clear : ByteArray := prog_4_method_3_code
abbrev cd_Pg_judge : ByteArray := prog_10_method_7_code
abbrev cd_Me_layOut : ByteArray := prog_9_method_7_code
abbrev cd_Me_unitAt : ByteArray := prog_9_method_8_code
abbrev cd_St_decode : ByteArray := prog_11_method_2_code
abbrev cd_St_findOperation : ByteArray := prog_11_method_3_code
abbrev cd_St_lengthOf : ByteArray := prog_11_method_4_code
abbrev cd_Fo_firstFault : ByteArray := prog_6_method_2_code
abbrev cd_Fo_fits : ByteArray := prog_6_method_3_code
abbrev cd_Fo_registersAreThere : ByteArray := prog_6_method_4_code
abbrev cd_Fo_isThere : ByteArray := prog_6_method_5_code
abbrev cd_Fo_goesOnRightly : ByteArray := prog_6_method_6_code
abbrev cd_St_goesOnBehind : ByteArray := prog_11_method_8_code
abbrev cd_St_branches : ByteArray := prog_11_method_9_code
abbrev cd_Fo_callFits : ByteArray := prog_6_method_8_code
abbrev cd_Me_parameterAt : ByteArray := prog_9_method_4_code
abbrev cd_St_named : ByteArray := prog_11_method_5_code
abbrev cd_Pg_returnedBefore : ByteArray := prog_10_method_8_code
abbrev cd_Fo_isOfWidth : ByteArray := prog_6_method_7_code
abbrev cd_Pg_giveTypes : ByteArray := prog_10_method_9_code
abbrev cd_Fl_follow : ByteArray := prog_5_method_2_code
abbrev cd_Fl_begin : ByteArray := prog_5_method_4_code
abbrev cd_Me_firstArgument : ByteArray := prog_9_method_5_code
abbrev cd_Fl_setTypes : ByteArray := prog_5_method_6_code
abbrev cd_Fl_setOne : ByteArray := prog_5_method_7_code
abbrev cd_Fl_join : ByteArray := prog_5_method_8_code
abbrev cd_Fl_passOver : ByteArray := prog_5_method_5_code
abbrev cd_St_has : ByteArray := prog_11_method_7_code
abbrev cd_Fl_firstWrong : ByteArray := prog_5_method_3_code
abbrev cd_Fl_isRight : ByteArray := prog_5_method_9_code
abbrev cd_Fl_argumentsAreRight : ByteArray := prog_5_method_10_code
abbrev cd_Mc_rest : ByteArray := prog_8_method_2_code
abbrev cd_Lw_load : ByteArray := method_4_code
abbrev cd_V_load : ByteArray := prog_1_method_4_code
abbrev cd_Lw_call : ByteArray := method_5_code
abbrev cd_V_call : ByteArray := prog_1_method_10_code
abbrev cd_V_beginCall : ByteArray := prog_1_method_19_code
abbrev cd_Ag_suit : ByteArray := prog_2_method_4_code
abbrev cd_Mc_begin : ByteArray := prog_8_method_3_code
abbrev cd_Fr_enter : ByteArray := prog_7_method_2_code
abbrev cd_Ag_copyTo : ByteArray := prog_2_method_5_code
abbrev cd_Fr_set : ByteArray := prog_7_method_6_code
abbrev cd_Ag_clear : ByteArray := prog_2_method_3_code
abbrev cd_Lw_run : ByteArray := method_6_code
abbrev cd_V_run : ByteArray := prog_1_method_11_code
abbrev cd_Mc_advance : ByteArray := prog_8_method_8_code
abbrev cd_Fr_nextStep : ByteArray := prog_7_method_3_code
abbrev cd_Mc_perform : ByteArray := prog_8_method_10_code
abbrev cd_Mc_leave : ByteArray := prog_8_method_11_code
abbrev cd_Fr_whole : ByteArray := prog_7_method_4_code
abbrev cd_Fr_realNumber : ByteArray := prog_7_method_5_code
abbrev cd_Mc_convert : ByteArray := prog_8_method_14_code
abbrev cd_Mc_combine : ByteArray := prog_8_method_15_code
abbrev cd_Ar_divides : ByteArray := prog_3_method_2_code
abbrev cd_Mc_stop : ByteArray := prog_8_method_9_code
abbrev cd_Jl_compare : ByteArray := prog_18_method_42_code
abbrev cd_Ar_compareReals : ByteArray := prog_3_method_3_code
abbrev cd_Ar_ofInts : ByteArray := prog_3_method_4_code
abbrev cd_Ar_ofLongs : ByteArray := prog_3_method_5_code
abbrev cd_Ar_ofFloats : ByteArray := prog_3_method_6_code
abbrev cd_Ar_held : ByteArray := prog_3_method_8_code
abbrev cd_Ar_ofDoubles : ByteArray := prog_3_method_7_code
abbrev cd_Mc_holds : ByteArray := prog_8_method_13_code
abbrev cd_Pg_setField : ByteArray := prog_10_method_5_code
abbrev cd_Mc_enter : ByteArray := prog_8_method_12_code
abbrev cd_Mo_init : ByteArray := prog_13_method_1_code
abbrev cd_Mo_thrown : ByteArray := prog_13_method_2_code
abbrev cd_Mo_put : ByteArray := prog_13_method_4_code
abbrev cd_Mo_load : ByteArray := prog_13_method_13_code
abbrev cd_Mo_readFile : ByteArray := prog_13_method_10_code
abbrev cd_Mo_next : ByteArray := prog_13_method_5_code
abbrev cd_Mo_readMethod : ByteArray := prog_13_method_8_code
abbrev cd_Mo_paramWords : ByteArray := prog_13_method_7_code
abbrev cd_Mo_words : ByteArray := prog_13_method_6_code
abbrev cd_Mo_checkOf : ByteArray := prog_13_method_9_code
abbrev cd_Mo_fail : ByteArray := prog_13_method_3_code
abbrev cd_Mo_keepFile : ByteArray := prog_13_method_11_code
abbrev cd_Mo_verifyMethod : ByteArray := prog_13_method_55_code
abbrev cd_Mo_findBeginnings : ByteArray := prog_13_method_42_code
abbrev cd_Mo_op : ByteArray := prog_13_method_17_code
abbrev cd_Mo_unit : ByteArray := prog_13_method_16_code
abbrev cd_Mo_sizeOf : ByteArray := prog_13_method_28_code
abbrev cd_Mo_converts : ByteArray := prog_13_method_25_code
abbrev cd_Mo_compares : ByteArray := prog_13_method_27_code
abbrev cd_Mo_joins : ByteArray := prog_13_method_26_code
abbrev cd_Mo_firstIllFormed : ByteArray := prog_13_method_43_code
abbrev cd_Mo_namesGood : ByteArray := prog_13_method_38_code
abbrev cd_Mo_regA : ByteArray := prog_13_method_18_code
abbrev cd_Mo_gives : ByteArray := prog_13_method_33_code
abbrev cd_Mo_has : ByteArray := prog_13_method_36_code
abbrev cd_Mo_regB : ByteArray := prog_13_method_19_code
abbrev cd_Mo_takes : ByteArray := prog_13_method_32_code
abbrev cd_Mo_joined : ByteArray := prog_13_method_34_code
abbrev cd_Mo_regAA : ByteArray := prog_13_method_20_code
abbrev cd_Mo_regC : ByteArray := prog_13_method_22_code
abbrev cd_Mo_regD : ByteArray := prog_13_method_23_code
abbrev cd_Mo_compared : ByteArray := prog_13_method_35_code
abbrev cd_Mo_number : ByteArray := prog_13_method_21_code
abbrev cd_Mo_argumentsThere : ByteArray := prog_13_method_37_code
abbrev cd_Mo_argument : ByteArray := prog_13_method_24_code
abbrev cd_Mo_kindGood : ByteArray := prog_13_method_41_code
abbrev cd_Mo_isResult : ByteArray := prog_13_method_39_code
abbrev cd_Mo_ends : ByteArray := prog_13_method_29_code
abbrev cd_Mo_mayGo : ByteArray := prog_13_method_40_code
abbrev cd_Mo_branches : ByteArray := prog_13_method_30_code
abbrev cd_Mo_target : ByteArray := prog_13_method_31_code
abbrev cd_Mo_begin : ByteArray := prog_13_method_54_code
abbrev cd_Mo_set : ByteArray := prog_13_method_48_code
abbrev cd_Mo_loosen : ByteArray := prog_13_method_47_code
abbrev cd_Mo_firstOf : ByteArray := prog_13_method_44_code
abbrev cd_Mo_flow : ByteArray := prog_13_method_53_code
abbrev cd_Mo_step1 : ByteArray := prog_13_method_56_code
abbrev cd_Mo_pass1 : ByteArray := prog_13_method_51_code
abbrev cd_Mo_typeAt : ByteArray := prog_13_method_45_code
abbrev cd_Mo_is : ByteArray := prog_13_method_46_code
abbrev cd_Mo_need : ByteArray := prog_13_method_49_code
abbrev cd_Mo_passOther : ByteArray := prog_13_method_52_code
abbrev cd_Mo_useArguments : ByteArray := prog_13_method_50_code
abbrev cd_Mo_idle : ByteArray := prog_13_method_12_code
abbrev cd_Mo_seal : ByteArray := prog_13_method_14_code
abbrev cd_Mo_place : ByteArray := prog_13_method_15_code
abbrev cd_Mo_verify : ByteArray := prog_13_method_58_code
abbrev cd_Mo_isMethod : ByteArray := prog_13_method_57_code
abbrev cd_Mo_type : ByteArray := prog_13_method_59_code
abbrev cd_Mo_pass : ByteArray := prog_13_method_61_code
abbrev cd_Mo_addArgument : ByteArray := prog_13_method_60_code
abbrev cd_Mo_passReal : ByteArray := prog_13_method_62_code
abbrev cd_Mo_call : ByteArray := prog_13_method_64_code
abbrev cd_Mo_enter : ByteArray := prog_13_method_63_code
abbrev cd_Mo_run : ByteArray := prog_13_method_84_code
abbrev cd_Mo_one : ByteArray := prog_13_method_82_code
abbrev cd_Mo_callFrom : ByteArray := prog_13_method_80_code
abbrev cd_Mo_base : ByteArray := prog_13_method_65_code
abbrev cd_Mo_giveBack : ByteArray := prog_13_method_81_code
abbrev cd_Mo_wholeOf : ByteArray := prog_13_method_68_code
abbrev cd_Mo_realOf : ByteArray := prog_13_method_69_code
abbrev cd_Mo_join : ByteArray := prog_13_method_78_code
abbrev cd_Mo_divides : ByteArray := prog_13_method_77_code
abbrev cd_Mo_joinInts : ByteArray := prog_13_method_73_code
abbrev cd_Mo_setWhole : ByteArray := prog_13_method_66_code
abbrev cd_Mo_joinLongs : ByteArray := prog_13_method_74_code
abbrev cd_Mo_joinFloats : ByteArray := prog_13_method_75_code
abbrev cd_Mo_setReal : ByteArray := prog_13_method_67_code
abbrev cd_Mo_joinDoubles : ByteArray := prog_13_method_76_code
abbrev cd_Mo_holds : ByteArray := prog_13_method_71_code
abbrev cd_Mo_convert : ByteArray := prog_13_method_72_code
abbrev cd_Mo_compare : ByteArray := prog_13_method_79_code
abbrev cd_Mo_simple : ByteArray := prog_13_method_83_code
abbrev cd_Mo_copy : ByteArray := prog_13_method_70_code
abbrev cd_Mo_state : ByteArray := prog_13_method_85_code
abbrev cd_Mo_value : ByteArray := prog_13_method_86_code
abbrev cd_Mo_real : ByteArray := prog_13_method_87_code
abbrev cd_Mo_calls : ByteArray := prog_13_method_88_code
abbrev cd_Mo_at : ByteArray := prog_13_method_89_code
abbrev cd_Mo_field : ByteArray := prog_13_method_90_code
end
section
def dc (cc : ByteArray) (pc : Nat) (i : Instr) (l pc' : Nat) : Prop := decode cc pc = .ok (i, l) ∧ pc + l = pc'
def dz (cc : ByteArray) (pc : Nat) (c : ClassFile.Cond) (pc' tgt : Nat) : Prop := ∃ off : Int, decode cc pc = .ok (.ifCond c off, 3) ∧ pc + 3 = pc' ∧ (pc : Int) + off = (tgt : Int)
def di (cc : ByteArray) (pc : Nat) (c : ClassFile.Cond) (pc' tgt : Nat) : Prop := ∃ off : Int, decode cc pc = .ok (.if_icmp c off, 3) ∧ pc + 3 = pc' ∧ (pc : Int) + off = (tgt : Int)
def dg (cc : ByteArray) (pc tgt : Nat) : Prop := ∃ off : Int, decode cc pc = .ok (.goto off, 3) ∧ (pc : Int) + off = (tgt : Int)
def dn (cc : ByteArray) (pc pc' tgt : Nat) : Prop := ∃ off : Int, decode cc pc = .ok (.ifnull off, 3) ∧ pc + 3 = pc' ∧ (pc : Int) + off = (tgt : Int)
def do_ (cc : ByteArray) (pc pc' tgt : Nat) : Prop := ∃ off : Int, decode cc pc = .ok (.ifnonnull off, 3) ∧ pc + 3 = pc' ∧ (pc : Int) + off = (tgt : Int)
end
section
theorem dx_Mo_init_0 : dc cd_Mo_init 0 (.aload_n 0) 1 1 := ⟨by decide +kernel, rfl⟩
theorem dx_Mo_init_1 : dc cd_Mo_init 1 (.invokespecial 1) 3 4 := ⟨by decide +kernel, rfl⟩
theorem dx_Mo_init_4 : dc cd_Mo_init 4 (.aload_n 0) 1 5 := ⟨by decide +kernel, rfl⟩
theorem dx_Mo_init_5 : dc cd_Mo_init 5 (.sipush 232) 3 8 := ⟨by decide +kernel, rfl⟩
theorem dx_Mo_init_8 : dc cd_Mo_init 8 (.newarray .int) 2 10 := ⟨by decide +kernel, rfl⟩
theorem dx_Mo_init_10 : dc cd_Mo_init 10 (.putfield 7) 3 13 := ⟨by decide +kernel, rfl⟩
theorem dx_Mo_init_13 : dc cd_Mo_init 13 (.aload_n 0) 1 14 := ⟨by decide +kernel, rfl⟩
theorem dx_Mo_init_14 : dc cd_Mo_init 14 (.iconst (-1)) 1 15 := ⟨by decide +kernel, rfl⟩
theorem dx_Mo_init_15 : dc cd_Mo_init 15 (.putfield 13) 3 18 := ⟨by decide +kernel, rfl⟩
theorem dx_Mo_init_18 : dc cd_Mo_init 18 (.aload_n 0) 1 19 := ⟨by decide +kernel, rfl⟩
theorem dx_Mo_init_19 : dc cd_Mo_init 19 (.iconst 2) 1 20 := ⟨by decide +kernel, rfl⟩
theorem dx_Mo_init_20 : dc cd_Mo_init 20 (.newarray .int) 2 22 := ⟨by decide +kernel, rfl⟩
theorem dx_Mo_init_22 : dc cd_Mo_init 22 (.putfield 17) 3 25 := ⟨by decide +kernel, rfl⟩
theorem dx_Mo_init_25 : dc cd_Mo_init 25 (.aload_n 0) 1 26 := ⟨by decide +kernel, rfl⟩
theorem dx_Mo_init_26 : dc cd_Mo_init 26 (.iconst 2) 1 27 := ⟨by decide +kernel, rfl⟩
theorem dx_Mo_init_27 : dc cd_Mo_init 27 (.newarray .int) 2 29 := ⟨by decide +kernel, rfl⟩
theorem dx_Mo_init_29 : dc cd_Mo_init 29 (.putfield 20) 3 32 := ⟨by decide +kernel, rfl⟩
theorem dx_Mo_init_32 : dc cd_Mo_init 32 (.aload_n 0) 1 33 := ⟨by decide +kernel, rfl⟩
theorem dx_Mo_init_33 : dc cd_Mo_init 33 (.bipush 8) 2 35 := ⟨by decide +kernel, rfl⟩
theorem dx_Mo_init_35 : dc cd_Mo_init 35 (.newarray .int) 2 37 := ⟨by decide +kernel, rfl⟩
theorem dx_Mo_init_37 : dc cd_Mo_init 37 (.putfield 23) 3 40 := ⟨by decide +kernel, rfl⟩
theorem dx_Mo_init_40 : dc cd_Mo_init 40 (.aload_n 0) 1 41 := ⟨by decide +kernel, rfl⟩
theorem dx_Mo_init_41 : dc cd_Mo_init 41 (.bipush 8) 2 43 := ⟨by decide +kernel, rfl⟩
theorem dx_Mo_init_43 : dc cd_Mo_init 43 (.newarray .int) 2 45 := ⟨by decide +kernel, rfl⟩
theorem dx_Mo_init_45 : dc cd_Mo_init 45 (.putfield 26) 3 48 := ⟨by decide +kernel, rfl⟩
theorem dx_Mo_init_48 : dc cd_Mo_init 48 (.aload_n 0) 1 49 := ⟨by decide +kernel, rfl⟩
theorem dx_Mo_init_49 : dc cd_Mo_init 49 (.bipush 24) 2 51 := ⟨by decide +kernel, rfl⟩
theorem dx_Mo_init_51 : dc cd_Mo_init 51 (.newarray .int) 2 53 := ⟨by decide +kernel, rfl⟩
theorem dx_Mo_init_53 : dc cd_Mo_init 53 (.putfield 29) 3 56 := ⟨by decide +kernel, rfl⟩
theorem dx_Mo_init_56 : dc cd_Mo_init 56 (.aload_n 0) 1 57 := ⟨by decide +kernel, rfl⟩
theorem dx_Mo_init_57 : dc cd_Mo_init 57 (.bipush 8) 2 59 := ⟨by decide +kernel, rfl⟩
theorem dx_Mo_init_59 : dc cd_Mo_init 59 (.newarray .int) 2 61 := ⟨by decide +kernel, rfl⟩
theorem dx_Mo_init_61 : dc cd_Mo_init 61 (.putfield 32) 3 64 := ⟨by decide +kernel, rfl⟩
theorem dx_Mo_init_64 : dc cd_Mo_init 64 (.aload_n 0) 1 65 := ⟨by decide +kernel, rfl⟩
theorem dx_Mo_init_65 : dc cd_Mo_init 65 (.bipush 8) 2 67 := ⟨by decide +kernel, rfl⟩
theorem dx_Mo_init_67 : dc cd_Mo_init 67 (.newarray .int) 2 69 := ⟨by decide +kernel, rfl⟩
theorem dx_Mo_init_69 : dc cd_Mo_init 69 (.putfield 35) 3 72 := ⟨by decide +kernel, rfl⟩
theorem dx_Mo_init_72 : dc cd_Mo_init 72 (.aload_n 0) 1 73 := ⟨by decide +kernel, rfl⟩
theorem dx_Mo_init_73 : dc cd_Mo_init 73 (.sipush 320) 3 76 := ⟨by decide +kernel, rfl⟩
theorem dx_Mo_init_76 : dc cd_Mo_init 76 (.newarray .int) 2 78 := ⟨by decide +kernel, rfl⟩
theorem dx_Mo_init_78 : dc cd_Mo_init 78 (.putfield 38) 3 81 := ⟨by decide +kernel, rfl⟩
theorem dx_Mo_init_81 : dc cd_Mo_init 81 (.aload_n 0) 1 82 := ⟨by decide +kernel, rfl⟩
theorem dx_Mo_init_82 : dc cd_Mo_init 82 (.iconst 4) 1 83 := ⟨by decide +kernel, rfl⟩
theorem dx_Mo_init_83 : dc cd_Mo_init 83 (.newarray .int) 2 85 := ⟨by decide +kernel, rfl⟩
theorem dx_Mo_init_85 : dc cd_Mo_init 85 (.putfield 41) 3 88 := ⟨by decide +kernel, rfl⟩
theorem dx_Mo_init_88 : dc cd_Mo_init 88 (.aload_n 0) 1 89 := ⟨by decide +kernel, rfl⟩
theorem dx_Mo_init_89 : dc cd_Mo_init 89 (.iconst 4) 1 90 := ⟨by decide +kernel, rfl⟩
theorem dx_Mo_init_90 : dc cd_Mo_init 90 (.newarray .int) 2 92 := ⟨by decide +kernel, rfl⟩
theorem dx_Mo_init_92 : dc cd_Mo_init 92 (.putfield 44) 3 95 := ⟨by decide +kernel, rfl⟩
theorem dx_Mo_init_95 : dc cd_Mo_init 95 (.aload_n 0) 1 96 := ⟨by decide +kernel, rfl⟩
theorem dx_Mo_init_96 : dc cd_Mo_init 96 (.sipush 160) 3 99 := ⟨by decide +kernel, rfl⟩
theorem dx_Mo_init_99 : dc cd_Mo_init 99 (.newarray .boolean) 2 101 := ⟨by decide +kernel, rfl⟩
theorem dx_Mo_init_101 : dc cd_Mo_init 101 (.putfield 47) 3 104 := ⟨by decide +kernel, rfl⟩
theorem dx_Mo_init_104 : dc cd_Mo_init 104 (.aload_n 0) 1 105 := ⟨by decide +kernel, rfl⟩
theorem dx_Mo_init_105 : dc cd_Mo_init 105 (.sipush 160) 3 108 := ⟨by decide +kernel, rfl⟩
theorem dx_Mo_init_108 : dc cd_Mo_init 108 (.newarray .boolean) 2 110 := ⟨by decide +kernel, rfl⟩
theorem dx_Mo_init_110 : dc cd_Mo_init 110 (.putfield 51) 3 113 := ⟨by decide +kernel, rfl⟩
theorem dx_Mo_init_113 : dc cd_Mo_init 113 (.aload_n 0) 1 114 := ⟨by decide +kernel, rfl⟩
theorem dx_Mo_init_114 : dc cd_Mo_init 114 (.sipush 1600) 3 117 := ⟨by decide +kernel, rfl⟩
theorem dx_Mo_init_117 : dc cd_Mo_init 117 (.newarray .int) 2 119 := ⟨by decide +kernel, rfl⟩
theorem dx_Mo_init_119 : dc cd_Mo_init 119 (.putfield 54) 3 122 := ⟨by decide +kernel, rfl⟩
theorem dx_Mo_init_122 : dc cd_Mo_init 122 (.aload_n 0) 1 123 := ⟨by decide +kernel, rfl⟩
theorem dx_Mo_init_123 : dc cd_Mo_init 123 (.bipush 10) 2 125 := ⟨by decide +kernel, rfl⟩
theorem dx_Mo_init_125 : dc cd_Mo_init 125 (.newarray .int) 2 127 := ⟨by decide +kernel, rfl⟩
theorem dx_Mo_init_127 : dc cd_Mo_init 127 (.putfield 57) 3 130 := ⟨by decide +kernel, rfl⟩
theorem dx_Mo_init_130 : dc cd_Mo_init 130 (.aload_n 0) 1 131 := ⟨by decide +kernel, rfl⟩
theorem dx_Mo_init_131 : dc cd_Mo_init 131 (.iconst 3) 1 132 := ⟨by decide +kernel, rfl⟩
theorem dx_Mo_init_132 : dc cd_Mo_init 132 (.newarray .int) 2 134 := ⟨by decide +kernel, rfl⟩
theorem dx_Mo_init_134 : dc cd_Mo_init 134 (.putfield 60) 3 137 := ⟨by decide +kernel, rfl⟩
theorem dx_Mo_init_137 : dc cd_Mo_init 137 (.aload_n 0) 1 138 := ⟨by decide +kernel, rfl⟩
theorem dx_Mo_init_138 : dc cd_Mo_init 138 (.iconst 3) 1 139 := ⟨by decide +kernel, rfl⟩
theorem dx_Mo_init_139 : dc cd_Mo_init 139 (.newarray .long) 2 141 := ⟨by decide +kernel, rfl⟩
theorem dx_Mo_init_141 : dc cd_Mo_init 141 (.putfield 63) 3 144 := ⟨by decide +kernel, rfl⟩
theorem dx_Mo_init_144 : dc cd_Mo_init 144 (.aload_n 0) 1 145 := ⟨by decide +kernel, rfl⟩
theorem dx_Mo_init_145 : dc cd_Mo_init 145 (.iconst 3) 1 146 := ⟨by decide +kernel, rfl⟩
theorem dx_Mo_init_146 : dc cd_Mo_init 146 (.newarray .double) 2 148 := ⟨by decide +kernel, rfl⟩
theorem dx_Mo_init_148 : dc cd_Mo_init 148 (.putfield 67) 3 151 := ⟨by decide +kernel, rfl⟩
theorem dx_Mo_init_151 : dc cd_Mo_init 151 (.aload_n 0) 1 152 := ⟨by decide +kernel, rfl⟩
theorem dx_Mo_init_152 : dc cd_Mo_init 152 (.bipush 6) 2 154 := ⟨by decide +kernel, rfl⟩
theorem dx_Mo_init_154 : dc cd_Mo_init 154 (.newarray .int) 2 156 := ⟨by decide +kernel, rfl⟩
theorem dx_Mo_init_156 : dc cd_Mo_init 156 (.putfield 71) 3 159 := ⟨by decide +kernel, rfl⟩
theorem dx_Mo_init_159 : dc cd_Mo_init 159 (.aload_n 0) 1 160 := ⟨by decide +kernel, rfl⟩
theorem dx_Mo_init_160 : dc cd_Mo_init 160 (.bipush 6) 2 162 := ⟨by decide +kernel, rfl⟩
theorem dx_Mo_init_162 : dc cd_Mo_init 162 (.newarray .int) 2 164 := ⟨by decide +kernel, rfl⟩
theorem dx_Mo_init_164 : dc cd_Mo_init 164 (.putfield 74) 3 167 := ⟨by decide +kernel, rfl⟩
theorem dx_Mo_init_167 : dc cd_Mo_init 167 (.aload_n 0) 1 168 := ⟨by decide +kernel, rfl⟩
theorem dx_Mo_init_168 : dc cd_Mo_init 168 (.bipush 60) 2 170 := ⟨by decide +kernel, rfl⟩
theorem dx_Mo_init_170 : dc cd_Mo_init 170 (.newarray .long) 2 172 := ⟨by decide +kernel, rfl⟩
theorem dx_Mo_init_172 : dc cd_Mo_init 172 (.putfield 77) 3 175 := ⟨by decide +kernel, rfl⟩
theorem dx_Mo_init_175 : dc cd_Mo_init 175 (.aload_n 0) 1 176 := ⟨by decide +kernel, rfl⟩
theorem dx_Mo_init_176 : dc cd_Mo_init 176 (.bipush 60) 2 178 := ⟨by decide +kernel, rfl⟩
theorem dx_Mo_init_178 : dc cd_Mo_init 178 (.newarray .double) 2 180 := ⟨by decide +kernel, rfl⟩
theorem dx_Mo_init_180 : dc cd_Mo_init 180 (.putfield 80) 3 183 := ⟨by decide +kernel, rfl⟩
theorem dx_Mo_init_183 : dc cd_Mo_init 183 (.aload_n 0) 1 184 := ⟨by decide +kernel, rfl⟩
theorem dx_Mo_init_184 : dc cd_Mo_init 184 (.iconst 4) 1 185 := ⟨by decide +kernel, rfl⟩
theorem dx_Mo_init_185 : dc cd_Mo_init 185 (.newarray .int) 2 187 := ⟨by decide +kernel, rfl⟩
theorem dx_Mo_init_187 : dc cd_Mo_init 187 (.putfield 83) 3 190 := ⟨by decide +kernel, rfl⟩
theorem dx_Mo_init_190 : dc cd_Mo_init 190 .return_ 1 191 := ⟨by decide +kernel, rfl⟩
theorem dx_Mo_thrown_0 : dc cd_Mo_thrown 0 (.aload_n 0) 1 1 := ⟨by decide +kernel, rfl⟩
theorem dx_Mo_thrown_1 : dc cd_Mo_thrown 1 (.getfield 86) 3 4 := ⟨by decide +kernel, rfl⟩
theorem dx_Mo_thrown_4 : dc cd_Mo_thrown 4 .ireturn 1 5 := ⟨by decide +kernel, rfl⟩
theorem dx_Mo_put_0 : dc cd_Mo_put 0 (.aload_n 0) 1 1 := ⟨by decide +kernel, rfl⟩
theorem dx_Mo_put_1 : dc cd_Mo_put 1 (.iconst 0) 1 2 := ⟨by decide +kernel, rfl⟩
theorem dx_Mo_put_2 : dc cd_Mo_put 2 (.putfield 86) 3 5 := ⟨by decide +kernel, rfl⟩
theorem dx_Mo_put_5 : dc cd_Mo_put 5 (.aload_n 0) 1 6 := ⟨by decide +kernel, rfl⟩
theorem dx_Mo_put_6 : dc cd_Mo_put 6 (.getfield 89) 3 9 := ⟨by decide +kernel, rfl⟩
theorem dx_Mo_put_9 : dc cd_Mo_put 9 (.sipush 220) 3 12 := ⟨by decide +kernel, rfl⟩
theorem dx_Mo_put_12 : di cd_Mo_put 12 .ne 15 17 := ⟨5, by decide +kernel, rfl, rfl⟩
theorem dx_Mo_put_15 : dc cd_Mo_put 15 (.iconst 0) 1 16 := ⟨by decide +kernel, rfl⟩
theorem dx_Mo_put_16 : dc cd_Mo_put 16 .ireturn 1 17 := ⟨by decide +kernel, rfl⟩
theorem dx_Mo_put_17 : dc cd_Mo_put 17 (.aload_n 0) 1 18 := ⟨by decide +kernel, rfl⟩
theorem dx_Mo_put_18 : dc cd_Mo_put 18 (.getfield 7) 3 21 := ⟨by decide +kernel, rfl⟩
theorem dx_Mo_put_21 : dc cd_Mo_put 21 (.aload_n 0) 1 22 := ⟨by decide +kernel, rfl⟩
theorem dx_Mo_put_22 : dc cd_Mo_put 22 (.getfield 89) 3 25 := ⟨by decide +kernel, rfl⟩
theorem dx_Mo_put_25 : dc cd_Mo_put 25 (.iload_n 1) 1 26 := ⟨by decide +kernel, rfl⟩
theorem dx_Mo_put_26 : dc cd_Mo_put 26 (.sipush 255) 3 29 := ⟨by decide +kernel, rfl⟩
theorem dx_Mo_put_29 : dc cd_Mo_put 29 .iand 1 30 := ⟨by decide +kernel, rfl⟩
theorem dx_Mo_put_30 : dc cd_Mo_put 30 .iastore 1 31 := ⟨by decide +kernel, rfl⟩
theorem dx_Mo_put_31 : dc cd_Mo_put 31 (.aload_n 0) 1 32 := ⟨by decide +kernel, rfl⟩
theorem dx_Mo_put_32 : dc cd_Mo_put 32 .dup 1 33 := ⟨by decide +kernel, rfl⟩
theorem dx_Mo_put_33 : dc cd_Mo_put 33 (.getfield 89) 3 36 := ⟨by decide +kernel, rfl⟩
theorem dx_Mo_put_36 : dc cd_Mo_put 36 (.iconst 1) 1 37 := ⟨by decide +kernel, rfl⟩
theorem dx_Mo_put_37 : dc cd_Mo_put 37 .iadd 1 38 := ⟨by decide +kernel, rfl⟩
theorem dx_Mo_put_38 : dc cd_Mo_put 38 (.putfield 89) 3 41 := ⟨by decide +kernel, rfl⟩
theorem dx_Mo_put_41 : dc cd_Mo_put 41 (.iconst 1) 1 42 := ⟨by decide +kernel, rfl⟩
theorem dx_Mo_put_42 : dc cd_Mo_put 42 .ireturn 1 43 := ⟨by decide +kernel, rfl⟩
theorem dx_Mo_load_0 : dc cd_Mo_load 0 (.aload_n 0) 1 1 := ⟨by decide +kernel, rfl⟩
theorem dx_Mo_load_1 : dc cd_Mo_load 1 (.iconst 0) 1 2 := ⟨by decide +kernel, rfl⟩
theorem dx_Mo_load_2 : dc cd_Mo_load 2 (.putfield 86) 3 5 := ⟨by decide +kernel, rfl⟩
theorem dx_Mo_load_5 : dc cd_Mo_load 5 (.aload_n 0) 1 6 := ⟨by decide +kernel, rfl⟩
theorem dx_Mo_load_6 : dc cd_Mo_load 6 (.invokevirtual 144) 3 9 := ⟨by decide +kernel, rfl⟩
theorem dx_Mo_load_9 : dc cd_Mo_load 9 (.aload_n 0) 1 10 := ⟨by decide +kernel, rfl⟩
theorem dx_Mo_load_10 : dc cd_Mo_load 10 (.iconst 0) 1 11 := ⟨by decide +kernel, rfl⟩
theorem dx_Mo_load_11 : dc cd_Mo_load 11 (.putfield 89) 3 14 := ⟨by decide +kernel, rfl⟩
theorem dx_Mo_load_14 : dc cd_Mo_load 14 (.aload_n 0) 1 15 := ⟨by decide +kernel, rfl⟩
theorem dx_Mo_load_15 : dc cd_Mo_load 15 (.getfield 92) 3 18 := ⟨by decide +kernel, rfl⟩
theorem dx_Mo_load_18 : dz cd_Mo_load 18 .eq 21 27 := ⟨9, by decide +kernel, rfl, rfl⟩
theorem dx_Mo_load_21 : dc cd_Mo_load 21 (.aload_n 0) 1 22 := ⟨by decide +kernel, rfl⟩
theorem dx_Mo_load_22 : dc cd_Mo_load 22 (.iconst 1) 1 23 := ⟨by decide +kernel, rfl⟩
theorem dx_Mo_load_23 : dc cd_Mo_load 23 (.invokevirtual 147) 3 26 := ⟨by decide +kernel, rfl⟩
theorem dx_Mo_load_26 : dc cd_Mo_load 26 .ireturn 1 27 := ⟨by decide +kernel, rfl⟩
theorem dx_Mo_load_27 : dc cd_Mo_load 27 (.aload_n 0) 1 28 := ⟨by decide +kernel, rfl⟩
theorem dx_Mo_load_28 : dc cd_Mo_load 28 (.invokevirtual 150) 3 31 := ⟨by decide +kernel, rfl⟩
theorem dx_Mo_load_31 : dc cd_Mo_load 31 (.aload_n 0) 1 32 := ⟨by decide +kernel, rfl⟩
theorem dx_Mo_load_32 : dc cd_Mo_load 32 (.getfield 17) 3 35 := ⟨by decide +kernel, rfl⟩
theorem dx_Mo_load_35 : dc cd_Mo_load 35 (.iconst 0) 1 36 := ⟨by decide +kernel, rfl⟩
theorem dx_Mo_load_36 : dc cd_Mo_load 36 .iaload 1 37 := ⟨by decide +kernel, rfl⟩
theorem dx_Mo_load_37 : dc cd_Mo_load 37 .ireturn 1 38 := ⟨by decide +kernel, rfl⟩
theorem dx_Mo_readFile_0 : dc cd_Mo_readFile 0 (.aload_n 0) 1 1 := ⟨by decide +kernel, rfl⟩
theorem dx_Mo_readFile_1 : dc cd_Mo_readFile 1 (.iconst 0) 1 2 := ⟨by decide +kernel, rfl⟩
theorem dx_Mo_readFile_2 : dc cd_Mo_readFile 2 (.putfield 96) 3 5 := ⟨by decide +kernel, rfl⟩
theorem dx_Mo_readFile_5 : dc cd_Mo_readFile 5 (.aload_n 0) 1 6 := ⟨by decide +kernel, rfl⟩
theorem dx_Mo_readFile_6 : dc cd_Mo_readFile 6 (.iconst 0) 1 7 := ⟨by decide +kernel, rfl⟩
theorem dx_Mo_readFile_7 : dc cd_Mo_readFile 7 (.putfield 92) 3 10 := ⟨by decide +kernel, rfl⟩
theorem dx_Mo_readFile_10 : dc cd_Mo_readFile 10 (.aload_n 0) 1 11 := ⟨by decide +kernel, rfl⟩
theorem dx_Mo_readFile_11 : dc cd_Mo_readFile 11 (.bipush 100) 2 13 := ⟨by decide +kernel, rfl⟩
theorem dx_Mo_readFile_13 : dc cd_Mo_readFile 13 (.bipush 100) 2 15 := ⟨by decide +kernel, rfl⟩
theorem dx_Mo_readFile_15 : dc cd_Mo_readFile 15 (.invokevirtual 103) 3 18 := ⟨by decide +kernel, rfl⟩
theorem dx_Mo_readFile_18 : dc cd_Mo_readFile 18 .pop 1 19 := ⟨by decide +kernel, rfl⟩
theorem dx_Mo_readFile_19 : dc cd_Mo_readFile 19 (.aload_n 0) 1 20 := ⟨by decide +kernel, rfl⟩
theorem dx_Mo_readFile_20 : dc cd_Mo_readFile 20 (.bipush 101) 2 22 := ⟨by decide +kernel, rfl⟩
theorem dx_Mo_readFile_22 : dc cd_Mo_readFile 22 (.bipush 101) 2 24 := ⟨by decide +kernel, rfl⟩
theorem dx_Mo_readFile_24 : dc cd_Mo_readFile 24 (.invokevirtual 103) 3 27 := ⟨by decide +kernel, rfl⟩
theorem dx_Mo_readFile_27 : dc cd_Mo_readFile 27 .pop 1 28 := ⟨by decide +kernel, rfl⟩
theorem dx_Mo_readFile_28 : dc cd_Mo_readFile 28 (.aload_n 0) 1 29 := ⟨by decide +kernel, rfl⟩
theorem dx_Mo_readFile_29 : dc cd_Mo_readFile 29 (.bipush 120) 2 31 := ⟨by decide +kernel, rfl⟩
theorem dx_Mo_readFile_31 : dc cd_Mo_readFile 31 (.bipush 120) 2 33 := ⟨by decide +kernel, rfl⟩
theorem dx_Mo_readFile_33 : dc cd_Mo_readFile 33 (.invokevirtual 103) 3 36 := ⟨by decide +kernel, rfl⟩
theorem dx_Mo_readFile_36 : dc cd_Mo_readFile 36 .pop 1 37 := ⟨by decide +kernel, rfl⟩
theorem dx_Mo_readFile_37 : dc cd_Mo_readFile 37 (.aload_n 0) 1 38 := ⟨by decide +kernel, rfl⟩
theorem dx_Mo_readFile_38 : dc cd_Mo_readFile 38 (.bipush 10) 2 40 := ⟨by decide +kernel, rfl⟩
theorem dx_Mo_readFile_40 : dc cd_Mo_readFile 40 (.bipush 10) 2 42 := ⟨by decide +kernel, rfl⟩
theorem dx_Mo_readFile_42 : dc cd_Mo_readFile 42 (.invokevirtual 103) 3 45 := ⟨by decide +kernel, rfl⟩
theorem dx_Mo_readFile_45 : dc cd_Mo_readFile 45 .pop 1 46 := ⟨by decide +kernel, rfl⟩
theorem dx_Mo_readFile_46 : dc cd_Mo_readFile 46 (.lconst 0) 1 47 := ⟨by decide +kernel, rfl⟩
theorem dx_Mo_readFile_47 : dc cd_Mo_readFile 47 (.lstore_n 1) 1 48 := ⟨by decide +kernel, rfl⟩
theorem dx_Mo_readFile_48 : dc cd_Mo_readFile 48 (.iconst 0) 1 49 := ⟨by decide +kernel, rfl⟩
theorem dx_Mo_readFile_49 : dc cd_Mo_readFile 49 (.istore_n 3) 1 50 := ⟨by decide +kernel, rfl⟩
theorem dx_Mo_readFile_50 : dc cd_Mo_readFile 50 (.iload_n 3) 1 51 := ⟨by decide +kernel, rfl⟩
theorem dx_Mo_readFile_51 : dc cd_Mo_readFile 51 (.iconst 4) 1 52 := ⟨by decide +kernel, rfl⟩
theorem dx_Mo_readFile_52 : di cd_Mo_readFile 52 .ge 55 78 := ⟨26, by decide +kernel, rfl, rfl⟩
theorem dx_Mo_readFile_55 : dc cd_Mo_readFile 55 (.lload_n 1) 1 56 := ⟨by decide +kernel, rfl⟩
theorem dx_Mo_readFile_56 : dc cd_Mo_readFile 56 (.aload_n 0) 1 57 := ⟨by decide +kernel, rfl⟩
theorem dx_Mo_readFile_57 : dc cd_Mo_readFile 57 (.iconst 0) 1 58 := ⟨by decide +kernel, rfl⟩
theorem dx_Mo_readFile_58 : dc cd_Mo_readFile 58 (.sipush 255) 3 61 := ⟨by decide +kernel, rfl⟩
theorem dx_Mo_readFile_61 : dc cd_Mo_readFile 61 (.invokevirtual 103) 3 64 := ⟨by decide +kernel, rfl⟩
theorem dx_Mo_readFile_64 : dc cd_Mo_readFile 64 .i2l 1 65 := ⟨by decide +kernel, rfl⟩
theorem dx_Mo_readFile_65 : dc cd_Mo_readFile 65 (.bipush 8) 2 67 := ⟨by decide +kernel, rfl⟩
theorem dx_Mo_readFile_67 : dc cd_Mo_readFile 67 (.iload_n 3) 1 68 := ⟨by decide +kernel, rfl⟩
theorem dx_Mo_readFile_68 : dc cd_Mo_readFile 68 .imul 1 69 := ⟨by decide +kernel, rfl⟩
theorem dx_Mo_readFile_69 : dc cd_Mo_readFile 69 .lshl 1 70 := ⟨by decide +kernel, rfl⟩
theorem dx_Mo_readFile_70 : dc cd_Mo_readFile 70 .lor 1 71 := ⟨by decide +kernel, rfl⟩
theorem dx_Mo_readFile_71 : dc cd_Mo_readFile 71 (.lstore_n 1) 1 72 := ⟨by decide +kernel, rfl⟩
theorem dx_Mo_readFile_72 : dc cd_Mo_readFile 72 (.iinc 3 1) 3 75 := ⟨by decide +kernel, rfl⟩
theorem dx_Mo_readFile_75 : dg cd_Mo_readFile 75 50 := ⟨(-25), by decide +kernel, rfl⟩
theorem dx_Mo_readFile_78 : dc cd_Mo_readFile 78 (.aload_n 0) 1 79 := ⟨by decide +kernel, rfl⟩
theorem dx_Mo_readFile_79 : dc cd_Mo_readFile 79 (.getfield 17) 3 82 := ⟨by decide +kernel, rfl⟩
theorem dx_Mo_readFile_82 : dc cd_Mo_readFile 82 (.iconst 1) 1 83 := ⟨by decide +kernel, rfl⟩
theorem dx_Mo_readFile_83 : dc cd_Mo_readFile 83 (.aload_n 0) 1 84 := ⟨by decide +kernel, rfl⟩
theorem dx_Mo_readFile_84 : dc cd_Mo_readFile 84 (.iconst 1) 1 85 := ⟨by decide +kernel, rfl⟩
theorem dx_Mo_readFile_85 : dc cd_Mo_readFile 85 (.iconst 4) 1 86 := ⟨by decide +kernel, rfl⟩
theorem dx_Mo_readFile_86 : dc cd_Mo_readFile 86 (.invokevirtual 103) 3 89 := ⟨by decide +kernel, rfl⟩
theorem dx_Mo_readFile_89 : dc cd_Mo_readFile 89 .iastore 1 90 := ⟨by decide +kernel, rfl⟩
theorem dx_Mo_readFile_90 : dc cd_Mo_readFile 90 (.aload_n 0) 1 91 := ⟨by decide +kernel, rfl⟩
theorem dx_Mo_readFile_91 : dc cd_Mo_readFile 91 (.getfield 20) 3 94 := ⟨by decide +kernel, rfl⟩
theorem dx_Mo_readFile_94 : dc cd_Mo_readFile 94 (.iconst 1) 1 95 := ⟨by decide +kernel, rfl⟩
theorem dx_Mo_readFile_95 : dc cd_Mo_readFile 95 (.aload_n 0) 1 96 := ⟨by decide +kernel, rfl⟩
theorem dx_Mo_readFile_96 : dc cd_Mo_readFile 96 (.iconst 0) 1 97 := ⟨by decide +kernel, rfl⟩
theorem dx_Mo_readFile_97 : dc cd_Mo_readFile 97 (.iconst 4) 1 98 := ⟨by decide +kernel, rfl⟩
theorem dx_Mo_readFile_98 : dc cd_Mo_readFile 98 (.invokevirtual 103) 3 101 := ⟨by decide +kernel, rfl⟩
theorem dx_Mo_readFile_101 : dc cd_Mo_readFile 101 .iastore 1 102 := ⟨by decide +kernel, rfl⟩
theorem dx_Mo_readFile_102 : dc cd_Mo_readFile 102 (.iconst 0) 1 103 := ⟨by decide +kernel, rfl⟩
theorem dx_Mo_readFile_103 : dc cd_Mo_readFile 103 (.istore_n 3) 1 104 := ⟨by decide +kernel, rfl⟩
theorem dx_Mo_readFile_104 : dc cd_Mo_readFile 104 (.iload_n 3) 1 105 := ⟨by decide +kernel, rfl⟩
theorem dx_Mo_readFile_105 : dc cd_Mo_readFile 105 (.aload_n 0) 1 106 := ⟨by decide +kernel, rfl⟩
theorem dx_Mo_readFile_106 : dc cd_Mo_readFile 106 (.getfield 17) 3 109 := ⟨by decide +kernel, rfl⟩
theorem dx_Mo_readFile_109 : dc cd_Mo_readFile 109 (.iconst 1) 1 110 := ⟨by decide +kernel, rfl⟩
theorem dx_Mo_readFile_110 : dc cd_Mo_readFile 110 .iaload 1 111 := ⟨by decide +kernel, rfl⟩
theorem dx_Mo_readFile_111 : di cd_Mo_readFile 111 .ge 114 134 := ⟨23, by decide +kernel, rfl, rfl⟩
theorem dx_Mo_readFile_114 : dc cd_Mo_readFile 114 (.aload_n 0) 1 115 := ⟨by decide +kernel, rfl⟩
theorem dx_Mo_readFile_115 : dc cd_Mo_readFile 115 (.getfield 92) 3 118 := ⟨by decide +kernel, rfl⟩
theorem dx_Mo_readFile_118 : dz cd_Mo_readFile 118 .ne 121 134 := ⟨16, by decide +kernel, rfl, rfl⟩
theorem dx_Mo_readFile_121 : dc cd_Mo_readFile 121 (.aload_n 0) 1 122 := ⟨by decide +kernel, rfl⟩
theorem dx_Mo_readFile_122 : dc cd_Mo_readFile 122 (.iconst 4) 1 123 := ⟨by decide +kernel, rfl⟩
theorem dx_Mo_readFile_123 : dc cd_Mo_readFile 123 (.iload_n 3) 1 124 := ⟨by decide +kernel, rfl⟩
theorem dx_Mo_readFile_124 : dc cd_Mo_readFile 124 .iadd 1 125 := ⟨by decide +kernel, rfl⟩
theorem dx_Mo_readFile_125 : dc cd_Mo_readFile 125 (.invokevirtual 113) 3 128 := ⟨by decide +kernel, rfl⟩
theorem dx_Mo_readFile_128 : dc cd_Mo_readFile 128 (.iinc 3 1) 3 131 := ⟨by decide +kernel, rfl⟩
theorem dx_Mo_readFile_131 : dg cd_Mo_readFile 131 104 := ⟨(-27), by decide +kernel, rfl⟩
theorem dx_Mo_readFile_134 : dc cd_Mo_readFile 134 (.aload_n 0) 1 135 := ⟨by decide +kernel, rfl⟩
theorem dx_Mo_readFile_135 : dc cd_Mo_readFile 135 (.getfield 92) 3 138 := ⟨by decide +kernel, rfl⟩
theorem dx_Mo_readFile_138 : dz cd_Mo_readFile 138 .ne 141 157 := ⟨19, by decide +kernel, rfl, rfl⟩
theorem dx_Mo_readFile_141 : dc cd_Mo_readFile 141 (.aload_n 0) 1 142 := ⟨by decide +kernel, rfl⟩
theorem dx_Mo_readFile_142 : dc cd_Mo_readFile 142 (.getfield 96) 3 145 := ⟨by decide +kernel, rfl⟩
theorem dx_Mo_readFile_145 : dc cd_Mo_readFile 145 (.aload_n 0) 1 146 := ⟨by decide +kernel, rfl⟩
theorem dx_Mo_readFile_146 : dc cd_Mo_readFile 146 (.getfield 89) 3 149 := ⟨by decide +kernel, rfl⟩
theorem dx_Mo_readFile_149 : di cd_Mo_readFile 149 .ge 152 157 := ⟨8, by decide +kernel, rfl, rfl⟩
theorem dx_Mo_readFile_152 : dc cd_Mo_readFile 152 (.aload_n 0) 1 153 := ⟨by decide +kernel, rfl⟩
theorem dx_Mo_readFile_153 : dc cd_Mo_readFile 153 (.iconst 1) 1 154 := ⟨by decide +kernel, rfl⟩
theorem dx_Mo_readFile_154 : dc cd_Mo_readFile 154 (.putfield 92) 3 157 := ⟨by decide +kernel, rfl⟩
theorem dx_Mo_readFile_157 : dc cd_Mo_readFile 157 (.aload_n 0) 1 158 := ⟨by decide +kernel, rfl⟩
theorem dx_Mo_readFile_158 : dc cd_Mo_readFile 158 (.getfield 92) 3 161 := ⟨by decide +kernel, rfl⟩
theorem dx_Mo_readFile_161 : dz cd_Mo_readFile 161 .ne 164 185 := ⟨24, by decide +kernel, rfl, rfl⟩
theorem dx_Mo_readFile_164 : dc cd_Mo_readFile 164 (.lload_n 1) 1 165 := ⟨by decide +kernel, rfl⟩
theorem dx_Mo_readFile_165 : dc cd_Mo_readFile 165 (.aload_n 0) 1 166 := ⟨by decide +kernel, rfl⟩
theorem dx_Mo_readFile_166 : dc cd_Mo_readFile 166 (.bipush 8) 2 168 := ⟨by decide +kernel, rfl⟩
theorem dx_Mo_readFile_168 : dc cd_Mo_readFile 168 (.invokevirtual 117) 3 171 := ⟨by decide +kernel, rfl⟩
theorem dx_Mo_readFile_171 : dc cd_Mo_readFile 171 .lcmp 1 172 := ⟨by decide +kernel, rfl⟩
theorem dx_Mo_readFile_172 : dz cd_Mo_readFile 172 .eq 175 185 := ⟨13, by decide +kernel, rfl, rfl⟩
theorem dx_Mo_readFile_175 : dc cd_Mo_readFile 175 (.aload_n 0) 1 176 := ⟨by decide +kernel, rfl⟩
theorem dx_Mo_readFile_176 : dc cd_Mo_readFile 176 (.iconst 1) 1 177 := ⟨by decide +kernel, rfl⟩
theorem dx_Mo_readFile_177 : dc cd_Mo_readFile 177 (.putfield 92) 3 180 := ⟨by decide +kernel, rfl⟩
theorem dx_Mo_readFile_180 : dc cd_Mo_readFile 180 (.aload_n 0) 1 181 := ⟨by decide +kernel, rfl⟩
theorem dx_Mo_readFile_181 : dc cd_Mo_readFile 181 (.iconst 4) 1 182 := ⟨by decide +kernel, rfl⟩
theorem dx_Mo_readFile_182 : dc cd_Mo_readFile 182 (.putfield 96) 3 185 := ⟨by decide +kernel, rfl⟩
theorem dx_Mo_readFile_185 : dc cd_Mo_readFile 185 (.aload_n 0) 1 186 := ⟨by decide +kernel, rfl⟩
theorem dx_Mo_readFile_186 : dc cd_Mo_readFile 186 (.aload_n 0) 1 187 := ⟨by decide +kernel, rfl⟩
theorem dx_Mo_readFile_187 : dc cd_Mo_readFile 187 (.getfield 92) 3 190 := ⟨by decide +kernel, rfl⟩
theorem dx_Mo_readFile_190 : dz cd_Mo_readFile 190 .eq 193 200 := ⟨10, by decide +kernel, rfl, rfl⟩
theorem dx_Mo_readFile_193 : dc cd_Mo_readFile 193 (.aload_n 0) 1 194 := ⟨by decide +kernel, rfl⟩
theorem dx_Mo_readFile_194 : dc cd_Mo_readFile 194 (.getfield 96) 3 197 := ⟨by decide +kernel, rfl⟩
theorem dx_Mo_readFile_197 : dg cd_Mo_readFile 197 201 := ⟨4, by decide +kernel, rfl⟩
theorem dx_Mo_readFile_200 : dc cd_Mo_readFile 200 (.iconst (-1)) 1 201 := ⟨by decide +kernel, rfl⟩
theorem dx_Mo_readFile_201 : dc cd_Mo_readFile 201 (.putfield 13) 3 204 := ⟨by decide +kernel, rfl⟩
theorem dx_Mo_readFile_204 : dc cd_Mo_readFile 204 .return_ 1 205 := ⟨by decide +kernel, rfl⟩
theorem dx_Mo_next_0 : dc cd_Mo_next 0 (.aload_n 0) 1 1 := ⟨by decide +kernel, rfl⟩
theorem dx_Mo_next_1 : dc cd_Mo_next 1 (.getfield 92) 3 4 := ⟨by decide +kernel, rfl⟩
theorem dx_Mo_next_4 : dz cd_Mo_next 4 .eq 7 9 := ⟨5, by decide +kernel, rfl, rfl⟩
theorem dx_Mo_next_7 : dc cd_Mo_next 7 (.iconst 0) 1 8 := ⟨by decide +kernel, rfl⟩
theorem dx_Mo_next_8 : dc cd_Mo_next 8 .ireturn 1 9 := ⟨by decide +kernel, rfl⟩
theorem dx_Mo_next_9 : dc cd_Mo_next 9 (.aload_n 0) 1 10 := ⟨by decide +kernel, rfl⟩
theorem dx_Mo_next_10 : dc cd_Mo_next 10 (.getfield 96) 3 13 := ⟨by decide +kernel, rfl⟩
theorem dx_Mo_next_13 : dc cd_Mo_next 13 (.aload_n 0) 1 14 := ⟨by decide +kernel, rfl⟩
theorem dx_Mo_next_14 : dc cd_Mo_next 14 (.getfield 89) 3 17 := ⟨by decide +kernel, rfl⟩
theorem dx_Mo_next_17 : di cd_Mo_next 17 .ge 20 46 := ⟨29, by decide +kernel, rfl, rfl⟩
theorem dx_Mo_next_20 : dc cd_Mo_next 20 (.aload_n 0) 1 21 := ⟨by decide +kernel, rfl⟩
theorem dx_Mo_next_21 : dc cd_Mo_next 21 (.getfield 7) 3 24 := ⟨by decide +kernel, rfl⟩
theorem dx_Mo_next_24 : dc cd_Mo_next 24 (.aload_n 0) 1 25 := ⟨by decide +kernel, rfl⟩
theorem dx_Mo_next_25 : dc cd_Mo_next 25 (.getfield 96) 3 28 := ⟨by decide +kernel, rfl⟩
theorem dx_Mo_next_28 : dc cd_Mo_next 28 .iaload 1 29 := ⟨by decide +kernel, rfl⟩
theorem dx_Mo_next_29 : dc cd_Mo_next 29 (.iload_n 1) 1 30 := ⟨by decide +kernel, rfl⟩
theorem dx_Mo_next_30 : di cd_Mo_next 30 .lt 33 46 := ⟨16, by decide +kernel, rfl, rfl⟩
theorem dx_Mo_next_33 : dc cd_Mo_next 33 (.aload_n 0) 1 34 := ⟨by decide +kernel, rfl⟩
theorem dx_Mo_next_34 : dc cd_Mo_next 34 (.getfield 7) 3 37 := ⟨by decide +kernel, rfl⟩
theorem dx_Mo_next_37 : dc cd_Mo_next 37 (.aload_n 0) 1 38 := ⟨by decide +kernel, rfl⟩
theorem dx_Mo_next_38 : dc cd_Mo_next 38 (.getfield 96) 3 41 := ⟨by decide +kernel, rfl⟩
theorem dx_Mo_next_41 : dc cd_Mo_next 41 .iaload 1 42 := ⟨by decide +kernel, rfl⟩
theorem dx_Mo_next_42 : dc cd_Mo_next 42 (.iload_n 2) 1 43 := ⟨by decide +kernel, rfl⟩
theorem dx_Mo_next_43 : di cd_Mo_next 43 .le 46 53 := ⟨10, by decide +kernel, rfl, rfl⟩
theorem dx_Mo_next_46 : dc cd_Mo_next 46 (.aload_n 0) 1 47 := ⟨by decide +kernel, rfl⟩
theorem dx_Mo_next_47 : dc cd_Mo_next 47 (.iconst 1) 1 48 := ⟨by decide +kernel, rfl⟩
theorem dx_Mo_next_48 : dc cd_Mo_next 48 (.putfield 92) 3 51 := ⟨by decide +kernel, rfl⟩
theorem dx_Mo_next_51 : dc cd_Mo_next 51 (.iconst 0) 1 52 := ⟨by decide +kernel, rfl⟩
theorem dx_Mo_next_52 : dc cd_Mo_next 52 .ireturn 1 53 := ⟨by decide +kernel, rfl⟩
theorem dx_Mo_next_53 : dc cd_Mo_next 53 (.aload_n 0) 1 54 := ⟨by decide +kernel, rfl⟩
theorem dx_Mo_next_54 : dc cd_Mo_next 54 .dup 1 55 := ⟨by decide +kernel, rfl⟩
theorem dx_Mo_next_55 : dc cd_Mo_next 55 (.getfield 96) 3 58 := ⟨by decide +kernel, rfl⟩
theorem dx_Mo_next_58 : dc cd_Mo_next 58 (.iconst 1) 1 59 := ⟨by decide +kernel, rfl⟩
theorem dx_Mo_next_59 : dc cd_Mo_next 59 .iadd 1 60 := ⟨by decide +kernel, rfl⟩
theorem dx_Mo_next_60 : dc cd_Mo_next 60 (.putfield 96) 3 63 := ⟨by decide +kernel, rfl⟩
theorem dx_Mo_next_63 : dc cd_Mo_next 63 (.aload_n 0) 1 64 := ⟨by decide +kernel, rfl⟩
theorem dx_Mo_next_64 : dc cd_Mo_next 64 (.getfield 7) 3 67 := ⟨by decide +kernel, rfl⟩
theorem dx_Mo_next_67 : dc cd_Mo_next 67 (.aload_n 0) 1 68 := ⟨by decide +kernel, rfl⟩
theorem dx_Mo_next_68 : dc cd_Mo_next 68 (.getfield 96) 3 71 := ⟨by decide +kernel, rfl⟩
theorem dx_Mo_next_71 : dc cd_Mo_next 71 (.iconst 1) 1 72 := ⟨by decide +kernel, rfl⟩
theorem dx_Mo_next_72 : dc cd_Mo_next 72 .isub 1 73 := ⟨by decide +kernel, rfl⟩
theorem dx_Mo_next_73 : dc cd_Mo_next 73 .iaload 1 74 := ⟨by decide +kernel, rfl⟩
theorem dx_Mo_next_74 : dc cd_Mo_next 74 .ireturn 1 75 := ⟨by decide +kernel, rfl⟩
theorem dx_Mo_readMethod_0 : dc cd_Mo_readMethod 0 (.aload_n 0) 1 1 := ⟨by decide +kernel, rfl⟩
theorem dx_Mo_readMethod_1 : dc cd_Mo_readMethod 1 (.getfield 23) 3 4 := ⟨by decide +kernel, rfl⟩
theorem dx_Mo_readMethod_4 : dc cd_Mo_readMethod 4 (.iload_n 1) 1 5 := ⟨by decide +kernel, rfl⟩
theorem dx_Mo_readMethod_5 : dc cd_Mo_readMethod 5 (.aload_n 0) 1 6 := ⟨by decide +kernel, rfl⟩
theorem dx_Mo_readMethod_6 : dc cd_Mo_readMethod 6 (.iconst 0) 1 7 := ⟨by decide +kernel, rfl⟩
theorem dx_Mo_readMethod_7 : dc cd_Mo_readMethod 7 (.iconst 4) 1 8 := ⟨by decide +kernel, rfl⟩
theorem dx_Mo_readMethod_8 : dc cd_Mo_readMethod 8 (.invokevirtual 103) 3 11 := ⟨by decide +kernel, rfl⟩
theorem dx_Mo_readMethod_11 : dc cd_Mo_readMethod 11 .iastore 1 12 := ⟨by decide +kernel, rfl⟩
theorem dx_Mo_readMethod_12 : dc cd_Mo_readMethod 12 (.aload_n 0) 1 13 := ⟨by decide +kernel, rfl⟩
theorem dx_Mo_readMethod_13 : dc cd_Mo_readMethod 13 (.getfield 26) 3 16 := ⟨by decide +kernel, rfl⟩
theorem dx_Mo_readMethod_16 : dc cd_Mo_readMethod 16 (.iload_n 1) 1 17 := ⟨by decide +kernel, rfl⟩
theorem dx_Mo_readMethod_17 : dc cd_Mo_readMethod 17 (.aload_n 0) 1 18 := ⟨by decide +kernel, rfl⟩
theorem dx_Mo_readMethod_18 : dc cd_Mo_readMethod 18 (.iconst 0) 1 19 := ⟨by decide +kernel, rfl⟩
theorem dx_Mo_readMethod_19 : dc cd_Mo_readMethod 19 (.iconst 3) 1 20 := ⟨by decide +kernel, rfl⟩
theorem dx_Mo_readMethod_20 : dc cd_Mo_readMethod 20 (.invokevirtual 103) 3 23 := ⟨by decide +kernel, rfl⟩
theorem dx_Mo_readMethod_23 : dc cd_Mo_readMethod 23 .iastore 1 24 := ⟨by decide +kernel, rfl⟩
theorem dx_Mo_readMethod_24 : dc cd_Mo_readMethod 24 (.iconst 0) 1 25 := ⟨by decide +kernel, rfl⟩
theorem dx_Mo_readMethod_25 : dc cd_Mo_readMethod 25 (.istore_n 2) 1 26 := ⟨by decide +kernel, rfl⟩
theorem dx_Mo_readMethod_26 : dc cd_Mo_readMethod 26 (.iload_n 2) 1 27 := ⟨by decide +kernel, rfl⟩
theorem dx_Mo_readMethod_27 : dc cd_Mo_readMethod 27 (.aload_n 0) 1 28 := ⟨by decide +kernel, rfl⟩
theorem dx_Mo_readMethod_28 : dc cd_Mo_readMethod 28 (.getfield 26) 3 31 := ⟨by decide +kernel, rfl⟩
theorem dx_Mo_readMethod_31 : dc cd_Mo_readMethod 31 (.iload_n 1) 1 32 := ⟨by decide +kernel, rfl⟩
theorem dx_Mo_readMethod_32 : dc cd_Mo_readMethod 32 .iaload 1 33 := ⟨by decide +kernel, rfl⟩
theorem dx_Mo_readMethod_33 : di cd_Mo_readMethod 33 .ge 36 58 := ⟨25, by decide +kernel, rfl, rfl⟩
theorem dx_Mo_readMethod_36 : dc cd_Mo_readMethod 36 (.aload_n 0) 1 37 := ⟨by decide +kernel, rfl⟩
theorem dx_Mo_readMethod_37 : dc cd_Mo_readMethod 37 (.getfield 29) 3 40 := ⟨by decide +kernel, rfl⟩
theorem dx_Mo_readMethod_40 : dc cd_Mo_readMethod 40 (.iconst 3) 1 41 := ⟨by decide +kernel, rfl⟩
theorem dx_Mo_readMethod_41 : dc cd_Mo_readMethod 41 (.iload_n 1) 1 42 := ⟨by decide +kernel, rfl⟩
theorem dx_Mo_readMethod_42 : dc cd_Mo_readMethod 42 .imul 1 43 := ⟨by decide +kernel, rfl⟩
theorem dx_Mo_readMethod_43 : dc cd_Mo_readMethod 43 (.iload_n 2) 1 44 := ⟨by decide +kernel, rfl⟩
theorem dx_Mo_readMethod_44 : dc cd_Mo_readMethod 44 .iadd 1 45 := ⟨by decide +kernel, rfl⟩
theorem dx_Mo_readMethod_45 : dc cd_Mo_readMethod 45 (.aload_n 0) 1 46 := ⟨by decide +kernel, rfl⟩
theorem dx_Mo_readMethod_46 : dc cd_Mo_readMethod 46 (.iconst 1) 1 47 := ⟨by decide +kernel, rfl⟩
theorem dx_Mo_readMethod_47 : dc cd_Mo_readMethod 47 (.iconst 4) 1 48 := ⟨by decide +kernel, rfl⟩
theorem dx_Mo_readMethod_48 : dc cd_Mo_readMethod 48 (.invokevirtual 103) 3 51 := ⟨by decide +kernel, rfl⟩
theorem dx_Mo_readMethod_51 : dc cd_Mo_readMethod 51 .iastore 1 52 := ⟨by decide +kernel, rfl⟩
theorem dx_Mo_readMethod_52 : dc cd_Mo_readMethod 52 (.iinc 2 1) 3 55 := ⟨by decide +kernel, rfl⟩
theorem dx_Mo_readMethod_55 : dg cd_Mo_readMethod 55 26 := ⟨(-29), by decide +kernel, rfl⟩
theorem dx_Mo_readMethod_58 : dc cd_Mo_readMethod 58 (.aload_n 0) 1 59 := ⟨by decide +kernel, rfl⟩
theorem dx_Mo_readMethod_59 : dc cd_Mo_readMethod 59 (.getfield 32) 3 62 := ⟨by decide +kernel, rfl⟩
theorem dx_Mo_readMethod_62 : dc cd_Mo_readMethod 62 (.iload_n 1) 1 63 := ⟨by decide +kernel, rfl⟩
theorem dx_Mo_readMethod_63 : dc cd_Mo_readMethod 63 (.aload_n 0) 1 64 := ⟨by decide +kernel, rfl⟩
theorem dx_Mo_readMethod_64 : dc cd_Mo_readMethod 64 (.aload_n 0) 1 65 := ⟨by decide +kernel, rfl⟩
theorem dx_Mo_readMethod_65 : dc cd_Mo_readMethod 65 (.iload_n 1) 1 66 := ⟨by decide +kernel, rfl⟩
theorem dx_Mo_readMethod_66 : dc cd_Mo_readMethod 66 (.invokevirtual 107) 3 69 := ⟨by decide +kernel, rfl⟩
theorem dx_Mo_readMethod_69 : dc cd_Mo_readMethod 69 (.bipush 10) 2 71 := ⟨by decide +kernel, rfl⟩
theorem dx_Mo_readMethod_71 : dc cd_Mo_readMethod 71 (.invokevirtual 103) 3 74 := ⟨by decide +kernel, rfl⟩
theorem dx_Mo_readMethod_74 : dc cd_Mo_readMethod 74 .iastore 1 75 := ⟨by decide +kernel, rfl⟩
theorem dx_Mo_readMethod_75 : dc cd_Mo_readMethod 75 (.aload_n 0) 1 76 := ⟨by decide +kernel, rfl⟩
theorem dx_Mo_readMethod_76 : dc cd_Mo_readMethod 76 (.iconst 0) 1 77 := ⟨by decide +kernel, rfl⟩
theorem dx_Mo_readMethod_77 : dc cd_Mo_readMethod 77 (.sipush 255) 3 80 := ⟨by decide +kernel, rfl⟩
theorem dx_Mo_readMethod_80 : dc cd_Mo_readMethod 80 (.invokevirtual 103) 3 83 := ⟨by decide +kernel, rfl⟩
theorem dx_Mo_readMethod_83 : dc cd_Mo_readMethod 83 (.istore_n 2) 1 84 := ⟨by decide +kernel, rfl⟩
theorem dx_Mo_readMethod_84 : dc cd_Mo_readMethod 84 (.iload_n 2) 1 85 := ⟨by decide +kernel, rfl⟩
theorem dx_Mo_readMethod_85 : dc cd_Mo_readMethod 85 (.bipush 127) 2 87 := ⟨by decide +kernel, rfl⟩
theorem dx_Mo_readMethod_87 : dc cd_Mo_readMethod 87 .iand 1 88 := ⟨by decide +kernel, rfl⟩
theorem dx_Mo_readMethod_88 : dc cd_Mo_readMethod 88 (.istore_n 3) 1 89 := ⟨by decide +kernel, rfl⟩
theorem dx_Mo_readMethod_89 : dc cd_Mo_readMethod 89 (.iload_n 2) 1 90 := ⟨by decide +kernel, rfl⟩
theorem dx_Mo_readMethod_90 : dc cd_Mo_readMethod 90 (.bipush 127) 2 92 := ⟨by decide +kernel, rfl⟩
theorem dx_Mo_readMethod_92 : di cd_Mo_readMethod 92 .le 95 109 := ⟨17, by decide +kernel, rfl, rfl⟩
theorem dx_Mo_readMethod_95 : dc cd_Mo_readMethod 95 (.iload_n 3) 1 96 := ⟨by decide +kernel, rfl⟩
theorem dx_Mo_readMethod_96 : dc cd_Mo_readMethod 96 (.sipush 128) 3 99 := ⟨by decide +kernel, rfl⟩
theorem dx_Mo_readMethod_99 : dc cd_Mo_readMethod 99 (.aload_n 0) 1 100 := ⟨by decide +kernel, rfl⟩
theorem dx_Mo_readMethod_100 : dc cd_Mo_readMethod 100 (.iconst 0) 1 101 := ⟨by decide +kernel, rfl⟩
theorem dx_Mo_readMethod_101 : dc cd_Mo_readMethod 101 (.bipush 127) 2 103 := ⟨by decide +kernel, rfl⟩
theorem dx_Mo_readMethod_103 : dc cd_Mo_readMethod 103 (.invokevirtual 103) 3 106 := ⟨by decide +kernel, rfl⟩
theorem dx_Mo_readMethod_106 : dc cd_Mo_readMethod 106 .imul 1 107 := ⟨by decide +kernel, rfl⟩
theorem dx_Mo_readMethod_107 : dc cd_Mo_readMethod 107 .iadd 1 108 := ⟨by decide +kernel, rfl⟩
theorem dx_Mo_readMethod_108 : dc cd_Mo_readMethod 108 (.istore_n 3) 1 109 := ⟨by decide +kernel, rfl⟩
theorem dx_Mo_readMethod_109 : dc cd_Mo_readMethod 109 (.aload_n 0) 1 110 := ⟨by decide +kernel, rfl⟩
theorem dx_Mo_readMethod_110 : dc cd_Mo_readMethod 110 (.getfield 92) 3 113 := ⟨by decide +kernel, rfl⟩
theorem dx_Mo_readMethod_113 : dz cd_Mo_readMethod 113 .ne 116 142 := ⟨29, by decide +kernel, rfl, rfl⟩
theorem dx_Mo_readMethod_116 : dc cd_Mo_readMethod 116 (.iload_n 3) 1 117 := ⟨by decide +kernel, rfl⟩
theorem dx_Mo_readMethod_117 : dc cd_Mo_readMethod 117 (.iconst 1) 1 118 := ⟨by decide +kernel, rfl⟩
theorem dx_Mo_readMethod_118 : di cd_Mo_readMethod 118 .lt 121 127 := ⟨9, by decide +kernel, rfl, rfl⟩
theorem dx_Mo_readMethod_121 : dc cd_Mo_readMethod 121 (.iload_n 3) 1 122 := ⟨by decide +kernel, rfl⟩
theorem dx_Mo_readMethod_122 : dc cd_Mo_readMethod 122 (.bipush 40) 2 124 := ⟨by decide +kernel, rfl⟩
theorem dx_Mo_readMethod_124 : di cd_Mo_readMethod 124 .le 127 142 := ⟨18, by decide +kernel, rfl, rfl⟩
theorem dx_Mo_readMethod_127 : dc cd_Mo_readMethod 127 (.aload_n 0) 1 128 := ⟨by decide +kernel, rfl⟩
theorem dx_Mo_readMethod_128 : dc cd_Mo_readMethod 128 (.iconst 1) 1 129 := ⟨by decide +kernel, rfl⟩
theorem dx_Mo_readMethod_129 : dc cd_Mo_readMethod 129 (.putfield 92) 3 132 := ⟨by decide +kernel, rfl⟩
theorem dx_Mo_readMethod_132 : dc cd_Mo_readMethod 132 (.aload_n 0) 1 133 := ⟨by decide +kernel, rfl⟩
theorem dx_Mo_readMethod_133 : dc cd_Mo_readMethod 133 .dup 1 134 := ⟨by decide +kernel, rfl⟩
theorem dx_Mo_readMethod_134 : dc cd_Mo_readMethod 134 (.getfield 96) 3 137 := ⟨by decide +kernel, rfl⟩
theorem dx_Mo_readMethod_137 : dc cd_Mo_readMethod 137 (.iconst 1) 1 138 := ⟨by decide +kernel, rfl⟩
theorem dx_Mo_readMethod_138 : dc cd_Mo_readMethod 138 .isub 1 139 := ⟨by decide +kernel, rfl⟩
theorem dx_Mo_readMethod_139 : dc cd_Mo_readMethod 139 (.putfield 96) 3 142 := ⟨by decide +kernel, rfl⟩
theorem dx_Mo_readMethod_142 : dc cd_Mo_readMethod 142 (.aload_n 0) 1 143 := ⟨by decide +kernel, rfl⟩
theorem dx_Mo_readMethod_143 : dc cd_Mo_readMethod 143 (.getfield 92) 3 146 := ⟨by decide +kernel, rfl⟩
theorem dx_Mo_readMethod_146 : dz cd_Mo_readMethod 146 .eq 149 150 := ⟨4, by decide +kernel, rfl, rfl⟩
theorem dx_Mo_readMethod_149 : dc cd_Mo_readMethod 149 .return_ 1 150 := ⟨by decide +kernel, rfl⟩
theorem dx_Mo_readMethod_150 : dc cd_Mo_readMethod 150 (.aload_n 0) 1 151 := ⟨by decide +kernel, rfl⟩
end
