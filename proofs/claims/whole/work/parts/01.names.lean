-- ===== PART A: goes FIRST, ahead of the names: the tables' words, and 'selects' of the private methods out of them =====
/-- a private method of a class that the tables say can be made, by its rows of tables_1 -/
def lw_okq (q : MethodName × Nat) : Prop := (q.1.cls ≠ "java/lang/invoke/MethodHandle" ∧ q.1.cls ≠ "java/lang/invoke/VarHandle") ∧ Cond.instantiable q.1.cls q.2 ∈ tables_1 ∧ Cond.privateMethod q.1 ∈ tables_1 ∧ Cond.instanceMethod q.1 ∈ tables_1
theorem lw_p0 : lw_okq (⟨"PairVm$Machine", "frameAt", "(I)LPairVm$Frame;"⟩, 7) := ⟨⟨by decide +kernel, by decide +kernel⟩, List.mem_of_getElem? (i := 74) (by decide +kernel), List.mem_of_getElem? (i := 418) (by decide +kernel), List.mem_of_getElem? (i := 419) (by decide +kernel)⟩
theorem lw_p1 : lw_okq (⟨"PairVm$FileBytes", "dueCheck", "()J"⟩, 4) := ⟨⟨by decide +kernel, by decide +kernel⟩, List.mem_of_getElem? (i := 32) (by decide +kernel), List.mem_of_getElem? (i := 449) (by decide +kernel), List.mem_of_getElem? (i := 450) (by decide +kernel)⟩
theorem lw_p2 : lw_okq (⟨"java/lang/Throwable", "fillInStackTrace", "(I)Ljava/lang/Throwable;"⟩, 6) := ⟨⟨by decide +kernel, by decide +kernel⟩, List.mem_of_getElem? (i := 494) (by decide +kernel), List.mem_of_getElem? (i := 492) (by decide +kernel), List.mem_of_getElem? (i := 493) (by decide +kernel)⟩
theorem lw_p3 : lw_okq (⟨"PairVm", "takeFile", "()I"⟩, 6) := ⟨⟨by decide +kernel, by decide +kernel⟩, List.mem_of_getElem? (i := 24) (by decide +kernel), List.mem_of_getElem? (i := 524) (by decide +kernel), List.mem_of_getElem? (i := 525) (by decide +kernel)⟩
theorem lw_p4 : lw_okq (⟨"PairVm$FileBytes", "toldCheck", "()J"⟩, 4) := ⟨⟨by decide +kernel, by decide +kernel⟩, List.mem_of_getElem? (i := 32) (by decide +kernel), List.mem_of_getElem? (i := 560) (by decide +kernel), List.mem_of_getElem? (i := 561) (by decide +kernel)⟩
theorem lw_p5 : lw_okq (⟨"PairVm$Method", "unitAt", "(I)I"⟩, 11) := ⟨⟨by decide +kernel, by decide +kernel⟩, List.mem_of_getElem? (i := 147) (by decide +kernel), List.mem_of_getElem? (i := 581) (by decide +kernel), List.mem_of_getElem? (i := 582) (by decide +kernel)⟩
theorem lw_p6 : lw_okq (⟨"PairVm$Step", "findOperation", "()V"⟩, 15) := ⟨⟨by decide +kernel, by decide +kernel⟩, List.mem_of_getElem? (i := 154) (by decide +kernel), List.mem_of_getElem? (i := 589) (by decide +kernel), List.mem_of_getElem? (i := 590) (by decide +kernel)⟩
theorem lw_p7 : lw_okq (⟨"PairVm$Program", "giveTypes", "(LPairVm$Method;)V"⟩, 6) := ⟨⟨by decide +kernel, by decide +kernel⟩, List.mem_of_getElem? (i := 127) (by decide +kernel), List.mem_of_getElem? (i := 645) (by decide +kernel), List.mem_of_getElem? (i := 646) (by decide +kernel)⟩
theorem lw_p8 : lw_okq (⟨"PairVm$Flow", "begin", "(LPairVm$Method;)V"⟩, 2) := ⟨⟨by decide +kernel, by decide +kernel⟩, List.mem_of_getElem? (i := 135) (by decide +kernel), List.mem_of_getElem? (i := 654) (by decide +kernel), List.mem_of_getElem? (i := 655) (by decide +kernel)⟩
theorem lw_p9 : lw_okq (⟨"PairVm$Flow", "setTypes", "(III)V"⟩, 2) := ⟨⟨by decide +kernel, by decide +kernel⟩, List.mem_of_getElem? (i := 135) (by decide +kernel), List.mem_of_getElem? (i := 665) (by decide +kernel), List.mem_of_getElem? (i := 666) (by decide +kernel)⟩
theorem lw_p10 : lw_okq (⟨"PairVm$Flow", "setOne", "(II)V"⟩, 2) := ⟨⟨by decide +kernel, by decide +kernel⟩, List.mem_of_getElem? (i := 135) (by decide +kernel), List.mem_of_getElem? (i := 669) (by decide +kernel), List.mem_of_getElem? (i := 670) (by decide +kernel)⟩
theorem lw_p11 : lw_okq (⟨"PairVm$Flow", "join", "(LPairVm$Step;)V"⟩, 2) := ⟨⟨by decide +kernel, by decide +kernel⟩, List.mem_of_getElem? (i := 135) (by decide +kernel), List.mem_of_getElem? (i := 674) (by decide +kernel), List.mem_of_getElem? (i := 675) (by decide +kernel)⟩
theorem lw_p12 : lw_okq (⟨"PairVm$Flow", "passOver", "(LPairVm$Step;)V"⟩, 2) := ⟨⟨by decide +kernel, by decide +kernel⟩, List.mem_of_getElem? (i := 135) (by decide +kernel), List.mem_of_getElem? (i := 678) (by decide +kernel), List.mem_of_getElem? (i := 679) (by decide +kernel)⟩
theorem lw_p13 : lw_okq (⟨"PairVm", "beginCall", "(I)I"⟩, 6) := ⟨⟨by decide +kernel, by decide +kernel⟩, List.mem_of_getElem? (i := 24) (by decide +kernel), List.mem_of_getElem? (i := 721) (by decide +kernel), List.mem_of_getElem? (i := 722) (by decide +kernel)⟩
theorem lw_p14 : lw_okq (⟨"PairVm$Machine", "perform", "(LPairVm$Program;LPairVm$Frame;LPairVm$Step;)V"⟩, 7) := ⟨⟨by decide +kernel, by decide +kernel⟩, List.mem_of_getElem? (i := 74) (by decide +kernel), List.mem_of_getElem? (i := 789) (by decide +kernel), List.mem_of_getElem? (i := 790) (by decide +kernel)⟩
theorem lw_p15 : lw_okq (⟨"PairVm$Machine", "leave", "(LPairVm$Frame;LPairVm$Step;)V"⟩, 7) := ⟨⟨by decide +kernel, by decide +kernel⟩, List.mem_of_getElem? (i := 74) (by decide +kernel), List.mem_of_getElem? (i := 793) (by decide +kernel), List.mem_of_getElem? (i := 794) (by decide +kernel)⟩
def lw_privs_1 : List (MethodName × Nat) := [(⟨"PairVm$Machine", "frameAt", "(I)LPairVm$Frame;"⟩, 7), (⟨"PairVm$FileBytes", "dueCheck", "()J"⟩, 4), (⟨"java/lang/Throwable", "fillInStackTrace", "(I)Ljava/lang/Throwable;"⟩, 6), (⟨"PairVm", "takeFile", "()I"⟩, 6), (⟨"PairVm$FileBytes", "toldCheck", "()J"⟩, 4), (⟨"PairVm$Method", "unitAt", "(I)I"⟩, 11), (⟨"PairVm$Step", "findOperation", "()V"⟩, 15), (⟨"PairVm$Program", "giveTypes", "(LPairVm$Method;)V"⟩, 6), (⟨"PairVm$Flow", "begin", "(LPairVm$Method;)V"⟩, 2), (⟨"PairVm$Flow", "setTypes", "(III)V"⟩, 2), (⟨"PairVm$Flow", "setOne", "(II)V"⟩, 2), (⟨"PairVm$Flow", "join", "(LPairVm$Step;)V"⟩, 2), (⟨"PairVm$Flow", "passOver", "(LPairVm$Step;)V"⟩, 2), (⟨"PairVm", "beginCall", "(I)I"⟩, 6), (⟨"PairVm$Machine", "perform", "(LPairVm$Program;LPairVm$Frame;LPairVm$Step;)V"⟩, 7), (⟨"PairVm$Machine", "leave", "(LPairVm$Frame;LPairVm$Step;)V"⟩, 7)]
theorem lw_r1 : ∀ q ∈ lw_privs_1, lw_okq q := List.forall_mem_cons.mpr ⟨lw_p0, List.forall_mem_cons.mpr ⟨lw_p1, List.forall_mem_cons.mpr ⟨lw_p2, List.forall_mem_cons.mpr ⟨lw_p3, List.forall_mem_cons.mpr ⟨lw_p4, List.forall_mem_cons.mpr ⟨lw_p5, List.forall_mem_cons.mpr ⟨lw_p6, List.forall_mem_cons.mpr ⟨lw_p7, List.forall_mem_cons.mpr ⟨lw_p8, List.forall_mem_cons.mpr ⟨lw_p9, List.forall_mem_cons.mpr ⟨lw_p10, List.forall_mem_cons.mpr ⟨lw_p11, List.forall_mem_cons.mpr ⟨lw_p12, List.forall_mem_cons.mpr ⟨lw_p13, List.forall_mem_cons.mpr ⟨lw_p14, List.forall_mem_cons.mpr ⟨lw_p15, fun _ h => absurd h List.not_mem_nil⟩⟩⟩⟩⟩⟩⟩⟩⟩⟩⟩⟩⟩⟩⟩⟩
theorem lw_p16 : lw_okq (⟨"PairVm$Machine", "combine", "(LPairVm$Frame;LPairVm$Step;)V"⟩, 7) := ⟨⟨by decide +kernel, by decide +kernel⟩, List.mem_of_getElem? (i := 74) (by decide +kernel), List.mem_of_getElem? (i := 809) (by decide +kernel), List.mem_of_getElem? (i := 810) (by decide +kernel)⟩
theorem lw_p17 : lw_okq (⟨"PairVm$Machine", "stop", "(I)V"⟩, 7) := ⟨⟨by decide +kernel, by decide +kernel⟩, List.mem_of_getElem? (i := 74) (by decide +kernel), List.mem_of_getElem? (i := 816) (by decide +kernel), List.mem_of_getElem? (i := 817) (by decide +kernel)⟩
theorem lw_p18 : lw_okq (⟨"PairVm$Machine", "enter", "(LPairVm$Method;LPairVm$Frame;LPairVm$Step;)V"⟩, 7) := ⟨⟨by decide +kernel, by decide +kernel⟩, List.mem_of_getElem? (i := 74) (by decide +kernel), List.mem_of_getElem? (i := 852) (by decide +kernel), List.mem_of_getElem? (i := 853) (by decide +kernel)⟩
theorem lw_p19 : lw_okq (⟨"PairVmModel", "readFile", "()V"⟩, 36) := ⟨⟨by decide +kernel, by decide +kernel⟩, List.mem_of_getElem? (i := 892) (by decide +kernel), List.mem_of_getElem? (i := 1019) (by decide +kernel), List.mem_of_getElem? (i := 1020) (by decide +kernel)⟩
theorem lw_p20 : lw_okq (⟨"PairVmModel", "next", "(II)I"⟩, 36) := ⟨⟨by decide +kernel, by decide +kernel⟩, List.mem_of_getElem? (i := 892) (by decide +kernel), List.mem_of_getElem? (i := 1023) (by decide +kernel), List.mem_of_getElem? (i := 1024) (by decide +kernel)⟩
theorem lw_p21 : lw_okq (⟨"PairVmModel", "readMethod", "(I)V"⟩, 36) := ⟨⟨by decide +kernel, by decide +kernel⟩, List.mem_of_getElem? (i := 892) (by decide +kernel), List.mem_of_getElem? (i := 1027) (by decide +kernel), List.mem_of_getElem? (i := 1028) (by decide +kernel)⟩
theorem lw_p22 : lw_okq (⟨"PairVmModel", "paramWords", "(I)I"⟩, 36) := ⟨⟨by decide +kernel, by decide +kernel⟩, List.mem_of_getElem? (i := 892) (by decide +kernel), List.mem_of_getElem? (i := 1031) (by decide +kernel), List.mem_of_getElem? (i := 1032) (by decide +kernel)⟩
theorem lw_p23 : lw_okq (⟨"PairVmModel", "checkOf", "(I)J"⟩, 36) := ⟨⟨by decide +kernel, by decide +kernel⟩, List.mem_of_getElem? (i := 892) (by decide +kernel), List.mem_of_getElem? (i := 1038) (by decide +kernel), List.mem_of_getElem? (i := 1039) (by decide +kernel)⟩
theorem lw_p24 : lw_okq (⟨"PairVmModel", "fail", "(I)I"⟩, 36) := ⟨⟨by decide +kernel, by decide +kernel⟩, List.mem_of_getElem? (i := 892) (by decide +kernel), List.mem_of_getElem? (i := 1044) (by decide +kernel), List.mem_of_getElem? (i := 1045) (by decide +kernel)⟩
theorem lw_p25 : lw_okq (⟨"PairVmModel", "keepFile", "()V"⟩, 36) := ⟨⟨by decide +kernel, by decide +kernel⟩, List.mem_of_getElem? (i := 892) (by decide +kernel), List.mem_of_getElem? (i := 1048) (by decide +kernel), List.mem_of_getElem? (i := 1049) (by decide +kernel)⟩
theorem lw_p26 : lw_okq (⟨"PairVmModel", "verifyMethod", "(I)V"⟩, 36) := ⟨⟨by decide +kernel, by decide +kernel⟩, List.mem_of_getElem? (i := 892) (by decide +kernel), List.mem_of_getElem? (i := 1052) (by decide +kernel), List.mem_of_getElem? (i := 1053) (by decide +kernel)⟩
theorem lw_p27 : lw_okq (⟨"PairVmModel", "findBeginnings", "(I)V"⟩, 36) := ⟨⟨by decide +kernel, by decide +kernel⟩, List.mem_of_getElem? (i := 892) (by decide +kernel), List.mem_of_getElem? (i := 1056) (by decide +kernel), List.mem_of_getElem? (i := 1057) (by decide +kernel)⟩
theorem lw_p28 : lw_okq (⟨"PairVmModel", "op", "(II)I"⟩, 36) := ⟨⟨by decide +kernel, by decide +kernel⟩, List.mem_of_getElem? (i := 892) (by decide +kernel), List.mem_of_getElem? (i := 1060) (by decide +kernel), List.mem_of_getElem? (i := 1061) (by decide +kernel)⟩
theorem lw_p29 : lw_okq (⟨"PairVmModel", "unit", "(II)I"⟩, 36) := ⟨⟨by decide +kernel, by decide +kernel⟩, List.mem_of_getElem? (i := 892) (by decide +kernel), List.mem_of_getElem? (i := 1064) (by decide +kernel), List.mem_of_getElem? (i := 1065) (by decide +kernel)⟩
theorem lw_p30 : lw_okq (⟨"PairVmModel", "firstIllFormed", "(I)I"⟩, 36) := ⟨⟨by decide +kernel, by decide +kernel⟩, List.mem_of_getElem? (i := 892) (by decide +kernel), List.mem_of_getElem? (i := 1080) (by decide +kernel), List.mem_of_getElem? (i := 1081) (by decide +kernel)⟩
theorem lw_p31 : lw_okq (⟨"PairVmModel", "namesGood", "(II)Z"⟩, 36) := ⟨⟨by decide +kernel, by decide +kernel⟩, List.mem_of_getElem? (i := 892) (by decide +kernel), List.mem_of_getElem? (i := 1084) (by decide +kernel), List.mem_of_getElem? (i := 1085) (by decide +kernel)⟩
def lw_privs_2 : List (MethodName × Nat) := [(⟨"PairVm$Machine", "combine", "(LPairVm$Frame;LPairVm$Step;)V"⟩, 7), (⟨"PairVm$Machine", "stop", "(I)V"⟩, 7), (⟨"PairVm$Machine", "enter", "(LPairVm$Method;LPairVm$Frame;LPairVm$Step;)V"⟩, 7), (⟨"PairVmModel", "readFile", "()V"⟩, 36), (⟨"PairVmModel", "next", "(II)I"⟩, 36), (⟨"PairVmModel", "readMethod", "(I)V"⟩, 36), (⟨"PairVmModel", "paramWords", "(I)I"⟩, 36), (⟨"PairVmModel", "checkOf", "(I)J"⟩, 36), (⟨"PairVmModel", "fail", "(I)I"⟩, 36), (⟨"PairVmModel", "keepFile", "()V"⟩, 36), (⟨"PairVmModel", "verifyMethod", "(I)V"⟩, 36), (⟨"PairVmModel", "findBeginnings", "(I)V"⟩, 36), (⟨"PairVmModel", "op", "(II)I"⟩, 36), (⟨"PairVmModel", "unit", "(II)I"⟩, 36), (⟨"PairVmModel", "firstIllFormed", "(I)I"⟩, 36), (⟨"PairVmModel", "namesGood", "(II)Z"⟩, 36)]
theorem lw_r2 : ∀ q ∈ lw_privs_2, lw_okq q := List.forall_mem_cons.mpr ⟨lw_p16, List.forall_mem_cons.mpr ⟨lw_p17, List.forall_mem_cons.mpr ⟨lw_p18, List.forall_mem_cons.mpr ⟨lw_p19, List.forall_mem_cons.mpr ⟨lw_p20, List.forall_mem_cons.mpr ⟨lw_p21, List.forall_mem_cons.mpr ⟨lw_p22, List.forall_mem_cons.mpr ⟨lw_p23, List.forall_mem_cons.mpr ⟨lw_p24, List.forall_mem_cons.mpr ⟨lw_p25, List.forall_mem_cons.mpr ⟨lw_p26, List.forall_mem_cons.mpr ⟨lw_p27, List.forall_mem_cons.mpr ⟨lw_p28, List.forall_mem_cons.mpr ⟨lw_p29, List.forall_mem_cons.mpr ⟨lw_p30, List.forall_mem_cons.mpr ⟨lw_p31, fun _ h => absurd h List.not_mem_nil⟩⟩⟩⟩⟩⟩⟩⟩⟩⟩⟩⟩⟩⟩⟩⟩
theorem lw_p32 : lw_okq (⟨"PairVmModel", "regA", "(II)I"⟩, 36) := ⟨⟨by decide +kernel, by decide +kernel⟩, List.mem_of_getElem? (i := 892) (by decide +kernel), List.mem_of_getElem? (i := 1088) (by decide +kernel), List.mem_of_getElem? (i := 1089) (by decide +kernel)⟩
theorem lw_p33 : lw_okq (⟨"PairVmModel", "has", "(III)Z"⟩, 36) := ⟨⟨by decide +kernel, by decide +kernel⟩, List.mem_of_getElem? (i := 892) (by decide +kernel), List.mem_of_getElem? (i := 1095) (by decide +kernel), List.mem_of_getElem? (i := 1096) (by decide +kernel)⟩
theorem lw_p34 : lw_okq (⟨"PairVmModel", "regB", "(II)I"⟩, 36) := ⟨⟨by decide +kernel, by decide +kernel⟩, List.mem_of_getElem? (i := 892) (by decide +kernel), List.mem_of_getElem? (i := 1099) (by decide +kernel), List.mem_of_getElem? (i := 1100) (by decide +kernel)⟩
theorem lw_p35 : lw_okq (⟨"PairVmModel", "regAA", "(II)I"⟩, 36) := ⟨⟨by decide +kernel, by decide +kernel⟩, List.mem_of_getElem? (i := 892) (by decide +kernel), List.mem_of_getElem? (i := 1109) (by decide +kernel), List.mem_of_getElem? (i := 1110) (by decide +kernel)⟩
theorem lw_p36 : lw_okq (⟨"PairVmModel", "regC", "(II)I"⟩, 36) := ⟨⟨by decide +kernel, by decide +kernel⟩, List.mem_of_getElem? (i := 892) (by decide +kernel), List.mem_of_getElem? (i := 1113) (by decide +kernel), List.mem_of_getElem? (i := 1114) (by decide +kernel)⟩
theorem lw_p37 : lw_okq (⟨"PairVmModel", "regD", "(II)I"⟩, 36) := ⟨⟨by decide +kernel, by decide +kernel⟩, List.mem_of_getElem? (i := 892) (by decide +kernel), List.mem_of_getElem? (i := 1117) (by decide +kernel), List.mem_of_getElem? (i := 1118) (by decide +kernel)⟩
theorem lw_p38 : lw_okq (⟨"PairVmModel", "number", "(II)I"⟩, 36) := ⟨⟨by decide +kernel, by decide +kernel⟩, List.mem_of_getElem? (i := 892) (by decide +kernel), List.mem_of_getElem? (i := 1124) (by decide +kernel), List.mem_of_getElem? (i := 1125) (by decide +kernel)⟩
theorem lw_p39 : lw_okq (⟨"PairVmModel", "argumentsThere", "(II)Z"⟩, 36) := ⟨⟨by decide +kernel, by decide +kernel⟩, List.mem_of_getElem? (i := 892) (by decide +kernel), List.mem_of_getElem? (i := 1129) (by decide +kernel), List.mem_of_getElem? (i := 1130) (by decide +kernel)⟩
theorem lw_p40 : lw_okq (⟨"PairVmModel", "argument", "(III)I"⟩, 36) := ⟨⟨by decide +kernel, by decide +kernel⟩, List.mem_of_getElem? (i := 892) (by decide +kernel), List.mem_of_getElem? (i := 1133) (by decide +kernel), List.mem_of_getElem? (i := 1134) (by decide +kernel)⟩
theorem lw_p41 : lw_okq (⟨"PairVmModel", "kindGood", "(III)Z"⟩, 36) := ⟨⟨by decide +kernel, by decide +kernel⟩, List.mem_of_getElem? (i := 892) (by decide +kernel), List.mem_of_getElem? (i := 1137) (by decide +kernel), List.mem_of_getElem? (i := 1138) (by decide +kernel)⟩
theorem lw_p42 : lw_okq (⟨"PairVmModel", "isResult", "(II)Z"⟩, 36) := ⟨⟨by decide +kernel, by decide +kernel⟩, List.mem_of_getElem? (i := 892) (by decide +kernel), List.mem_of_getElem? (i := 1141) (by decide +kernel), List.mem_of_getElem? (i := 1142) (by decide +kernel)⟩
theorem lw_p43 : lw_okq (⟨"PairVmModel", "mayGo", "(IIZ)Z"⟩, 36) := ⟨⟨by decide +kernel, by decide +kernel⟩, List.mem_of_getElem? (i := 892) (by decide +kernel), List.mem_of_getElem? (i := 1148) (by decide +kernel), List.mem_of_getElem? (i := 1149) (by decide +kernel)⟩
theorem lw_p44 : lw_okq (⟨"PairVmModel", "target", "(II)I"⟩, 36) := ⟨⟨by decide +kernel, by decide +kernel⟩, List.mem_of_getElem? (i := 892) (by decide +kernel), List.mem_of_getElem? (i := 1155) (by decide +kernel), List.mem_of_getElem? (i := 1156) (by decide +kernel)⟩
theorem lw_p45 : lw_okq (⟨"PairVmModel", "begin", "(I)V"⟩, 36) := ⟨⟨by decide +kernel, by decide +kernel⟩, List.mem_of_getElem? (i := 892) (by decide +kernel), List.mem_of_getElem? (i := 1159) (by decide +kernel), List.mem_of_getElem? (i := 1160) (by decide +kernel)⟩
theorem lw_p46 : lw_okq (⟨"PairVmModel", "set", "(II)V"⟩, 36) := ⟨⟨by decide +kernel, by decide +kernel⟩, List.mem_of_getElem? (i := 892) (by decide +kernel), List.mem_of_getElem? (i := 1163) (by decide +kernel), List.mem_of_getElem? (i := 1164) (by decide +kernel)⟩
theorem lw_p47 : lw_okq (⟨"PairVmModel", "loosen", "(I)V"⟩, 36) := ⟨⟨by decide +kernel, by decide +kernel⟩, List.mem_of_getElem? (i := 892) (by decide +kernel), List.mem_of_getElem? (i := 1167) (by decide +kernel), List.mem_of_getElem? (i := 1168) (by decide +kernel)⟩
def lw_privs_3 : List (MethodName × Nat) := [(⟨"PairVmModel", "regA", "(II)I"⟩, 36), (⟨"PairVmModel", "has", "(III)Z"⟩, 36), (⟨"PairVmModel", "regB", "(II)I"⟩, 36), (⟨"PairVmModel", "regAA", "(II)I"⟩, 36), (⟨"PairVmModel", "regC", "(II)I"⟩, 36), (⟨"PairVmModel", "regD", "(II)I"⟩, 36), (⟨"PairVmModel", "number", "(II)I"⟩, 36), (⟨"PairVmModel", "argumentsThere", "(II)Z"⟩, 36), (⟨"PairVmModel", "argument", "(III)I"⟩, 36), (⟨"PairVmModel", "kindGood", "(III)Z"⟩, 36), (⟨"PairVmModel", "isResult", "(II)Z"⟩, 36), (⟨"PairVmModel", "mayGo", "(IIZ)Z"⟩, 36), (⟨"PairVmModel", "target", "(II)I"⟩, 36), (⟨"PairVmModel", "begin", "(I)V"⟩, 36), (⟨"PairVmModel", "set", "(II)V"⟩, 36), (⟨"PairVmModel", "loosen", "(I)V"⟩, 36)]
theorem lw_r3 : ∀ q ∈ lw_privs_3, lw_okq q := List.forall_mem_cons.mpr ⟨lw_p32, List.forall_mem_cons.mpr ⟨lw_p33, List.forall_mem_cons.mpr ⟨lw_p34, List.forall_mem_cons.mpr ⟨lw_p35, List.forall_mem_cons.mpr ⟨lw_p36, List.forall_mem_cons.mpr ⟨lw_p37, List.forall_mem_cons.mpr ⟨lw_p38, List.forall_mem_cons.mpr ⟨lw_p39, List.forall_mem_cons.mpr ⟨lw_p40, List.forall_mem_cons.mpr ⟨lw_p41, List.forall_mem_cons.mpr ⟨lw_p42, List.forall_mem_cons.mpr ⟨lw_p43, List.forall_mem_cons.mpr ⟨lw_p44, List.forall_mem_cons.mpr ⟨lw_p45, List.forall_mem_cons.mpr ⟨lw_p46, List.forall_mem_cons.mpr ⟨lw_p47, fun _ h => absurd h List.not_mem_nil⟩⟩⟩⟩⟩⟩⟩⟩⟩⟩⟩⟩⟩⟩⟩⟩
theorem lw_p48 : lw_okq (⟨"PairVmModel", "flow", "(II)V"⟩, 36) := ⟨⟨by decide +kernel, by decide +kernel⟩, List.mem_of_getElem? (i := 892) (by decide +kernel), List.mem_of_getElem? (i := 1174) (by decide +kernel), List.mem_of_getElem? (i := 1175) (by decide +kernel)⟩
theorem lw_p49 : lw_okq (⟨"PairVmModel", "step1", "(III)V"⟩, 36) := ⟨⟨by decide +kernel, by decide +kernel⟩, List.mem_of_getElem? (i := 892) (by decide +kernel), List.mem_of_getElem? (i := 1178) (by decide +kernel), List.mem_of_getElem? (i := 1179) (by decide +kernel)⟩
theorem lw_p50 : lw_okq (⟨"PairVmModel", "pass1", "(III)V"⟩, 36) := ⟨⟨by decide +kernel, by decide +kernel⟩, List.mem_of_getElem? (i := 892) (by decide +kernel), List.mem_of_getElem? (i := 1182) (by decide +kernel), List.mem_of_getElem? (i := 1183) (by decide +kernel)⟩
theorem lw_p51 : lw_okq (⟨"PairVmModel", "typeAt", "(III)I"⟩, 36) := ⟨⟨by decide +kernel, by decide +kernel⟩, List.mem_of_getElem? (i := 892) (by decide +kernel), List.mem_of_getElem? (i := 1186) (by decide +kernel), List.mem_of_getElem? (i := 1187) (by decide +kernel)⟩
theorem lw_p52 : lw_okq (⟨"PairVmModel", "is", "(IIII)Z"⟩, 36) := ⟨⟨by decide +kernel, by decide +kernel⟩, List.mem_of_getElem? (i := 892) (by decide +kernel), List.mem_of_getElem? (i := 1190) (by decide +kernel), List.mem_of_getElem? (i := 1191) (by decide +kernel)⟩
theorem lw_p53 : lw_okq (⟨"PairVmModel", "need", "(Z)V"⟩, 36) := ⟨⟨by decide +kernel, by decide +kernel⟩, List.mem_of_getElem? (i := 892) (by decide +kernel), List.mem_of_getElem? (i := 1194) (by decide +kernel), List.mem_of_getElem? (i := 1195) (by decide +kernel)⟩
theorem lw_p54 : lw_okq (⟨"PairVmModel", "passOther", "(III)V"⟩, 36) := ⟨⟨by decide +kernel, by decide +kernel⟩, List.mem_of_getElem? (i := 892) (by decide +kernel), List.mem_of_getElem? (i := 1198) (by decide +kernel), List.mem_of_getElem? (i := 1199) (by decide +kernel)⟩
theorem lw_p55 : lw_okq (⟨"PairVmModel", "useArguments", "(II)V"⟩, 36) := ⟨⟨by decide +kernel, by decide +kernel⟩, List.mem_of_getElem? (i := 892) (by decide +kernel), List.mem_of_getElem? (i := 1202) (by decide +kernel), List.mem_of_getElem? (i := 1203) (by decide +kernel)⟩
theorem lw_p56 : lw_okq (⟨"PairVmModel", "idle", "(I)V"⟩, 36) := ⟨⟨by decide +kernel, by decide +kernel⟩, List.mem_of_getElem? (i := 892) (by decide +kernel), List.mem_of_getElem? (i := 1206) (by decide +kernel), List.mem_of_getElem? (i := 1207) (by decide +kernel)⟩
theorem lw_p57 : lw_okq (⟨"PairVmModel", "isMethod", "(I)Z"⟩, 36) := ⟨⟨by decide +kernel, by decide +kernel⟩, List.mem_of_getElem? (i := 892) (by decide +kernel), List.mem_of_getElem? (i := 1224) (by decide +kernel), List.mem_of_getElem? (i := 1225) (by decide +kernel)⟩
theorem lw_p58 : lw_okq (⟨"PairVmModel", "addArgument", "(IJD)Z"⟩, 36) := ⟨⟨by decide +kernel, by decide +kernel⟩, List.mem_of_getElem? (i := 892) (by decide +kernel), List.mem_of_getElem? (i := 1236) (by decide +kernel), List.mem_of_getElem? (i := 1237) (by decide +kernel)⟩
theorem lw_p59 : lw_okq (⟨"PairVmModel", "enter", "(I)V"⟩, 36) := ⟨⟨by decide +kernel, by decide +kernel⟩, List.mem_of_getElem? (i := 892) (by decide +kernel), List.mem_of_getElem? (i := 1250) (by decide +kernel), List.mem_of_getElem? (i := 1251) (by decide +kernel)⟩
theorem lw_p60 : lw_okq (⟨"PairVmModel", "one", "()I"⟩, 36) := ⟨⟨by decide +kernel, by decide +kernel⟩, List.mem_of_getElem? (i := 892) (by decide +kernel), List.mem_of_getElem? (i := 1258) (by decide +kernel), List.mem_of_getElem? (i := 1259) (by decide +kernel)⟩
theorem lw_p61 : lw_okq (⟨"PairVmModel", "callFrom", "(II)V"⟩, 36) := ⟨⟨by decide +kernel, by decide +kernel⟩, List.mem_of_getElem? (i := 892) (by decide +kernel), List.mem_of_getElem? (i := 1262) (by decide +kernel), List.mem_of_getElem? (i := 1263) (by decide +kernel)⟩
theorem lw_p62 : lw_okq (⟨"PairVmModel", "base", "()I"⟩, 36) := ⟨⟨by decide +kernel, by decide +kernel⟩, List.mem_of_getElem? (i := 892) (by decide +kernel), List.mem_of_getElem? (i := 1266) (by decide +kernel), List.mem_of_getElem? (i := 1267) (by decide +kernel)⟩
theorem lw_p63 : lw_okq (⟨"PairVmModel", "giveBack", "(II)V"⟩, 36) := ⟨⟨by decide +kernel, by decide +kernel⟩, List.mem_of_getElem? (i := 892) (by decide +kernel), List.mem_of_getElem? (i := 1270) (by decide +kernel), List.mem_of_getElem? (i := 1271) (by decide +kernel)⟩
def lw_privs_4 : List (MethodName × Nat) := [(⟨"PairVmModel", "flow", "(II)V"⟩, 36), (⟨"PairVmModel", "step1", "(III)V"⟩, 36), (⟨"PairVmModel", "pass1", "(III)V"⟩, 36), (⟨"PairVmModel", "typeAt", "(III)I"⟩, 36), (⟨"PairVmModel", "is", "(IIII)Z"⟩, 36), (⟨"PairVmModel", "need", "(Z)V"⟩, 36), (⟨"PairVmModel", "passOther", "(III)V"⟩, 36), (⟨"PairVmModel", "useArguments", "(II)V"⟩, 36), (⟨"PairVmModel", "idle", "(I)V"⟩, 36), (⟨"PairVmModel", "isMethod", "(I)Z"⟩, 36), (⟨"PairVmModel", "addArgument", "(IJD)Z"⟩, 36), (⟨"PairVmModel", "enter", "(I)V"⟩, 36), (⟨"PairVmModel", "one", "()I"⟩, 36), (⟨"PairVmModel", "callFrom", "(II)V"⟩, 36), (⟨"PairVmModel", "base", "()I"⟩, 36), (⟨"PairVmModel", "giveBack", "(II)V"⟩, 36)]
theorem lw_r4 : ∀ q ∈ lw_privs_4, lw_okq q := List.forall_mem_cons.mpr ⟨lw_p48, List.forall_mem_cons.mpr ⟨lw_p49, List.forall_mem_cons.mpr ⟨lw_p50, List.forall_mem_cons.mpr ⟨lw_p51, List.forall_mem_cons.mpr ⟨lw_p52, List.forall_mem_cons.mpr ⟨lw_p53, List.forall_mem_cons.mpr ⟨lw_p54, List.forall_mem_cons.mpr ⟨lw_p55, List.forall_mem_cons.mpr ⟨lw_p56, List.forall_mem_cons.mpr ⟨lw_p57, List.forall_mem_cons.mpr ⟨lw_p58, List.forall_mem_cons.mpr ⟨lw_p59, List.forall_mem_cons.mpr ⟨lw_p60, List.forall_mem_cons.mpr ⟨lw_p61, List.forall_mem_cons.mpr ⟨lw_p62, List.forall_mem_cons.mpr ⟨lw_p63, fun _ h => absurd h List.not_mem_nil⟩⟩⟩⟩⟩⟩⟩⟩⟩⟩⟩⟩⟩⟩⟩⟩
theorem lw_p64 : lw_okq (⟨"PairVmModel", "wholeOf", "(I)J"⟩, 36) := ⟨⟨by decide +kernel, by decide +kernel⟩, List.mem_of_getElem? (i := 892) (by decide +kernel), List.mem_of_getElem? (i := 1274) (by decide +kernel), List.mem_of_getElem? (i := 1275) (by decide +kernel)⟩
theorem lw_p65 : lw_okq (⟨"PairVmModel", "realOf", "(I)D"⟩, 36) := ⟨⟨by decide +kernel, by decide +kernel⟩, List.mem_of_getElem? (i := 892) (by decide +kernel), List.mem_of_getElem? (i := 1278) (by decide +kernel), List.mem_of_getElem? (i := 1279) (by decide +kernel)⟩
theorem lw_p66 : lw_okq (⟨"PairVmModel", "join", "(IIII)Z"⟩, 36) := ⟨⟨by decide +kernel, by decide +kernel⟩, List.mem_of_getElem? (i := 892) (by decide +kernel), List.mem_of_getElem? (i := 1282) (by decide +kernel), List.mem_of_getElem? (i := 1283) (by decide +kernel)⟩
theorem lw_p67 : lw_okq (⟨"PairVmModel", "setWhole", "(IJ)V"⟩, 36) := ⟨⟨by decide +kernel, by decide +kernel⟩, List.mem_of_getElem? (i := 892) (by decide +kernel), List.mem_of_getElem? (i := 1292) (by decide +kernel), List.mem_of_getElem? (i := 1293) (by decide +kernel)⟩
theorem lw_p68 : lw_okq (⟨"PairVmModel", "setReal", "(ID)V"⟩, 36) := ⟨⟨by decide +kernel, by decide +kernel⟩, List.mem_of_getElem? (i := 892) (by decide +kernel), List.mem_of_getElem? (i := 1304) (by decide +kernel), List.mem_of_getElem? (i := 1305) (by decide +kernel)⟩
theorem lw_p69 : lw_okq (⟨"PairVmModel", "convert", "(III)V"⟩, 36) := ⟨⟨by decide +kernel, by decide +kernel⟩, List.mem_of_getElem? (i := 892) (by decide +kernel), List.mem_of_getElem? (i := 1314) (by decide +kernel), List.mem_of_getElem? (i := 1315) (by decide +kernel)⟩
theorem lw_p70 : lw_okq (⟨"PairVmModel", "compare", "(IIII)V"⟩, 36) := ⟨⟨by decide +kernel, by decide +kernel⟩, List.mem_of_getElem? (i := 892) (by decide +kernel), List.mem_of_getElem? (i := 1318) (by decide +kernel), List.mem_of_getElem? (i := 1319) (by decide +kernel)⟩
theorem lw_p71 : lw_okq (⟨"PairVmModel", "simple", "(III)V"⟩, 36) := ⟨⟨by decide +kernel, by decide +kernel⟩, List.mem_of_getElem? (i := 892) (by decide +kernel), List.mem_of_getElem? (i := 1322) (by decide +kernel), List.mem_of_getElem? (i := 1323) (by decide +kernel)⟩
theorem lw_p72 : lw_okq (⟨"PairVmModel", "copy", "(II)V"⟩, 36) := ⟨⟨by decide +kernel, by decide +kernel⟩, List.mem_of_getElem? (i := 892) (by decide +kernel), List.mem_of_getElem? (i := 1326) (by decide +kernel), List.mem_of_getElem? (i := 1327) (by decide +kernel)⟩
def lw_privs_5 : List (MethodName × Nat) := [(⟨"PairVmModel", "wholeOf", "(I)J"⟩, 36), (⟨"PairVmModel", "realOf", "(I)D"⟩, 36), (⟨"PairVmModel", "join", "(IIII)Z"⟩, 36), (⟨"PairVmModel", "setWhole", "(IJ)V"⟩, 36), (⟨"PairVmModel", "setReal", "(ID)V"⟩, 36), (⟨"PairVmModel", "convert", "(III)V"⟩, 36), (⟨"PairVmModel", "compare", "(IIII)V"⟩, 36), (⟨"PairVmModel", "simple", "(III)V"⟩, 36), (⟨"PairVmModel", "copy", "(II)V"⟩, 36)]
theorem lw_r5 : ∀ q ∈ lw_privs_5, lw_okq q := List.forall_mem_cons.mpr ⟨lw_p64, List.forall_mem_cons.mpr ⟨lw_p65, List.forall_mem_cons.mpr ⟨lw_p66, List.forall_mem_cons.mpr ⟨lw_p67, List.forall_mem_cons.mpr ⟨lw_p68, List.forall_mem_cons.mpr ⟨lw_p69, List.forall_mem_cons.mpr ⟨lw_p70, List.forall_mem_cons.mpr ⟨lw_p71, List.forall_mem_cons.mpr ⟨lw_p72, fun _ h => absurd h List.not_mem_nil⟩⟩⟩⟩⟩⟩⟩⟩⟩
def lw_privs : List (MethodName × Nat) := lw_privs_1 ++ (lw_privs_2 ++ (lw_privs_3 ++ (lw_privs_4 ++ (lw_privs_5))))
def lw_tbl : List Cond := k2_sels lw_privs ++ tables_1
theorem lw_privs_ok : ∀ q ∈ lw_privs, lw_okq q := by
  show ∀ q ∈ lw_privs_1 ++ (lw_privs_2 ++ (lw_privs_3 ++ (lw_privs_4 ++ (lw_privs_5)))), lw_okq q
  exact List.forall_mem_append.mpr ⟨lw_r1, List.forall_mem_append.mpr ⟨lw_r2, List.forall_mem_append.mpr ⟨lw_r3, List.forall_mem_append.mpr ⟨lw_r4, lw_r5⟩⟩⟩⟩

/-! names, by program -/
def al_W : List Cond := lw_tbl.filter goodWord
theorem al_in {w : Cond} (i : Nat) (h : lw_tbl[i]? = some w) (g : goodWord w = true) : w ∈ al_W := List.mem_filter.mpr ⟨List.mem_of_getElem? h, g⟩
theorem al_good : ∀ w ∈ al_W, goodWord w = true := fun w h => (List.mem_filter.mp h).2
def rn_V : String := "PairVm"
def ft_V : u_T := fun k => match k with
  | 0 => ("PairVm", "file", "LPairVm$FileBytes;", true)
  | 1 => ("PairVm", "arguments", "LPairVm$Arguments;", true)
  | 2 => ("PairVm", "machine", "LPairVm$Machine;", true)
  | 3 => ("PairVm", "program", "LPairVm$Program;", false)
  | 4 => ("PairVm", "spare", "LPairVm$Program;", false)
  | _ => ("PairVm", "illPlace", "I", false)
def ty_V : Nat → FieldType := fun k => match k with
  | 0 => .object "PairVm$FileBytes"
  | 1 => .object "PairVm$Arguments"
  | 2 => .object "PairVm$Machine"
  | 3 => .object "PairVm$Program"
  | 4 => .object "PairVm$Program"
  | _ => .int
theorem nm_V : ∀ a, a < 6 → ∀ b, b < 6 → a ≠ b → (ft_V a).2.1 ≠ (ft_V b).2.1 := by decide +kernel
theorem tk_V : ∀ k, k < 6 → parseFieldDescriptor (ft_V k).2.2.1 = some (ty_V k) := by decide +kernel
theorem uw_V : ∀ w ∈ u_ws rn_V ft_V 6, w ∈ al_W := by
  intro w hw
  obtain ⟨k, hk, rfl⟩ := List.mem_map.mp hw
  have hk := List.mem_range.mp hk
  exact (show ∀ k, k < 6 → u_lay rn_V ft_V k ∈ al_W from fun k hk => al_in (([391, 393, 395, 397, 399, 401] : List Nat).getD k 0) ((show ∀ k, k < 6 → lw_tbl[([391, 393, 395, 397, 399, 401] : List Nat).getD k 0]? = some (u_lay rn_V ft_V k) by decide +kernel) k hk) ((show ∀ k, k < 6 → goodWord (u_lay rn_V ft_V k) = true by decide +kernel) k hk)) k hk
def rn_Fb : String := "PairVm$FileBytes"
def ft_Fb : u_T := fun k => match k with
  | 0 => ("PairVm$FileBytes", "bytes", "[I", true)
  | 1 => ("PairVm$FileBytes", "length", "I", false)
  | 2 => ("PairVm$FileBytes", "next", "I", false)
  | _ => ("PairVm$FileBytes", "fault", "I", false)
def ty_Fb : Nat → FieldType := fun k => match k with
  | 0 => .array .int
  | 1 => .int
  | 2 => .int
  | _ => .int
theorem nm_Fb : ∀ a, a < 4 → ∀ b, b < 4 → a ≠ b → (ft_Fb a).2.1 ≠ (ft_Fb b).2.1 := by decide +kernel
theorem tk_Fb : ∀ k, k < 4 → parseFieldDescriptor (ft_Fb k).2.2.1 = some (ty_Fb k) := by decide +kernel
theorem uw_Fb : ∀ w ∈ u_ws rn_Fb ft_Fb 4, w ∈ al_W := by
  intro w hw
  obtain ⟨k, hk, rfl⟩ := List.mem_map.mp hw
  have hk := List.mem_range.mp hk
  exact (show ∀ k, k < 4 → u_lay rn_Fb ft_Fb k ∈ al_W from fun k hk => al_in (([115, 117, 119, 121] : List Nat).getD k 0) ((show ∀ k, k < 4 → lw_tbl[([115, 117, 119, 121] : List Nat).getD k 0]? = some (u_lay rn_Fb ft_Fb k) by decide +kernel) k hk) ((show ∀ k, k < 4 → goodWord (u_lay rn_Fb ft_Fb k) = true by decide +kernel) k hk)) k hk
def rn_Ag : String := "PairVm$Arguments"
def ft_Ag : u_T := fun k => match k with
  | 0 => ("PairVm$Arguments", "types", "[I", true)
  | 1 => ("PairVm$Arguments", "wholes", "[J", true)
  | 2 => ("PairVm$Arguments", "reals", "[D", true)
  | _ => ("PairVm$Arguments", "count", "I", false)
def ty_Ag : Nat → FieldType := fun k => match k with
  | 0 => .array .int
  | 1 => .array .long
  | 2 => .array .double
  | _ => .int
theorem nm_Ag : ∀ a, a < 4 → ∀ b, b < 4 → a ≠ b → (ft_Ag a).2.1 ≠ (ft_Ag b).2.1 := by decide +kernel
theorem tk_Ag : ∀ k, k < 4 → parseFieldDescriptor (ft_Ag k).2.2.1 = some (ty_Ag k) := by decide +kernel
theorem uw_Ag : ∀ w ∈ u_ws rn_Ag ft_Ag 4, w ∈ al_W := by
  intro w hw
  obtain ⟨k, hk, rfl⟩ := List.mem_map.mp hw
  have hk := List.mem_range.mp hk
  exact (show ∀ k, k < 4 → u_lay rn_Ag ft_Ag k ∈ al_W from fun k hk => al_in (([135, 137, 139, 141] : List Nat).getD k 0) ((show ∀ k, k < 4 → lw_tbl[([135, 137, 139, 141] : List Nat).getD k 0]? = some (u_lay rn_Ag ft_Ag k) by decide +kernel) k hk) ((show ∀ k, k < 4 → goodWord (u_lay rn_Ag ft_Ag k) = true by decide +kernel) k hk)) k hk
def rn_Mc : String := "PairVm$Machine"
def ft_Mc : u_T := fun k => match k with
  | 0 => ("PairVm$Machine", "frames", "[LPairVm$Frame;", true)
  | 1 => ("PairVm$Machine", "open", "I", false)
  | 2 => ("PairVm$Machine", "condition", "I", false)
  | 3 => ("PairVm$Machine", "trouble", "I", false)
  | 4 => ("PairVm$Machine", "resultType", "I", false)
  | 5 => ("PairVm$Machine", "whole", "J", false)
  | _ => ("PairVm$Machine", "realResult", "D", false)
def ty_Mc : Nat → FieldType := fun k => match k with
  | 0 => .array (.object "PairVm$Frame")
  | 1 => .int
  | 2 => .int
  | 3 => .int
  | 4 => .int
  | 5 => .long
  | _ => .double
theorem nm_Mc : ∀ a, a < 7 → ∀ b, b < 7 → a ≠ b → (ft_Mc a).2.1 ≠ (ft_Mc b).2.1 := by decide +kernel
theorem tk_Mc : ∀ k, k < 7 → parseFieldDescriptor (ft_Mc k).2.2.1 = some (ty_Mc k) := by decide +kernel
theorem uw_Mc : ∀ w ∈ u_ws rn_Mc ft_Mc 7, w ∈ al_W := by
  intro w hw
  obtain ⟨k, hk, rfl⟩ := List.mem_map.mp hw
  have hk := List.mem_range.mp hk
  exact (show ∀ k, k < 7 → u_lay rn_Mc ft_Mc k ∈ al_W from fun k hk => al_in (([184, 186, 188, 190, 192, 194, 196] : List Nat).getD k 0) ((show ∀ k, k < 7 → lw_tbl[([184, 186, 188, 190, 192, 194, 196] : List Nat).getD k 0]? = some (u_lay rn_Mc ft_Mc k) by decide +kernel) k hk) ((show ∀ k, k < 7 → goodWord (u_lay rn_Mc ft_Mc k) = true by decide +kernel) k hk)) k hk
def rn_Fr : String := "PairVm$Frame"
def ft_Fr : u_T := fun k => match k with
  | 0 => ("PairVm$Frame", "wholes", "[J", true)
  | 1 => ("PairVm$Frame", "reals", "[D", true)
  | 2 => ("PairVm$Frame", "method", "LPairVm$Method;", false)
  | _ => ("PairVm$Frame", "unit", "I", false)
def ty_Fr : Nat → FieldType := fun k => match k with
  | 0 => .array .long
  | 1 => .array .double
  | 2 => .object "PairVm$Method"
  | _ => .int
theorem nm_Fr : ∀ a, a < 4 → ∀ b, b < 4 → a ≠ b → (ft_Fr a).2.1 ≠ (ft_Fr b).2.1 := by decide +kernel
theorem tk_Fr : ∀ k, k < 4 → parseFieldDescriptor (ft_Fr k).2.2.1 = some (ty_Fr k) := by decide +kernel
theorem uw_Fr : ∀ w ∈ u_ws rn_Fr ft_Fr 4, w ∈ al_W := by
  intro w hw
  obtain ⟨k, hk, rfl⟩ := List.mem_map.mp hw
  have hk := List.mem_range.mp hk
  exact (show ∀ k, k < 4 → u_lay rn_Fr ft_Fr k ∈ al_W from fun k hk => al_in (([164, 166, 168, 170] : List Nat).getD k 0) ((show ∀ k, k < 4 → lw_tbl[([164, 166, 168, 170] : List Nat).getD k 0]? = some (u_lay rn_Fr ft_Fr k) by decide +kernel) k hk) ((show ∀ k, k < 4 → goodWord (u_lay rn_Fr ft_Fr k) = true by decide +kernel) k hk)) k hk
def rn_Pg : String := "PairVm$Program"
def ft_Pg : u_T := fun k => match k with
  | 0 => ("PairVm$Program", "methods", "[LPairVm$Method;", true)
  | 1 => ("PairVm$Program", "fields", "[I", true)
  | 2 => ("PairVm$Program", "flow", "LPairVm$Flow;", true)
  | 3 => ("PairVm$Program", "methodCount", "I", false)
  | 4 => ("PairVm$Program", "fieldCount", "I", false)
  | _ => ("PairVm$Program", "fit", "Z", false)
def ty_Pg : Nat → FieldType := fun k => match k with
  | 0 => .array (.object "PairVm$Method")
  | 1 => .array .int
  | 2 => .object "PairVm$Flow"
  | 3 => .int
  | 4 => .int
  | _ => .boolean
theorem nm_Pg : ∀ a, a < 6 → ∀ b, b < 6 → a ≠ b → (ft_Pg a).2.1 ≠ (ft_Pg b).2.1 := by decide +kernel
theorem tk_Pg : ∀ k, k < 6 → parseFieldDescriptor (ft_Pg k).2.2.1 = some (ty_Pg k) := by decide +kernel
theorem uw_Pg : ∀ w ∈ u_ws rn_Pg ft_Pg 6, w ∈ al_W := by
  intro w hw
  obtain ⟨k, hk, rfl⟩ := List.mem_map.mp hw
  have hk := List.mem_range.mp hk
  exact (show ∀ k, k < 6 → u_lay rn_Pg ft_Pg k ∈ al_W from fun k hk => al_in (([372, 374, 376, 378, 380, 382] : List Nat).getD k 0) ((show ∀ k, k < 6 → lw_tbl[([372, 374, 376, 378, 380, 382] : List Nat).getD k 0]? = some (u_lay rn_Pg ft_Pg k) by decide +kernel) k hk) ((show ∀ k, k < 6 → goodWord (u_lay rn_Pg ft_Pg k) = true by decide +kernel) k hk)) k hk
def rn_Fl : String := "PairVm$Flow"
def ft_Fl : u_T := fun k => match k with
  | 0 => ("PairVm$Flow", "after", "[I", true)
  | _ => ("PairVm$Flow", "changed", "Z", false)
def ty_Fl : Nat → FieldType := fun k => match k with
  | 0 => .array .int
  | _ => .boolean
theorem nm_Fl : ∀ a, a < 2 → ∀ b, b < 2 → a ≠ b → (ft_Fl a).2.1 ≠ (ft_Fl b).2.1 := by decide +kernel
theorem tk_Fl : ∀ k, k < 2 → parseFieldDescriptor (ft_Fl k).2.2.1 = some (ty_Fl k) := by decide +kernel
theorem uw_Fl : ∀ w ∈ u_ws rn_Fl ft_Fl 2, w ∈ al_W := by
  intro w hw
  obtain ⟨k, hk, rfl⟩ := List.mem_map.mp hw
  have hk := List.mem_range.mp hk
  exact (show ∀ k, k < 2 → u_lay rn_Fl ft_Fl k ∈ al_W from fun k hk => al_in (([215, 217] : List Nat).getD k 0) ((show ∀ k, k < 2 → lw_tbl[([215, 217] : List Nat).getD k 0]? = some (u_lay rn_Fl ft_Fl k) by decide +kernel) k hk) ((show ∀ k, k < 2 → goodWord (u_lay rn_Fl ft_Fl k) = true by decide +kernel) k hk)) k hk
def rn_Me : String := "PairVm$Method"
def ft_Me : u_T := fun k => match k with
  | 0 => ("PairVm$Method", "parameters", "[I", true)
  | 1 => ("PairVm$Method", "units", "[I", true)
  | 2 => ("PairVm$Method", "steps", "[LPairVm$Step;", true)
  | 3 => ("PairVm$Method", "begins", "[Z", true)
  | 4 => ("PairVm$Method", "returns", "I", false)
  | 5 => ("PairVm$Method", "parameterCount", "I", false)
  | 6 => ("PairVm$Method", "words", "I", false)
  | 7 => ("PairVm$Method", "registers", "I", false)
  | 8 => ("PairVm$Method", "unitCount", "I", false)
  | 9 => ("PairVm$Method", "formed", "Z", false)
  | _ => ("PairVm$Method", "verdict", "I", false)
def ty_Me : Nat → FieldType := fun k => match k with
  | 0 => .array .int
  | 1 => .array .int
  | 2 => .array (.object "PairVm$Step")
  | 3 => .array .boolean
  | 4 => .int
  | 5 => .int
  | 6 => .int
  | 7 => .int
  | 8 => .int
  | 9 => .boolean
  | _ => .int
theorem nm_Me : ∀ a, a < 11 → ∀ b, b < 11 → a ≠ b → (ft_Me a).2.1 ≠ (ft_Me b).2.1 := by decide +kernel
theorem tk_Me : ∀ k, k < 11 → parseFieldDescriptor (ft_Me k).2.2.1 = some (ty_Me k) := by decide +kernel
theorem uw_Me : ∀ w ∈ u_ws rn_Me ft_Me 11, w ∈ al_W := by
  intro w hw
  obtain ⟨k, hk, rfl⟩ := List.mem_map.mp hw
  have hk := List.mem_range.mp hk
  exact (show ∀ k, k < 11 → u_lay rn_Me ft_Me k ∈ al_W from fun k hk => al_in (([341, 343, 345, 347, 349, 351, 353, 355, 357, 359, 361] : List Nat).getD k 0) ((show ∀ k, k < 11 → lw_tbl[([341, 343, 345, 347, 349, 351, 353, 355, 357, 359, 361] : List Nat).getD k 0]? = some (u_lay rn_Me ft_Me k) by decide +kernel) k hk) ((show ∀ k, k < 11 → goodWord (u_lay rn_Me ft_Me k) = true by decide +kernel) k hk)) k hk
def rn_St : String := "PairVm$Step"
def ft_St : u_T := fun k => match k with
  | 0 => ("PairVm$Step", "reached", "Z", false)
  | 1 => ("PairVm$Step", "types", "[I", true)
  | 2 => ("PairVm$Step", "operation", "I", false)
  | 3 => ("PairVm$Step", "kind", "I", false)
  | 4 => ("PairVm$Step", "length", "I", false)
  | 5 => ("PairVm$Step", "complete", "Z", false)
  | 6 => ("PairVm$Step", "before", "I", false)
  | 7 => ("PairVm$Step", "sets", "I", false)
  | 8 => ("PairVm$Step", "uses", "I", false)
  | 9 => ("PairVm$Step", "result", "I", false)
  | 10 => ("PairVm$Step", "first", "I", false)
  | 11 => ("PairVm$Step", "second", "I", false)
  | 12 => ("PairVm$Step", "number", "I", false)
  | 13 => ("PairVm$Step", "namedCount", "I", false)
  | _ => ("PairVm$Step", "names", "I", false)
def ty_St : Nat → FieldType := fun k => match k with
  | 0 => .boolean
  | 1 => .array .int
  | 2 => .int
  | 3 => .int
  | 4 => .int
  | 5 => .boolean
  | 6 => .int
  | 7 => .int
  | 8 => .int
  | 9 => .int
  | 10 => .int
  | 11 => .int
  | 12 => .int
  | 13 => .int
  | _ => .int
theorem nm_St : ∀ a, a < 15 → ∀ b, b < 15 → a ≠ b → (ft_St a).2.1 ≠ (ft_St b).2.1 := by decide +kernel
theorem tk_St : ∀ k, k < 15 → parseFieldDescriptor (ft_St k).2.2.1 = some (ty_St k) := by decide +kernel
theorem uw_St : ∀ w ∈ u_ws rn_St ft_St 15, w ∈ al_W := by
  intro w hw
  obtain ⟨k, hk, rfl⟩ := List.mem_map.mp hw
  have hk := List.mem_range.mp hk
  exact (show ∀ k, k < 15 → u_lay rn_St ft_St k ∈ al_W from fun k hk => al_in (([284, 286, 288, 290, 292, 294, 296, 298, 300, 302, 304, 306, 308, 310, 312] : List Nat).getD k 0) ((show ∀ k, k < 15 → lw_tbl[([284, 286, 288, 290, 292, 294, 296, 298, 300, 302, 304, 306, 308, 310, 312] : List Nat).getD k 0]? = some (u_lay rn_St ft_St k) by decide +kernel) k hk) ((show ∀ k, k < 15 → goodWord (u_lay rn_St ft_St k) = true by decide +kernel) k hk)) k hk
def rn_Mo : String := "PairVmModel"
def ft_Mo : u_T := fun k => match k with
  | 0 => ("PairVmModel", "code", "I", false)
  | 1 => ("PairVmModel", "size", "I", false)
  | 2 => ("PairVmModel", "bytes", "[I", true)
  | 3 => ("PairVmModel", "pos", "I", false)
  | 4 => ("PairVmModel", "illAt", "I", false)
  | 5 => ("PairVmModel", "ill", "Z", false)
  | 6 => ("PairVmModel", "methods", "[I", true)
  | 7 => ("PairVmModel", "fields", "[I", true)
  | 8 => ("PairVmModel", "returns", "[I", true)
  | 9 => ("PairVmModel", "params", "[I", true)
  | 10 => ("PairVmModel", "param", "[I", true)
  | 11 => ("PairVmModel", "registers", "[I", true)
  | 12 => ("PairVmModel", "units", "[I", true)
  | 13 => ("PairVmModel", "code0", "[I", true)
  | 14 => ("PairVmModel", "badForm", "[I", true)
  | 15 => ("PairVmModel", "badType", "[I", true)
  | 16 => ("PairVmModel", "begins", "[Z", true)
  | 17 => ("PairVmModel", "reached", "[Z", true)
  | 18 => ("PairVmModel", "types", "[I", true)
  | 19 => ("PairVmModel", "now", "[I", true)
  | 20 => ("PairVmModel", "changed", "Z", false)
  | 21 => ("PairVmModel", "wrong", "Z", false)
  | 22 => ("PairVmModel", "args", "I", false)
  | 23 => ("PairVmModel", "argType", "[I", true)
  | 24 => ("PairVmModel", "argWhole", "[J", true)
  | 25 => ("PairVmModel", "argReal", "[D", true)
  | 26 => ("PairVmModel", "state", "I", false)
  | 27 => ("PairVmModel", "depth", "I", false)
  | 28 => ("PairVmModel", "frameMethod", "[I", true)
  | 29 => ("PairVmModel", "framePc", "[I", true)
  | 30 => ("PairVmModel", "whole", "[J", true)
  | 31 => ("PairVmModel", "real", "[D", true)
  | 32 => ("PairVmModel", "outType", "I", false)
  | 33 => ("PairVmModel", "outWhole", "J", false)
  | 34 => ("PairVmModel", "outReal", "D", false)
  | _ => ("PairVmModel", "field", "[I", true)
def ty_Mo : Nat → FieldType := fun k => match k with
  | 0 => .int
  | 1 => .int
  | 2 => .array .int
  | 3 => .int
  | 4 => .int
  | 5 => .boolean
  | 6 => .array .int
  | 7 => .array .int
  | 8 => .array .int
  | 9 => .array .int
  | 10 => .array .int
  | 11 => .array .int
  | 12 => .array .int
  | 13 => .array .int
  | 14 => .array .int
  | 15 => .array .int
  | 16 => .array .boolean
  | 17 => .array .boolean
  | 18 => .array .int
  | 19 => .array .int
  | 20 => .boolean
  | 21 => .boolean
  | 22 => .int
  | 23 => .array .int
  | 24 => .array .long
  | 25 => .array .double
  | 26 => .int
  | 27 => .int
  | 28 => .array .int
  | 29 => .array .int
  | 30 => .array .long
  | 31 => .array .double
  | 32 => .int
  | 33 => .long
  | 34 => .double
  | _ => .array .int
theorem nm_Mo : ∀ a, a < 36 → ∀ b, b < 36 → a ≠ b → (ft_Mo a).2.1 ≠ (ft_Mo b).2.1 := by decide +kernel
theorem tk_Mo : ∀ k, k < 36 → parseFieldDescriptor (ft_Mo k).2.2.1 = some (ty_Mo k) := by decide +kernel
theorem uw_Mo : ∀ w ∈ u_ws rn_Mo ft_Mo 36, w ∈ al_W := by
  intro w hw
  obtain ⟨k, hk, rfl⟩ := List.mem_map.mp hw
  have hk := List.mem_range.mp hk
  exact (show ∀ k, k < 36 → u_lay rn_Mo ft_Mo k ∈ al_W from fun k hk => al_in (([1006, 1008, 1010, 1012, 1014, 1016, 1018, 1020, 1022, 1024, 1026, 1028, 1030, 1032, 1034, 1036, 1038, 1040, 1042, 1044, 1046, 1048, 1050, 1052, 1054, 1056, 1058, 1060, 1062, 1064, 1066, 1068, 1070, 1072, 1074, 1076] : List Nat).getD k 0) ((show ∀ k, k < 36 → lw_tbl[([1006, 1008, 1010, 1012, 1014, 1016, 1018, 1020, 1022, 1024, 1026, 1028, 1030, 1032, 1034, 1036, 1038, 1040, 1042, 1044, 1046, 1048, 1050, 1052, 1054, 1056, 1058, 1060, 1062, 1064, 1066, 1068, 1070, 1072, 1074, 1076] : List Nat).getD k 0]? = some (u_lay rn_Mo ft_Mo k) by decide +kernel) k hk) ((show ∀ k, k < 36 → goodWord (u_lay rn_Mo ft_Mo k) = true by decide +kernel) k hk)) k hk
abbrev cl_all : List vw_C := [(rn_V, ft_V, 6), (rn_Fb, ft_Fb, 4), (rn_Ag, ft_Ag, 4), (rn_Mc, ft_Mc, 7), (rn_Fr, ft_Fr, 4), (rn_Pg, ft_Pg, 6), (rn_Fl, ft_Fl, 2), (rn_Me, ft_Me, 11), (rn_St, ft_St, 15), (rn_Mo, ft_Mo, 36)]
def yn_V_init : MethodName := ⟨"PairVm", "<init>", "()V"⟩
def yn_Fb_init : MethodName := ⟨"PairVm$FileBytes", "<init>", "()V"⟩
def yn_Ag_init : MethodName := ⟨"PairVm$Arguments", "<init>", "()V"⟩
def yn_Mc_init : MethodName := ⟨"PairVm$Machine", "<init>", "()V"⟩
def yn_Fr_init : MethodName := ⟨"PairVm$Frame", "<init>", "()V"⟩
def yn_Pg_init : MethodName := ⟨"PairVm$Program", "<init>", "()V"⟩
def yn_Fl_init : MethodName := ⟨"PairVm$Flow", "<init>", "()V"⟩
def yn_Me_init : MethodName := ⟨"PairVm$Method", "<init>", "()V"⟩
def yn_St_init : MethodName := ⟨"PairVm$Step", "<init>", "()V"⟩
def yn_V_put : MethodName := ⟨"PairVm", "put", "(I)Z"⟩
def yn_Fb_append : MethodName := ⟨"PairVm$FileBytes", "append", "(I)Z"⟩
def yn_V_place : MethodName := ⟨"PairVm", "place", "()I"⟩
def yn_V_verify : MethodName := ⟨"PairVm", "verify", "(I)I"⟩
def yn_Pg_methodAt : MethodName := ⟨"PairVm$Program", "methodAt", "(I)LPairVm$Method;"⟩
def yn_V_type : MethodName := ⟨"PairVm", "type", "(III)I"⟩
def yn_Me_typeBefore : MethodName := ⟨"PairVm$Method", "typeBefore", "(II)I"⟩
def yn_Me_stepAt : MethodName := ⟨"PairVm$Method", "stepAt", "(I)LPairVm$Step;"⟩
def yn_St_typeOf : MethodName := ⟨"PairVm$Step", "typeOf", "(I)I"⟩
def yn_V_pass : MethodName := ⟨"PairVm", "pass", "(IJ)Z"⟩
def yn_Ag_add : MethodName := ⟨"PairVm$Arguments", "add", "(IJD)Z"⟩
def yn_V_passReal : MethodName := ⟨"PairVm", "passReal", "(ID)Z"⟩
def yn_V_state : MethodName := ⟨"PairVm", "state", "()I"⟩
def yn_V_value : MethodName := ⟨"PairVm", "value", "()J"⟩
def yn_Mc_returnedType : MethodName := ⟨"PairVm$Machine", "returnedType", "()I"⟩
def yn_V_isReal : MethodName := ⟨"PairVm", "isReal", "(I)Z"⟩
def yn_Mc_wholeResult : MethodName := ⟨"PairVm$Machine", "wholeResult", "()J"⟩
def yn_V_real : MethodName := ⟨"PairVm", "real", "()D"⟩
def yn_V_calls : MethodName := ⟨"PairVm", "calls", "()I"⟩
def yn_V_at : MethodName := ⟨"PairVm", "at", "(I)I"⟩
def yn_Mc_unitOf : MethodName := ⟨"PairVm$Machine", "unitOf", "(I)I"⟩
def yn_Mc_frameAt : MethodName := ⟨"PairVm$Machine", "frameAt", "(I)LPairVm$Frame;"⟩
def yn_V_field : MethodName := ⟨"PairVm", "field", "(I)I"⟩
def yn_Pg_fieldAt : MethodName := ⟨"PairVm$Program", "fieldAt", "(I)I"⟩
def yn_Pg_hasField : MethodName := ⟨"PairVm$Program", "hasField", "(I)Z"⟩
def yn_Lw_seal : MethodName := ⟨"PairVmLaw", "seal", "(LPairVm;[J)I"⟩
def yn_V_seal : MethodName := ⟨"PairVm", "seal", "()I"⟩
def yn_Fb_putHead : MethodName := ⟨"PairVm$FileBytes", "putHead", "()Z"⟩
def yn_Fb_dueCheck : MethodName := ⟨"PairVm$FileBytes", "dueCheck", "()J"⟩
def yn_V_takeFile : MethodName := ⟨"PairVm", "takeFile", "()I"⟩
def yn_Pg_readFrom : MethodName := ⟨"PairVm$Program", "readFrom", "(LPairVm$FileBytes;)I"⟩
def yn_Fb_takeHead : MethodName := ⟨"PairVm$FileBytes", "takeHead", "()V"⟩
def yn_Fb_take : MethodName := ⟨"PairVm$FileBytes", "take", "(II)I"⟩
def yn_Me_readFrom : MethodName := ⟨"PairVm$Method", "readFrom", "(LPairVm$FileBytes;)V"⟩
def yn_Me_typeTold : MethodName := ⟨"PairVm$Method", "typeTold", "(I)I"⟩
def yn_V_widthOf : MethodName := ⟨"PairVm", "widthOf", "(I)I"⟩
def yn_Fb_takeUnitCount : MethodName := ⟨"PairVm$FileBytes", "takeUnitCount", "()I"⟩
def yn_Fb_takeEnd : MethodName := ⟨"PairVm$FileBytes", "takeEnd", "()V"⟩
def yn_Fb_toldCheck : MethodName := ⟨"PairVm$FileBytes", "toldCheck", "()J"⟩
def yn_Ja_fill : MethodName := ⟨"java/util/Arrays", "fill", "([II)V"⟩
def yn_Fb_clear : MethodName := ⟨"PairVm$FileBytes", "clear", "()V"⟩
def yn_Pg_judge : MethodName := ⟨"PairVm$Program", "judge", "()V"⟩
def yn_Me_layOut : MethodName := ⟨"PairVm$Method", "layOut", "()V"⟩
def yn_Me_unitAt : MethodName := ⟨"PairVm$Method", "unitAt", "(I)I"⟩
def yn_St_decode : MethodName := ⟨"PairVm$Step", "decode", "(III)V"⟩
def yn_St_findOperation : MethodName := ⟨"PairVm$Step", "findOperation", "()V"⟩
def yn_St_lengthOf : MethodName := ⟨"PairVm$Step", "lengthOf", "(I)I"⟩
def yn_Fo_firstFault : MethodName := ⟨"PairVm$Form", "firstFault", "(LPairVm$Program;LPairVm$Method;)I"⟩
def yn_Fo_fits : MethodName := ⟨"PairVm$Form", "fits", "(LPairVm$Program;LPairVm$Method;ILPairVm$Step;)Z"⟩
def yn_Fo_registersAreThere : MethodName := ⟨"PairVm$Form", "registersAreThere", "(LPairVm$Method;LPairVm$Step;)Z"⟩
def yn_Fo_isThere : MethodName := ⟨"PairVm$Form", "isThere", "(LPairVm$Method;II)Z"⟩
def yn_Fo_goesOnRightly : MethodName := ⟨"PairVm$Form", "goesOnRightly", "(LPairVm$Method;ILPairVm$Step;)Z"⟩
def yn_St_goesOnBehind : MethodName := ⟨"PairVm$Step", "goesOnBehind", "()Z"⟩
def yn_St_branches : MethodName := ⟨"PairVm$Step", "branches", "()Z"⟩
def yn_Fo_callFits : MethodName := ⟨"PairVm$Form", "callFits", "(LPairVm$Method;LPairVm$Step;LPairVm$Method;)Z"⟩
def yn_Me_parameterAt : MethodName := ⟨"PairVm$Method", "parameterAt", "(I)I"⟩
def yn_St_named : MethodName := ⟨"PairVm$Step", "named", "(I)I"⟩
def yn_Pg_returnedBefore : MethodName := ⟨"PairVm$Program", "returnedBefore", "(LPairVm$Method;LPairVm$Step;)I"⟩
def yn_Fo_isOfWidth : MethodName := ⟨"PairVm$Form", "isOfWidth", "(II)Z"⟩
def yn_Pg_giveTypes : MethodName := ⟨"PairVm$Program", "giveTypes", "(LPairVm$Method;)V"⟩
def yn_Fl_follow : MethodName := ⟨"PairVm$Flow", "follow", "(LPairVm$Method;)V"⟩
def yn_Fl_begin : MethodName := ⟨"PairVm$Flow", "begin", "(LPairVm$Method;)V"⟩
def yn_Me_firstArgument : MethodName := ⟨"PairVm$Method", "firstArgument", "()I"⟩
def yn_Fl_setTypes : MethodName := ⟨"PairVm$Flow", "setTypes", "(III)V"⟩
def yn_Fl_setOne : MethodName := ⟨"PairVm$Flow", "setOne", "(II)V"⟩
def yn_Fl_join : MethodName := ⟨"PairVm$Flow", "join", "(LPairVm$Step;)V"⟩
def yn_Fl_passOver : MethodName := ⟨"PairVm$Flow", "passOver", "(LPairVm$Step;)V"⟩
def yn_St_has : MethodName := ⟨"PairVm$Step", "has", "(II)Z"⟩
def yn_Fl_firstWrong : MethodName := ⟨"PairVm$Flow", "firstWrong", "(LPairVm$Program;LPairVm$Method;)I"⟩
def yn_Fl_isRight : MethodName := ⟨"PairVm$Flow", "isRight", "(LPairVm$Program;LPairVm$Step;)Z"⟩
def yn_Fl_argumentsAreRight : MethodName := ⟨"PairVm$Flow", "argumentsAreRight", "(LPairVm$Step;LPairVm$Method;)Z"⟩
def yn_Mc_rest : MethodName := ⟨"PairVm$Machine", "rest", "()V"⟩
def yn_Lw_load : MethodName := ⟨"PairVmLaw", "load", "(LPairVm;[J)I"⟩
def yn_V_load : MethodName := ⟨"PairVm", "load", "()I"⟩
def yn_Lw_call : MethodName := ⟨"PairVmLaw", "call", "(LPairVm;I)I"⟩
def yn_V_call : MethodName := ⟨"PairVm", "call", "(I)V"⟩
def yn_V_beginCall : MethodName := ⟨"PairVm", "beginCall", "(I)I"⟩
def yn_Ag_suit : MethodName := ⟨"PairVm$Arguments", "suit", "(LPairVm$Method;)Z"⟩
def yn_Mc_begin : MethodName := ⟨"PairVm$Machine", "begin", "(LPairVm$Method;LPairVm$Arguments;)V"⟩
def yn_Fr_enter : MethodName := ⟨"PairVm$Frame", "enter", "(LPairVm$Method;)V"⟩
def yn_Ag_copyTo : MethodName := ⟨"PairVm$Arguments", "copyTo", "(LPairVm$Frame;LPairVm$Method;)V"⟩
def yn_Fr_set : MethodName := ⟨"PairVm$Frame", "set", "(IJD)V"⟩
def yn_Ag_clear : MethodName := ⟨"PairVm$Arguments", "clear", "()V"⟩
def yn_Lw_run : MethodName := ⟨"PairVmLaw", "run", "(LPairVm;I[J)I"⟩
def yn_V_run : MethodName := ⟨"PairVm", "run", "(I)I"⟩
def yn_Mc_advance : MethodName := ⟨"PairVm$Machine", "advance", "(LPairVm$Program;I)I"⟩
def yn_Fr_nextStep : MethodName := ⟨"PairVm$Frame", "nextStep", "()LPairVm$Step;"⟩
def yn_Mc_perform : MethodName := ⟨"PairVm$Machine", "perform", "(LPairVm$Program;LPairVm$Frame;LPairVm$Step;)V"⟩
def yn_Mc_leave : MethodName := ⟨"PairVm$Machine", "leave", "(LPairVm$Frame;LPairVm$Step;)V"⟩
def yn_Fr_whole : MethodName := ⟨"PairVm$Frame", "whole", "(I)J"⟩
def yn_Fr_realNumber : MethodName := ⟨"PairVm$Frame", "realNumber", "(I)D"⟩
def yn_Mc_convert : MethodName := ⟨"PairVm$Machine", "convert", "(LPairVm$Frame;LPairVm$Step;)V"⟩
def yn_Mc_combine : MethodName := ⟨"PairVm$Machine", "combine", "(LPairVm$Frame;LPairVm$Step;)V"⟩
def yn_Ar_divides : MethodName := ⟨"PairVm$Arithmetic", "divides", "(I)Z"⟩
def yn_Mc_stop : MethodName := ⟨"PairVm$Machine", "stop", "(I)V"⟩
def yn_Jl_compare : MethodName := ⟨"java/lang/Long", "compare", "(JJ)I"⟩
def yn_Ar_compareReals : MethodName := ⟨"PairVm$Arithmetic", "compareReals", "(DD)I"⟩
def yn_Ar_ofInts : MethodName := ⟨"PairVm$Arithmetic", "ofInts", "(III)I"⟩
def yn_Ar_ofLongs : MethodName := ⟨"PairVm$Arithmetic", "ofLongs", "(IJJ)J"⟩
def yn_Ar_ofFloats : MethodName := ⟨"PairVm$Arithmetic", "ofFloats", "(IFF)F"⟩
def yn_Ar_held : MethodName := ⟨"PairVm$Arithmetic", "held", "(D)D"⟩
def yn_Ar_ofDoubles : MethodName := ⟨"PairVm$Arithmetic", "ofDoubles", "(IDD)D"⟩
def yn_Mc_holds : MethodName := ⟨"PairVm$Machine", "holds", "(LPairVm$Frame;LPairVm$Step;)Z"⟩
def yn_Pg_setField : MethodName := ⟨"PairVm$Program", "setField", "(II)V"⟩
def yn_Mc_enter : MethodName := ⟨"PairVm$Machine", "enter", "(LPairVm$Method;LPairVm$Frame;LPairVm$Step;)V"⟩
def yn_Mo_init : MethodName := ⟨"PairVmModel", "<init>", "()V"⟩
def yn_Mo_thrown : MethodName := ⟨"PairVmModel", "thrown", "()I"⟩
def yn_Mo_put : MethodName := ⟨"PairVmModel", "put", "(I)Z"⟩
def yn_Mo_load : MethodName := ⟨"PairVmModel", "load", "()I"⟩
def yn_Mo_readFile : MethodName := ⟨"PairVmModel", "readFile", "()V"⟩
def yn_Mo_next : MethodName := ⟨"PairVmModel", "next", "(II)I"⟩
def yn_Mo_readMethod : MethodName := ⟨"PairVmModel", "readMethod", "(I)V"⟩
def yn_Mo_paramWords : MethodName := ⟨"PairVmModel", "paramWords", "(I)I"⟩
def yn_Mo_words : MethodName := ⟨"PairVmModel", "words", "(I)I"⟩
def yn_Mo_checkOf : MethodName := ⟨"PairVmModel", "checkOf", "(I)J"⟩
def yn_Mo_fail : MethodName := ⟨"PairVmModel", "fail", "(I)I"⟩
def yn_Mo_keepFile : MethodName := ⟨"PairVmModel", "keepFile", "()V"⟩
def yn_Mo_verifyMethod : MethodName := ⟨"PairVmModel", "verifyMethod", "(I)V"⟩
def yn_Mo_findBeginnings : MethodName := ⟨"PairVmModel", "findBeginnings", "(I)V"⟩
def yn_Mo_op : MethodName := ⟨"PairVmModel", "op", "(II)I"⟩
def yn_Mo_unit : MethodName := ⟨"PairVmModel", "unit", "(II)I"⟩
def yn_Mo_sizeOf : MethodName := ⟨"PairVmModel", "sizeOf", "(I)I"⟩
def yn_Mo_converts : MethodName := ⟨"PairVmModel", "converts", "(I)Z"⟩
def yn_Mo_compares : MethodName := ⟨"PairVmModel", "compares", "(I)Z"⟩
def yn_Mo_joins : MethodName := ⟨"PairVmModel", "joins", "(I)Z"⟩
def yn_Mo_firstIllFormed : MethodName := ⟨"PairVmModel", "firstIllFormed", "(I)I"⟩
def yn_Mo_namesGood : MethodName := ⟨"PairVmModel", "namesGood", "(II)Z"⟩
def yn_Mo_regA : MethodName := ⟨"PairVmModel", "regA", "(II)I"⟩
def yn_Mo_gives : MethodName := ⟨"PairVmModel", "gives", "(I)I"⟩
def yn_Mo_has : MethodName := ⟨"PairVmModel", "has", "(III)Z"⟩
def yn_Mo_regB : MethodName := ⟨"PairVmModel", "regB", "(II)I"⟩
def yn_Mo_takes : MethodName := ⟨"PairVmModel", "takes", "(I)I"⟩
def yn_Mo_joined : MethodName := ⟨"PairVmModel", "joined", "(I)I"⟩
def yn_Mo_regAA : MethodName := ⟨"PairVmModel", "regAA", "(II)I"⟩
def yn_Mo_regC : MethodName := ⟨"PairVmModel", "regC", "(II)I"⟩
def yn_Mo_regD : MethodName := ⟨"PairVmModel", "regD", "(II)I"⟩
def yn_Mo_compared : MethodName := ⟨"PairVmModel", "compared", "(I)I"⟩
def yn_Mo_number : MethodName := ⟨"PairVmModel", "number", "(II)I"⟩
def yn_Mo_argumentsThere : MethodName := ⟨"PairVmModel", "argumentsThere", "(II)Z"⟩
def yn_Mo_argument : MethodName := ⟨"PairVmModel", "argument", "(III)I"⟩
def yn_Mo_kindGood : MethodName := ⟨"PairVmModel", "kindGood", "(III)Z"⟩
def yn_Mo_isResult : MethodName := ⟨"PairVmModel", "isResult", "(II)Z"⟩
def yn_Mo_ends : MethodName := ⟨"PairVmModel", "ends", "(I)Z"⟩
def yn_Mo_mayGo : MethodName := ⟨"PairVmModel", "mayGo", "(IIZ)Z"⟩
def yn_Mo_branches : MethodName := ⟨"PairVmModel", "branches", "(I)Z"⟩
def yn_Mo_target : MethodName := ⟨"PairVmModel", "target", "(II)I"⟩
def yn_Mo_begin : MethodName := ⟨"PairVmModel", "begin", "(I)V"⟩
def yn_Mo_set : MethodName := ⟨"PairVmModel", "set", "(II)V"⟩
def yn_Mo_loosen : MethodName := ⟨"PairVmModel", "loosen", "(I)V"⟩
def yn_Mo_firstOf : MethodName := ⟨"PairVmModel", "firstOf", "(I)I"⟩
def yn_Mo_flow : MethodName := ⟨"PairVmModel", "flow", "(II)V"⟩
def yn_Mo_step1 : MethodName := ⟨"PairVmModel", "step1", "(III)V"⟩
def yn_Mo_pass1 : MethodName := ⟨"PairVmModel", "pass1", "(III)V"⟩
def yn_Mo_typeAt : MethodName := ⟨"PairVmModel", "typeAt", "(III)I"⟩
def yn_Mo_is : MethodName := ⟨"PairVmModel", "is", "(IIII)Z"⟩
def yn_Mo_need : MethodName := ⟨"PairVmModel", "need", "(Z)V"⟩
def yn_Mo_passOther : MethodName := ⟨"PairVmModel", "passOther", "(III)V"⟩
def yn_Mo_useArguments : MethodName := ⟨"PairVmModel", "useArguments", "(II)V"⟩
def yn_Mo_idle : MethodName := ⟨"PairVmModel", "idle", "(I)V"⟩
def yn_Mo_seal : MethodName := ⟨"PairVmModel", "seal", "()I"⟩
def yn_Mo_place : MethodName := ⟨"PairVmModel", "place", "()I"⟩
def yn_Mo_verify : MethodName := ⟨"PairVmModel", "verify", "(I)I"⟩
def yn_Mo_isMethod : MethodName := ⟨"PairVmModel", "isMethod", "(I)Z"⟩
def yn_Mo_type : MethodName := ⟨"PairVmModel", "type", "(III)I"⟩
def yn_Mo_pass : MethodName := ⟨"PairVmModel", "pass", "(IJ)Z"⟩
def yn_Mo_addArgument : MethodName := ⟨"PairVmModel", "addArgument", "(IJD)Z"⟩
def yn_Mo_passReal : MethodName := ⟨"PairVmModel", "passReal", "(ID)Z"⟩
def yn_Mo_call : MethodName := ⟨"PairVmModel", "call", "(I)V"⟩
def yn_Mo_enter : MethodName := ⟨"PairVmModel", "enter", "(I)V"⟩
def yn_Mo_run : MethodName := ⟨"PairVmModel", "run", "(I)I"⟩
def yn_Mo_one : MethodName := ⟨"PairVmModel", "one", "()I"⟩
def yn_Mo_callFrom : MethodName := ⟨"PairVmModel", "callFrom", "(II)V"⟩
def yn_Mo_base : MethodName := ⟨"PairVmModel", "base", "()I"⟩
def yn_Mo_giveBack : MethodName := ⟨"PairVmModel", "giveBack", "(II)V"⟩
def yn_Mo_wholeOf : MethodName := ⟨"PairVmModel", "wholeOf", "(I)J"⟩
def yn_Mo_realOf : MethodName := ⟨"PairVmModel", "realOf", "(I)D"⟩
def yn_Mo_join : MethodName := ⟨"PairVmModel", "join", "(IIII)Z"⟩
def yn_Mo_divides : MethodName := ⟨"PairVmModel", "divides", "(I)Z"⟩
def yn_Mo_joinInts : MethodName := ⟨"PairVmModel", "joinInts", "(III)I"⟩
def yn_Mo_setWhole : MethodName := ⟨"PairVmModel", "setWhole", "(IJ)V"⟩
def yn_Mo_joinLongs : MethodName := ⟨"PairVmModel", "joinLongs", "(IJJ)J"⟩
def yn_Mo_joinFloats : MethodName := ⟨"PairVmModel", "joinFloats", "(IFF)F"⟩
def yn_Mo_setReal : MethodName := ⟨"PairVmModel", "setReal", "(ID)V"⟩
def yn_Mo_joinDoubles : MethodName := ⟨"PairVmModel", "joinDoubles", "(IDD)D"⟩
def yn_Mo_holds : MethodName := ⟨"PairVmModel", "holds", "(III)Z"⟩
def yn_Mo_convert : MethodName := ⟨"PairVmModel", "convert", "(III)V"⟩
def yn_Mo_compare : MethodName := ⟨"PairVmModel", "compare", "(IIII)V"⟩
def yn_Mo_simple : MethodName := ⟨"PairVmModel", "simple", "(III)V"⟩
def yn_Mo_copy : MethodName := ⟨"PairVmModel", "copy", "(II)V"⟩
def yn_Mo_state : MethodName := ⟨"PairVmModel", "state", "()I"⟩
def yn_Mo_value : MethodName := ⟨"PairVmModel", "value", "()J"⟩
def yn_Mo_real : MethodName := ⟨"PairVmModel", "real", "()D"⟩
def yn_Mo_calls : MethodName := ⟨"PairVmModel", "calls", "()I"⟩
def yn_Mo_at : MethodName := ⟨"PairVmModel", "at", "(I)I"⟩
def yn_Mo_field : MethodName := ⟨"PairVmModel", "field", "(I)I"⟩
abbrev cd_V_init : ByteArray := prog_1_method_1_code
abbrev cd_Fb_init : ByteArray := prog_4_method_1_code
abbrev cd_Ag_init : ByteArray := prog_2_method_1_code
abbrev cd_Mc_init : ByteArray := prog_8_method_1_code
abbrev cd_Fr_init : ByteArray := prog_7_method_1_code
abbrev cd_Pg_init : ByteArray := prog_10_method_1_code
abbrev cd_Fl_init : ByteArray := prog_5_method_1_code
abbrev cd_Me_init : ByteArray := prog_9_method_1_code
abbrev cd_St_init : ByteArray := prog_11_method_1_code
abbrev cd_V_put : ByteArray := prog_1_method_2_code
abbrev cd_Fb_append : ByteArray := prog_4_method_2_code
abbrev cd_V_place : ByteArray := prog_1_method_5_code
abbrev cd_V_verify : ByteArray := prog_1_method_6_code
abbrev cd_Pg_methodAt : ByteArray := prog_10_method_2_code
abbrev cd_V_type : ByteArray := prog_1_method_7_code
abbrev cd_Me_typeBefore : ByteArray := prog_9_method_9_code
abbrev cd_Me_stepAt : ByteArray := prog_9_method_6_code
abbrev cd_St_typeOf : ByteArray := prog_11_method_6_code
abbrev cd_V_pass : ByteArray := prog_1_method_8_code
abbrev cd_Ag_add : ByteArray := prog_2_method_2_code
abbrev cd_V_passReal : ByteArray := prog_1_method_9_code
abbrev cd_V_state : ByteArray := prog_1_method_12_code
abbrev cd_V_value : ByteArray := prog_1_method_13_code
abbrev cd_Mc_returnedType : ByteArray := prog_8_method_4_code
abbrev cd_V_isReal : ByteArray := prog_1_method_20_code
abbrev cd_Mc_wholeResult : ByteArray := prog_8_method_5_code
abbrev cd_V_real : ByteArray := prog_1_method_14_code
abbrev cd_V_calls : ByteArray := prog_1_method_15_code
abbrev cd_V_at : ByteArray := prog_1_method_16_code
abbrev cd_Mc_unitOf : ByteArray := prog_8_method_6_code
abbrev cd_Mc_frameAt : ByteArray := prog_8_method_7_code
abbrev cd_V_field : ByteArray := prog_1_method_17_code
abbrev cd_Pg_fieldAt : ByteArray := prog_10_method_4_code
abbrev cd_Pg_hasField : ByteArray := prog_10_method_3_code
abbrev cd_Lw_seal : ByteArray := method_3_code
abbrev cd_V_seal : ByteArray := prog_1_method_3_code
abbrev cd_Fb_putHead : ByteArray := prog_4_method_4_code
abbrev cd_Fb_dueCheck : ByteArray := prog_4_method_9_code
abbrev cd_V_takeFile : ByteArray := prog_1_method_18_code
abbrev cd_Pg_readFrom : ByteArray := prog_10_method_6_code
abbrev cd_Fb_takeHead : ByteArray := prog_4_method_5_code
abbrev cd_Fb_take : ByteArray := prog_4_method_6_code
abbrev cd_Me_readFrom : ByteArray := prog_9_method_2_code
abbrev cd_Me_typeTold : ByteArray := prog_9_method_3_code
abbrev cd_V_widthOf : ByteArray := prog_1_method_21_code
abbrev cd_Fb_takeUnitCount : ByteArray := prog_4_method_7_code
abbrev cd_Fb_takeEnd : ByteArray := prog_4_method_8_code
abbrev cd_Fb_toldCheck : ByteArray := prog_4_method_10_code
abbrev cd_Ja_fill : ByteArray := prog_24_method_103_code
abbrev cd_Fb_clear : ByteArray := prog_4_method_3_code
abbrev cd_Pg_judge : ByteArray := prog_10_method_7_code
abbrev cd_Me_layOut : ByteArray := prog_9_method_7_code
abbrev cd_Me_unitAt : ByteArray := prog_9_method_8_code
abbrev cd_St_decode : ByteArray := prog_11_method_2_code
abbrev cd_St_findOperation : ByteArray := prog_11_method_3_code
abbrev cd_St_lengthOf : ByteArray := prog_11_method_4_code
abbrev cd_Fo_firstFault : ByteArray := prog_6_method_2_code
abbrev cd_Fo_fits : ByteArray := prog_6_method_3_code
abbrev cd_Fo_registersAreThere : ByteArray := prog_6_method_4_code
abbrev cd_Fo_isThere : ByteArray := prog_6_method_5_code
abbrev cd_Fo_goesOnRightly : ByteArray := prog_6_method_6_code
abbrev cd_St_goesOnBehind : ByteArray := prog_11_method_8_code
abbrev cd_St_branches : ByteArray := prog_11_method_9_code
abbrev cd_Fo_callFits : ByteArray := prog_6_method_8_code
abbrev cd_Me_parameterAt : ByteArray := prog_9_method_4_code
abbrev cd_St_named : ByteArray := prog_11_method_5_code
abbrev cd_Pg_returnedBefore : ByteArray := prog_10_method_8_code
abbrev cd_Fo_isOfWidth : ByteArray := prog_6_method_7_code
abbrev cd_Pg_giveTypes : ByteArray := prog_10_method_9_code
abbrev cd_Fl_follow : ByteArray := prog_5_method_2_code
abbrev cd_Fl_begin : ByteArray := prog_5_method_4_code
abbrev cd_Me_firstArgument : ByteArray := prog_9_method_5_code
abbrev cd_Fl_setTypes : ByteArray := prog_5_method_6_code
abbrev cd_Fl_setOne : ByteArray := prog_5_method_7_code
abbrev cd_Fl_join : ByteArray := prog_5_method_8_code
abbrev cd_Fl_passOver : ByteArray := prog_5_method_5_code
abbrev cd_St_has : ByteArray := prog_11_method_7_code
abbrev cd_Fl_firstWrong : ByteArray := prog_5_method_3_code
abbrev cd_Fl_isRight : ByteArray := prog_5_method_9_code
abbrev cd_Fl_argumentsAreRight : ByteArray := prog_5_method_10_code
abbrev cd_Mc_rest : ByteArray := prog_8_method_2_code
abbrev cd_Lw_load : ByteArray := method_4_code
abbrev cd_V_load : ByteArray := prog_1_method_4_code
abbrev cd_Lw_call : ByteArray := method_5_code
abbrev cd_V_call : ByteArray := prog_1_method_10_code
abbrev cd_V_beginCall : ByteArray := prog_1_method_19_code
abbrev cd_Ag_suit : ByteArray := prog_2_method_4_code
abbrev cd_Mc_begin : ByteArray := prog_8_method_3_code
abbrev cd_Fr_enter : ByteArray := prog_7_method_2_code
abbrev cd_Ag_copyTo : ByteArray := prog_2_method_5_code
abbrev cd_Fr_set : ByteArray := prog_7_method_6_code
abbrev cd_Ag_clear : ByteArray := prog_2_method_3_code
abbrev cd_Lw_run : ByteArray := method_6_code
abbrev cd_V_run : ByteArray := prog_1_method_11_code
abbrev cd_Mc_advance : ByteArray := prog_8_method_8_code
abbrev cd_Fr_nextStep : ByteArray := prog_7_method_3_code
abbrev cd_Mc_perform : ByteArray := prog_8_method_10_code
abbrev cd_Mc_leave : ByteArray := prog_8_method_11_code
abbrev cd_Fr_whole : ByteArray := prog_7_method_4_code
abbrev cd_Fr_realNumber : ByteArray := prog_7_method_5_code
abbrev cd_Mc_convert : ByteArray := prog_8_method_14_code
abbrev cd_Mc_combine : ByteArray := prog_8_method_15_code
abbrev cd_Ar_divides : ByteArray := prog_3_method_2_code
abbrev cd_Mc_stop : ByteArray := prog_8_method_9_code
abbrev cd_Jl_compare : ByteArray := prog_18_method_42_code
abbrev cd_Ar_compareReals : ByteArray := prog_3_method_3_code
abbrev cd_Ar_ofInts : ByteArray := prog_3_method_4_code
abbrev cd_Ar_ofLongs : ByteArray := prog_3_method_5_code
abbrev cd_Ar_ofFloats : ByteArray := prog_3_method_6_code
abbrev cd_Ar_held : ByteArray := prog_3_method_8_code
abbrev cd_Ar_ofDoubles : ByteArray := prog_3_method_7_code
abbrev cd_Mc_holds : ByteArray := prog_8_method_13_code
abbrev cd_Pg_setField : ByteArray := prog_10_method_5_code
abbrev cd_Mc_enter : ByteArray := prog_8_method_12_code
abbrev cd_Mo_init : ByteArray := prog_13_method_1_code
abbrev cd_Mo_thrown : ByteArray := prog_13_method_2_code
abbrev cd_Mo_put : ByteArray := prog_13_method_4_code
abbrev cd_Mo_load : ByteArray := prog_13_method_13_code
abbrev cd_Mo_readFile : ByteArray := prog_13_method_10_code
abbrev cd_Mo_next : ByteArray := prog_13_method_5_code
abbrev cd_Mo_readMethod : ByteArray := prog_13_method_8_code
abbrev cd_Mo_paramWords : ByteArray := prog_13_method_7_code
abbrev cd_Mo_words : ByteArray := prog_13_method_6_code
abbrev cd_Mo_checkOf : ByteArray := prog_13_method_9_code
abbrev cd_Mo_fail : ByteArray := prog_13_method_3_code
abbrev cd_Mo_keepFile : ByteArray := prog_13_method_11_code
abbrev cd_Mo_verifyMethod : ByteArray := prog_13_method_55_code
abbrev cd_Mo_findBeginnings : ByteArray := prog_13_method_42_code
abbrev cd_Mo_op : ByteArray := prog_13_method_17_code
abbrev cd_Mo_unit : ByteArray := prog_13_method_16_code
abbrev cd_Mo_sizeOf : ByteArray := prog_13_method_28_code
abbrev cd_Mo_converts : ByteArray := prog_13_method_25_code
abbrev cd_Mo_compares : ByteArray := prog_13_method_27_code
abbrev cd_Mo_joins : ByteArray := prog_13_method_26_code
abbrev cd_Mo_firstIllFormed : ByteArray := prog_13_method_43_code
abbrev cd_Mo_namesGood : ByteArray := prog_13_method_38_code
abbrev cd_Mo_regA : ByteArray := prog_13_method_18_code
abbrev cd_Mo_gives : ByteArray := prog_13_method_33_code
abbrev cd_Mo_has : ByteArray := prog_13_method_36_code
abbrev cd_Mo_regB : ByteArray := prog_13_method_19_code
abbrev cd_Mo_takes : ByteArray := prog_13_method_32_code
abbrev cd_Mo_joined : ByteArray := prog_13_method_34_code
abbrev cd_Mo_regAA : ByteArray := prog_13_method_20_code
abbrev cd_Mo_regC : ByteArray := prog_13_method_22_code
abbrev cd_Mo_regD : ByteArray := prog_13_method_23_code
abbrev cd_Mo_compared : ByteArray := prog_13_method_35_code
abbrev cd_Mo_number : ByteArray := prog_13_method_21_code
abbrev cd_Mo_argumentsThere : ByteArray := prog_13_method_37_code
abbrev cd_Mo_argument : ByteArray := prog_13_method_24_code
abbrev cd_Mo_kindGood : ByteArray := prog_13_method_41_code
abbrev cd_Mo_isResult : ByteArray := prog_13_method_39_code
abbrev cd_Mo_ends : ByteArray := prog_13_method_29_code
abbrev cd_Mo_mayGo : ByteArray := prog_13_method_40_code
abbrev cd_Mo_branches : ByteArray := prog_13_method_30_code
abbrev cd_Mo_target : ByteArray := prog_13_method_31_code
abbrev cd_Mo_begin : ByteArray := prog_13_method_54_code
abbrev cd_Mo_set : ByteArray := prog_13_method_48_code
abbrev cd_Mo_loosen : ByteArray := prog_13_method_47_code
abbrev cd_Mo_firstOf : ByteArray := prog_13_method_44_code
abbrev cd_Mo_flow : ByteArray := prog_13_method_53_code
abbrev cd_Mo_step1 : ByteArray := prog_13_method_56_code
abbrev cd_Mo_pass1 : ByteArray := prog_13_method_51_code
abbrev cd_Mo_typeAt : ByteArray := prog_13_method_45_code
abbrev cd_Mo_is : ByteArray := prog_13_method_46_code
abbrev cd_Mo_need : ByteArray := prog_13_method_49_code
abbrev cd_Mo_passOther : ByteArray := prog_13_method_52_code
abbrev cd_Mo_useArguments : ByteArray := prog_13_method_50_code
abbrev cd_Mo_idle : ByteArray := prog_13_method_12_code
abbrev cd_Mo_seal : ByteArray := prog_13_method_14_code
abbrev cd_Mo_place : ByteArray := prog_13_method_15_code
abbrev cd_Mo_verify : ByteArray := prog_13_method_58_code
abbrev cd_Mo_isMethod : ByteArray := prog_13_method_57_code
abbrev cd_Mo_type : ByteArray := prog_13_method_59_code
abbrev cd_Mo_pass : ByteArray := prog_13_method_61_code
abbrev cd_Mo_addArgument : ByteArray := prog_13_method_60_code
abbrev cd_Mo_passReal : ByteArray := prog_13_method_62_code
abbrev cd_Mo_call : ByteArray := prog_13_method_64_code
abbrev cd_Mo_enter : ByteArray := prog_13_method_63_code
abbrev cd_Mo_run : ByteArray := prog_13_method_84_code
abbrev cd_Mo_one : ByteArray := prog_13_method_82_code
abbrev cd_Mo_callFrom : ByteArray := prog_13_method_80_code
abbrev cd_Mo_base : ByteArray := prog_13_method_65_code
abbrev cd_Mo_giveBack : ByteArray := prog_13_method_81_code
abbrev cd_Mo_wholeOf : ByteArray := prog_13_method_68_code
abbrev cd_Mo_realOf : ByteArray := prog_13_method_69_code
abbrev cd_Mo_join : ByteArray := prog_13_method_78_code
abbrev cd_Mo_divides : ByteArray := prog_13_method_77_code
abbrev cd_Mo_joinInts : ByteArray := prog_13_method_73_code
abbrev cd_Mo_setWhole : ByteArray := prog_13_method_66_code
abbrev cd_Mo_joinLongs : ByteArray := prog_13_method_74_code
abbrev cd_Mo_joinFloats : ByteArray := prog_13_method_75_code
abbrev cd_Mo_setReal : ByteArray := prog_13_method_67_code
abbrev cd_Mo_joinDoubles : ByteArray := prog_13_method_76_code
abbrev cd_Mo_holds : ByteArray := prog_13_method_71_code
abbrev cd_Mo_convert : ByteArray := prog_13_method_72_code
abbrev cd_Mo_compare : ByteArray := prog_13_method_79_code
abbrev cd_Mo_simple : ByteArray := prog_13_method_83_code
abbrev cd_Mo_copy : ByteArray := prog_13_method_70_code
abbrev cd_Mo_state : ByteArray := prog_13_method_85_code
abbrev cd_Mo_value : ByteArray := prog_13_method_86_code
abbrev cd_Mo_real : ByteArray := prog_13_method_87_code
abbrev cd_Mo_calls : ByteArray := prog_13_method_88_code
abbrev cd_Mo_at : ByteArray := prog_13_method_89_code
abbrev cd_Mo_field : ByteArray := prog_13_method_90_code
