section
-- ===== PART A: goes FIRST, ahead of the names: the tables' words, and 'selects' of the private methods out of them =====
/-- a private method of a class that the tables say can be made, by its rows of tables_1 -/
def lw_okq (q : MethodName × Nat) : Prop := (q.1.cls ≠ "java/lang/invoke/MethodHandle" ∧ q.1.cls ≠ "java/lang/invoke/VarHandle") ∧ Cond.instantiable q.1.cls q.2 ∈ tables_1 ∧ Cond.privateMethod q.1 ∈ tables_1 ∧ Cond.instanceMethod q.1 ∈ tables_1
theorem lw_p0 : lw_okq (⟨"ClosedStreets$PlanReader", "readCommand", "(LClosedStreets$Text;I)Z"⟩, 5) := ⟨⟨by decide +kernel, by decide +kernel⟩, List.mem_of_getElem? (i := 57) (by decide +kernel), List.mem_of_getElem? (i := 228) (by decide +kernel), List.mem_of_getElem? (i := 229) (by decide +kernel)⟩
theorem lw_p1 : lw_okq (⟨"ClosedStreets$PlanReader", "readLetters", "(LClosedStreets$Text;Ljava/lang/String;)Z"⟩, 5) := ⟨⟨by decide +kernel, by decide +kernel⟩, List.mem_of_getElem? (i := 57) (by decide +kernel), List.mem_of_getElem? (i := 245) (by decide +kernel), List.mem_of_getElem? (i := 246) (by decide +kernel)⟩
theorem lw_p2 : lw_okq (⟨"ClosedStreets$PlanReader", "readBlank", "(LClosedStreets$Text;)Z"⟩, 5) := ⟨⟨by decide +kernel, by decide +kernel⟩, List.mem_of_getElem? (i := 57) (by decide +kernel), List.mem_of_getElem? (i := 304) (by decide +kernel), List.mem_of_getElem? (i := 305) (by decide +kernel)⟩
theorem lw_p3 : lw_okq (⟨"ClosedStreets$PlanReader", "readNumber", "(LClosedStreets$Text;)I"⟩, 5) := ⟨⟨by decide +kernel, by decide +kernel⟩, List.mem_of_getElem? (i := 57) (by decide +kernel), List.mem_of_getElem? (i := 313) (by decide +kernel), List.mem_of_getElem? (i := 314) (by decide +kernel)⟩
theorem lw_p4 : lw_okq (⟨"ClosedStreets$TownReader", "readHead", "(LClosedStreets$Text;LClosedStreets$Town;)Z"⟩, 1) := ⟨⟨by decide +kernel, by decide +kernel⟩, List.mem_of_getElem? (i := 47) (by decide +kernel), List.mem_of_getElem? (i := 321) (by decide +kernel), List.mem_of_getElem? (i := 322) (by decide +kernel)⟩
theorem lw_p5 : lw_okq (⟨"ClosedStreets$TownReader", "readStreet", "(LClosedStreets$Text;LClosedStreets$Town;)Z"⟩, 1) := ⟨⟨by decide +kernel, by decide +kernel⟩, List.mem_of_getElem? (i := 47) (by decide +kernel), List.mem_of_getElem? (i := 331) (by decide +kernel), List.mem_of_getElem? (i := 332) (by decide +kernel)⟩
theorem lw_p6 : lw_okq (⟨"ClosedStreets$Route", "improves", "(LClosedStreets$Town;I)Z"⟩, 4) := ⟨⟨by decide +kernel, by decide +kernel⟩, List.mem_of_getElem? (i := 169) (by decide +kernel), List.mem_of_getElem? (i := 396) (by decide +kernel), List.mem_of_getElem? (i := 397) (by decide +kernel)⟩
theorem lw_p7 : lw_okq (⟨"ClosedStreets$Route", "nextBehind", "(LClosedStreets$Town;I)I"⟩, 4) := ⟨⟨by decide +kernel, by decide +kernel⟩, List.mem_of_getElem? (i := 169) (by decide +kernel), List.mem_of_getElem? (i := 403) (by decide +kernel), List.mem_of_getElem? (i := 404) (by decide +kernel)⟩
theorem lw_p8 : lw_okq (⟨"ClosedStreets", "lengthWithout", "(I)I"⟩, 9) := ⟨⟨by decide +kernel, by decide +kernel⟩, List.mem_of_getElem? (i := 22) (by decide +kernel), List.mem_of_getElem? (i := 419) (by decide +kernel), List.mem_of_getElem? (i := 420) (by decide +kernel)⟩
theorem lw_p9 : lw_okq (⟨"ClosedStreets$Town", "copyStreet", "(LClosedStreets$Town;II)V"⟩, 8) := ⟨⟨by decide +kernel, by decide +kernel⟩, List.mem_of_getElem? (i := 84) (by decide +kernel), List.mem_of_getElem? (i := 427) (by decide +kernel), List.mem_of_getElem? (i := 428) (by decide +kernel)⟩
theorem lw_p10 : lw_okq (⟨"ClosedStreets", "bestLengthIn", "(LClosedStreets$Town;)I"⟩, 9) := ⟨⟨by decide +kernel, by decide +kernel⟩, List.mem_of_getElem? (i := 22) (by decide +kernel), List.mem_of_getElem? (i := 432) (by decide +kernel), List.mem_of_getElem? (i := 433) (by decide +kernel)⟩
theorem lw_p11 : lw_okq (⟨"java/lang/Throwable", "fillInStackTrace", "(I)Ljava/lang/Throwable;"⟩, 6) := ⟨⟨by decide +kernel, by decide +kernel⟩, List.mem_of_getElem? (i := 498) (by decide +kernel), List.mem_of_getElem? (i := 496) (by decide +kernel), List.mem_of_getElem? (i := 497) (by decide +kernel)⟩
theorem lw_p12 : lw_okq (⟨"ClosedStreets", "neededStreets", "()I"⟩, 9) := ⟨⟨by decide +kernel, by decide +kernel⟩, List.mem_of_getElem? (i := 22) (by decide +kernel), List.mem_of_getElem? (i := 578) (by decide +kernel), List.mem_of_getElem? (i := 579) (by decide +kernel)⟩
theorem lw_p13 : lw_okq (⟨"ClosedStreets", "requireStreet", "(I)V"⟩, 9) := ⟨⟨by decide +kernel, by decide +kernel⟩, List.mem_of_getElem? (i := 22) (by decide +kernel), List.mem_of_getElem? (i := 591) (by decide +kernel), List.mem_of_getElem? (i := 592) (by decide +kernel)⟩
theorem lw_p14 : lw_okq (⟨"ClosedStreets", "requireCrossing", "(I)V"⟩, 9) := ⟨⟨by decide +kernel, by decide +kernel⟩, List.mem_of_getElem? (i := 22) (by decide +kernel), List.mem_of_getElem? (i := 620) (by decide +kernel), List.mem_of_getElem? (i := 621) (by decide +kernel)⟩
theorem lw_p15 : lw_okq (⟨"ClosedStreets", "acceptTrial", "()V"⟩, 9) := ⟨⟨by decide +kernel, by decide +kernel⟩, List.mem_of_getElem? (i := 22) (by decide +kernel), List.mem_of_getElem? (i := 673) (by decide +kernel), List.mem_of_getElem? (i := 674) (by decide +kernel)⟩
def lw_privs_1 : List (MethodName × Nat) := [(⟨"ClosedStreets$PlanReader", "readCommand", "(LClosedStreets$Text;I)Z"⟩, 5), (⟨"ClosedStreets$PlanReader", "readLetters", "(LClosedStreets$Text;Ljava/lang/String;)Z"⟩, 5), (⟨"ClosedStreets$PlanReader", "readBlank", "(LClosedStreets$Text;)Z"⟩, 5), (⟨"ClosedStreets$PlanReader", "readNumber", "(LClosedStreets$Text;)I"⟩, 5), (⟨"ClosedStreets$TownReader", "readHead", "(LClosedStreets$Text;LClosedStreets$Town;)Z"⟩, 1), (⟨"ClosedStreets$TownReader", "readStreet", "(LClosedStreets$Text;LClosedStreets$Town;)Z"⟩, 1), (⟨"ClosedStreets$Route", "improves", "(LClosedStreets$Town;I)Z"⟩, 4), (⟨"ClosedStreets$Route", "nextBehind", "(LClosedStreets$Town;I)I"⟩, 4), (⟨"ClosedStreets", "lengthWithout", "(I)I"⟩, 9), (⟨"ClosedStreets$Town", "copyStreet", "(LClosedStreets$Town;II)V"⟩, 8), (⟨"ClosedStreets", "bestLengthIn", "(LClosedStreets$Town;)I"⟩, 9), (⟨"java/lang/Throwable", "fillInStackTrace", "(I)Ljava/lang/Throwable;"⟩, 6), (⟨"ClosedStreets", "neededStreets", "()I"⟩, 9), (⟨"ClosedStreets", "requireStreet", "(I)V"⟩, 9), (⟨"ClosedStreets", "requireCrossing", "(I)V"⟩, 9), (⟨"ClosedStreets", "acceptTrial", "()V"⟩, 9)]
theorem lw_r1 : ∀ q ∈ lw_privs_1, lw_okq q := List.forall_mem_cons.mpr ⟨lw_p0, List.forall_mem_cons.mpr ⟨lw_p1, List.forall_mem_cons.mpr ⟨lw_p2, List.forall_mem_cons.mpr ⟨lw_p3, List.forall_mem_cons.mpr ⟨lw_p4, List.forall_mem_cons.mpr ⟨lw_p5, List.forall_mem_cons.mpr ⟨lw_p6, List.forall_mem_cons.mpr ⟨lw_p7, List.forall_mem_cons.mpr ⟨lw_p8, List.forall_mem_cons.mpr ⟨lw_p9, List.forall_mem_cons.mpr ⟨lw_p10, List.forall_mem_cons.mpr ⟨lw_p11, List.forall_mem_cons.mpr ⟨lw_p12, List.forall_mem_cons.mpr ⟨lw_p13, List.forall_mem_cons.mpr ⟨lw_p14, List.forall_mem_cons.mpr ⟨lw_p15, fun _ h => absurd h List.not_mem_nil⟩⟩⟩⟩⟩⟩⟩⟩⟩⟩⟩⟩⟩⟩⟩⟩
theorem lw_p16 : lw_okq (⟨"ClosedStreets", "planCommandOnTrial", "(I)I"⟩, 9) := ⟨⟨by decide +kernel, by decide +kernel⟩, List.mem_of_getElem? (i := 22) (by decide +kernel), List.mem_of_getElem? (i := 742) (by decide +kernel), List.mem_of_getElem? (i := 743) (by decide +kernel)⟩
theorem lw_p17 : lw_okq (⟨"ClosedStreets", "isOnBestWayWithLength", "(II)Z"⟩, 9) := ⟨⟨by decide +kernel, by decide +kernel⟩, List.mem_of_getElem? (i := 22) (by decide +kernel), List.mem_of_getElem? (i := 779) (by decide +kernel), List.mem_of_getElem? (i := 780) (by decide +kernel)⟩
theorem lw_p18 : lw_okq (⟨"ClosedStreets", "isOnBestWayOfTrial", "(I)Z"⟩, 9) := ⟨⟨by decide +kernel, by decide +kernel⟩, List.mem_of_getElem? (i := 22) (by decide +kernel), List.mem_of_getElem? (i := 783) (by decide +kernel), List.mem_of_getElem? (i := 784) (by decide +kernel)⟩
theorem lw_p19 : lw_okq (⟨"ClosedStreets", "scriptCommandOnTrial", "(I)Z"⟩, 9) := ⟨⟨by decide +kernel, by decide +kernel⟩, List.mem_of_getElem? (i := 22) (by decide +kernel), List.mem_of_getElem? (i := 822) (by decide +kernel), List.mem_of_getElem? (i := 823) (by decide +kernel)⟩
theorem lw_p20 : lw_okq (⟨"ClosedStreets", "hasTrialWayOf", "(I)Z"⟩, 9) := ⟨⟨by decide +kernel, by decide +kernel⟩, List.mem_of_getElem? (i := 22) (by decide +kernel), List.mem_of_getElem? (i := 829) (by decide +kernel), List.mem_of_getElem? (i := 830) (by decide +kernel)⟩
theorem lw_p21 : lw_okq (⟨"ClosedStreets", "isNearInTrial", "(II)Z"⟩, 9) := ⟨⟨by decide +kernel, by decide +kernel⟩, List.mem_of_getElem? (i := 22) (by decide +kernel), List.mem_of_getElem? (i := 833) (by decide +kernel), List.mem_of_getElem? (i := 834) (by decide +kernel)⟩
theorem lw_p22 : lw_okq (⟨"ClosedStreetsModel", "tell", "(IIIIII)V"⟩, 22) := ⟨⟨by decide +kernel, by decide +kernel⟩, List.mem_of_getElem? (i := 876) (by decide +kernel), List.mem_of_getElem? (i := 885) (by decide +kernel), List.mem_of_getElem? (i := 886) (by decide +kernel)⟩
theorem lw_p23 : lw_okq (⟨"ClosedStreetsModel", "refused", "(I)Z"⟩, 22) := ⟨⟨by decide +kernel, by decide +kernel⟩, List.mem_of_getElem? (i := 876) (by decide +kernel), List.mem_of_getElem? (i := 968) (by decide +kernel), List.mem_of_getElem? (i := 969) (by decide +kernel)⟩
theorem lw_p24 : lw_okq (⟨"ClosedStreetsModel", "readPlan", "()Z"⟩, 22) := ⟨⟨by decide +kernel, by decide +kernel⟩, List.mem_of_getElem? (i := 876) (by decide +kernel), List.mem_of_getElem? (i := 980) (by decide +kernel), List.mem_of_getElem? (i := 981) (by decide +kernel)⟩
theorem lw_p25 : lw_okq (⟨"ClosedStreetsModel", "readCommand", "()Z"⟩, 22) := ⟨⟨by decide +kernel, by decide +kernel⟩, List.mem_of_getElem? (i := 876) (by decide +kernel), List.mem_of_getElem? (i := 984) (by decide +kernel), List.mem_of_getElem? (i := 985) (by decide +kernel)⟩
theorem lw_p26 : lw_okq (⟨"ClosedStreetsModel", "readWord", "()Z"⟩, 22) := ⟨⟨by decide +kernel, by decide +kernel⟩, List.mem_of_getElem? (i := 876) (by decide +kernel), List.mem_of_getElem? (i := 988) (by decide +kernel), List.mem_of_getElem? (i := 989) (by decide +kernel)⟩
theorem lw_p27 : lw_okq (⟨"ClosedStreetsModel", "readBlank", "()Z"⟩, 22) := ⟨⟨by decide +kernel, by decide +kernel⟩, List.mem_of_getElem? (i := 876) (by decide +kernel), List.mem_of_getElem? (i := 992) (by decide +kernel), List.mem_of_getElem? (i := 993) (by decide +kernel)⟩
theorem lw_p28 : lw_okq (⟨"ClosedStreetsModel", "readNumber", "()I"⟩, 22) := ⟨⟨by decide +kernel, by decide +kernel⟩, List.mem_of_getElem? (i := 876) (by decide +kernel), List.mem_of_getElem? (i := 996) (by decide +kernel), List.mem_of_getElem? (i := 997) (by decide +kernel)⟩
theorem lw_p29 : lw_okq (⟨"ClosedStreetsModel", "digit", "(II)I"⟩, 22) := ⟨⟨by decide +kernel, by decide +kernel⟩, List.mem_of_getElem? (i := 876) (by decide +kernel), List.mem_of_getElem? (i := 1000) (by decide +kernel), List.mem_of_getElem? (i := 1001) (by decide +kernel)⟩
theorem lw_p30 : lw_okq (⟨"ClosedStreetsModel", "readTown", "()Z"⟩, 22) := ⟨⟨by decide +kernel, by decide +kernel⟩, List.mem_of_getElem? (i := 876) (by decide +kernel), List.mem_of_getElem? (i := 1004) (by decide +kernel), List.mem_of_getElem? (i := 1005) (by decide +kernel)⟩
theorem lw_p31 : lw_okq (⟨"ClosedStreetsModel", "readStreet", "()Z"⟩, 22) := ⟨⟨by decide +kernel, by decide +kernel⟩, List.mem_of_getElem? (i := 876) (by decide +kernel), List.mem_of_getElem? (i := 1008) (by decide +kernel), List.mem_of_getElem? (i := 1009) (by decide +kernel)⟩
def lw_privs_2 : List (MethodName × Nat) := [(⟨"ClosedStreets", "planCommandOnTrial", "(I)I"⟩, 9), (⟨"ClosedStreets", "isOnBestWayWithLength", "(II)Z"⟩, 9), (⟨"ClosedStreets", "isOnBestWayOfTrial", "(I)Z"⟩, 9), (⟨"ClosedStreets", "scriptCommandOnTrial", "(I)Z"⟩, 9), (⟨"ClosedStreets", "hasTrialWayOf", "(I)Z"⟩, 9), (⟨"ClosedStreets", "isNearInTrial", "(II)Z"⟩, 9), (⟨"ClosedStreetsModel", "tell", "(IIIIII)V"⟩, 22), (⟨"ClosedStreetsModel", "refused", "(I)Z"⟩, 22), (⟨"ClosedStreetsModel", "readPlan", "()Z"⟩, 22), (⟨"ClosedStreetsModel", "readCommand", "()Z"⟩, 22), (⟨"ClosedStreetsModel", "readWord", "()Z"⟩, 22), (⟨"ClosedStreetsModel", "readBlank", "()Z"⟩, 22), (⟨"ClosedStreetsModel", "readNumber", "()I"⟩, 22), (⟨"ClosedStreetsModel", "digit", "(II)I"⟩, 22), (⟨"ClosedStreetsModel", "readTown", "()Z"⟩, 22), (⟨"ClosedStreetsModel", "readStreet", "()Z"⟩, 22)]
theorem lw_r2 : ∀ q ∈ lw_privs_2, lw_okq q := List.forall_mem_cons.mpr ⟨lw_p16, List.forall_mem_cons.mpr ⟨lw_p17, List.forall_mem_cons.mpr ⟨lw_p18, List.forall_mem_cons.mpr ⟨lw_p19, List.forall_mem_cons.mpr ⟨lw_p20, List.forall_mem_cons.mpr ⟨lw_p21, List.forall_mem_cons.mpr ⟨lw_p22, List.forall_mem_cons.mpr ⟨lw_p23, List.forall_mem_cons.mpr ⟨lw_p24, List.forall_mem_cons.mpr ⟨lw_p25, List.forall_mem_cons.mpr ⟨lw_p26, List.forall_mem_cons.mpr ⟨lw_p27, List.forall_mem_cons.mpr ⟨lw_p28, List.forall_mem_cons.mpr ⟨lw_p29, List.forall_mem_cons.mpr ⟨lw_p30, List.forall_mem_cons.mpr ⟨lw_p31, fun _ h => absurd h List.not_mem_nil⟩⟩⟩⟩⟩⟩⟩⟩⟩⟩⟩⟩⟩⟩⟩⟩
theorem lw_p32 : lw_okq (⟨"ClosedStreetsModel", "forget", "()V"⟩, 22) := ⟨⟨by decide +kernel, by decide +kernel⟩, List.mem_of_getElem? (i := 876) (by decide +kernel), List.mem_of_getElem? (i := 1028) (by decide +kernel), List.mem_of_getElem? (i := 1029) (by decide +kernel)⟩
theorem lw_p33 : lw_okq (⟨"ClosedStreetsModel", "bestBut", "([II)I"⟩, 22) := ⟨⟨by decide +kernel, by decide +kernel⟩, List.mem_of_getElem? (i := 876) (by decide +kernel), List.mem_of_getElem? (i := 1037) (by decide +kernel), List.mem_of_getElem? (i := 1038) (by decide +kernel)⟩
theorem lw_p34 : lw_okq (⟨"ClosedStreetsModel", "layCosts", "([II)V"⟩, 22) := ⟨⟨by decide +kernel, by decide +kernel⟩, List.mem_of_getElem? (i := 876) (by decide +kernel), List.mem_of_getElem? (i := 1041) (by decide +kernel), List.mem_of_getElem? (i := 1042) (by decide +kernel)⟩
theorem lw_p35 : lw_okq (⟨"ClosedStreetsModel", "price", "(III)V"⟩, 22) := ⟨⟨by decide +kernel, by decide +kernel⟩, List.mem_of_getElem? (i := 876) (by decide +kernel), List.mem_of_getElem? (i := 1045) (by decide +kernel), List.mem_of_getElem? (i := 1046) (by decide +kernel)⟩
theorem lw_p36 : lw_okq (⟨"ClosedStreetsModel", "best", "([I)I"⟩, 22) := ⟨⟨by decide +kernel, by decide +kernel⟩, List.mem_of_getElem? (i := 876) (by decide +kernel), List.mem_of_getElem? (i := 1049) (by decide +kernel), List.mem_of_getElem? (i := 1050) (by decide +kernel)⟩
theorem lw_p37 : lw_okq (⟨"ClosedStreetsModel", "layFar", "([II)V"⟩, 22) := ⟨⟨by decide +kernel, by decide +kernel⟩, List.mem_of_getElem? (i := 876) (by decide +kernel), List.mem_of_getElem? (i := 1053) (by decide +kernel), List.mem_of_getElem? (i := 1054) (by decide +kernel)⟩
theorem lw_p38 : lw_okq (⟨"ClosedStreetsModel", "layWay", "([II)I"⟩, 22) := ⟨⟨by decide +kernel, by decide +kernel⟩, List.mem_of_getElem? (i := 876) (by decide +kernel), List.mem_of_getElem? (i := 1061) (by decide +kernel), List.mem_of_getElem? (i := 1062) (by decide +kernel)⟩
theorem lw_p39 : lw_okq (⟨"ClosedStreetsModel", "isOfWay", "([II)Z"⟩, 22) := ⟨⟨by decide +kernel, by decide +kernel⟩, List.mem_of_getElem? (i := 876) (by decide +kernel), List.mem_of_getElem? (i := 1073) (by decide +kernel), List.mem_of_getElem? (i := 1074) (by decide +kernel)⟩
theorem lw_p40 : lw_okq (⟨"ClosedStreetsModel", "placeOf", "(I)I"⟩, 22) := ⟨⟨by decide +kernel, by decide +kernel⟩, List.mem_of_getElem? (i := 876) (by decide +kernel), List.mem_of_getElem? (i := 1077) (by decide +kernel), List.mem_of_getElem? (i := 1078) (by decide +kernel)⟩
theorem lw_p41 : lw_okq (⟨"ClosedStreetsModel", "at", "(I)I"⟩, 22) := ⟨⟨by decide +kernel, by decide +kernel⟩, List.mem_of_getElem? (i := 876) (by decide +kernel), List.mem_of_getElem? (i := 1097) (by decide +kernel), List.mem_of_getElem? (i := 1098) (by decide +kernel)⟩
theorem lw_p42 : lw_okq (⟨"ClosedStreetsModel", "remember", "()V"⟩, 22) := ⟨⟨by decide +kernel, by decide +kernel⟩, List.mem_of_getElem? (i := 876) (by decide +kernel), List.mem_of_getElem? (i := 1105) (by decide +kernel), List.mem_of_getElem? (i := 1106) (by decide +kernel)⟩
theorem lw_p43 : lw_okq (⟨"ClosedStreetsModel", "command", "()Z"⟩, 22) := ⟨⟨by decide +kernel, by decide +kernel⟩, List.mem_of_getElem? (i := 876) (by decide +kernel), List.mem_of_getElem? (i := 1140) (by decide +kernel), List.mem_of_getElem? (i := 1141) (by decide +kernel)⟩
theorem lw_p44 : lw_okq (⟨"ClosedStreetsModel", "tryGroup", "(IIII)Z"⟩, 22) := ⟨⟨by decide +kernel, by decide +kernel⟩, List.mem_of_getElem? (i := 876) (by decide +kernel), List.mem_of_getElem? (i := 1182) (by decide +kernel), List.mem_of_getElem? (i := 1183) (by decide +kernel)⟩
def lw_privs_3 : List (MethodName × Nat) := [(⟨"ClosedStreetsModel", "forget", "()V"⟩, 22), (⟨"ClosedStreetsModel", "bestBut", "([II)I"⟩, 22), (⟨"ClosedStreetsModel", "layCosts", "([II)V"⟩, 22), (⟨"ClosedStreetsModel", "price", "(III)V"⟩, 22), (⟨"ClosedStreetsModel", "best", "([I)I"⟩, 22), (⟨"ClosedStreetsModel", "layFar", "([II)V"⟩, 22), (⟨"ClosedStreetsModel", "layWay", "([II)I"⟩, 22), (⟨"ClosedStreetsModel", "isOfWay", "([II)Z"⟩, 22), (⟨"ClosedStreetsModel", "placeOf", "(I)I"⟩, 22), (⟨"ClosedStreetsModel", "at", "(I)I"⟩, 22), (⟨"ClosedStreetsModel", "remember", "()V"⟩, 22), (⟨"ClosedStreetsModel", "command", "()Z"⟩, 22), (⟨"ClosedStreetsModel", "tryGroup", "(IIII)Z"⟩, 22)]
theorem lw_r3 : ∀ q ∈ lw_privs_3, lw_okq q := List.forall_mem_cons.mpr ⟨lw_p32, List.forall_mem_cons.mpr ⟨lw_p33, List.forall_mem_cons.mpr ⟨lw_p34, List.forall_mem_cons.mpr ⟨lw_p35, List.forall_mem_cons.mpr ⟨lw_p36, List.forall_mem_cons.mpr ⟨lw_p37, List.forall_mem_cons.mpr ⟨lw_p38, List.forall_mem_cons.mpr ⟨lw_p39, List.forall_mem_cons.mpr ⟨lw_p40, List.forall_mem_cons.mpr ⟨lw_p41, List.forall_mem_cons.mpr ⟨lw_p42, List.forall_mem_cons.mpr ⟨lw_p43, List.forall_mem_cons.mpr ⟨lw_p44, fun _ h => absurd h List.not_mem_nil⟩⟩⟩⟩⟩⟩⟩⟩⟩⟩⟩⟩⟩
def lw_privs : List (MethodName × Nat) := lw_privs_1 ++ (lw_privs_2 ++ (lw_privs_3))
def lw_tbl : List Cond := k2_sels lw_privs ++ tables_1
theorem lw_privs_ok : ∀ q ∈ lw_privs, lw_okq q := by
  show ∀ q ∈ lw_privs_1 ++ (lw_privs_2 ++ (lw_privs_3)), lw_okq q
  exact List.forall_mem_append.mpr ⟨lw_r1, List.forall_mem_append.mpr ⟨lw_r2, lw_r3⟩⟩
-- ===== end of PART A; then your names; then what follows =====
end
section
/-! ===== BEGIN words of one list among another's, by their places ===== -/
theorem goodIn_r {big : List Cond} (ws : List Cond) (ps : List Nat) (hp : ws = ps.filterMap (fun i => big[i]?)) (h : ws.all goodWord = true) : GoodIn big ws := by
  intro w hw
  have h1 := List.all_eq_true.mp h w hw
  rw [hp] at hw
  obtain ⟨i, -, hi⟩ := List.mem_filterMap.mp hw
  have hm : w ∈ big := by first | exact List.mem_of_getElem? hi | exact List.getElem?_mem hi
  exact ⟨hm, good_of_word h1⟩
theorem goodIn_app {big a b : List Cond} (ha : GoodIn big a) (hb : GoodIn big b) : GoodIn big (a ++ b) := fun w h => (List.mem_append.mp h).elim (ha w) (hb w)
theorem goodIn_ca {big a b : List Cond} {c : Cond} (ha : GoodIn big (c :: a)) (hb : GoodIn big b) : GoodIn big (c :: (a ++ b)) := fun w h => (List.mem_cons.mp h).elim (fun e => ha w (List.mem_cons.mpr (Or.inl e))) (fun h => (List.mem_append.mp h).elim (fun h => ha w (List.mem_cons.mpr (Or.inr h))) (hb w))
theorem goodIn_sub {big ws : List Cond} (hm : ∀ w ∈ ws, w ∈ big) (h : ws.all goodWord = true) : GoodIn big ws := fun w hw => ⟨hm w hw, good_of_word (List.all_eq_true.mp h w hw)⟩
/-! ===== END ===== -/

/-! ===== BEGIN exceptions that leave a method, and their catching by the caller (launches without stack traces) ===== -/
section VXA
/-! The laws vx_back, vx_callV, vx_callS, vx_callSW, vx_throw0, vx_throwS follow proofs of the library, with one case more: JvmDerived/Free/Laws.lean (Back.of_free), Shelf42/LK1.lean (callV, callS), Shelf/KitTraced.lean (throwNew0V, throwNewS). -/
/-- where a method has thrown q: the class by its name, the cell, what was written, the world -/
def vx_T (XC : String → State → State → Prop) (st : State) (q : Addr) (t : State) (mc ms : Nat) (free : Addr → Prop) : Prop :=
  ∃ (E : String) (ce : Cell) (L : List Loc), XC E st t ∧ t.heap[q]? = some ce ∧ ce.vm = .none ∧ st.vm.findClass E = some ce.cls ∧ st.WarmedH t.vm ∧ st.sameButNew ({ t with vm := st.vm } : State) L mc ms ∧ ∀ z ∈ L, free z.base
def vx_Q (Qc : Array Value → State → Outcome → State → Prop) (XC : String → State → State → Prop) (mc ms : Nat) (free : Addr → Prop) : Array Value → State → Outcome → State → Prop := fun a st o t =>
  (Qc a st o t ∧ ∃ L, FrameEnd st o t L mc ms ∧ ∀ q ∈ L, free q.base) ∨ ∃ q, o = .threw q ∧ vx_T XC st q t mc ms free
/-- a callee that returns or throws -/
def vx_Met (l : Launch) (y : MethodName) (ws : List Cond) (rm : Room) (Pc : Array Value → State → Prop) (Qc : Array Value → State → Outcome → State → Prop) (XC : String → State → State → Prop) (mc ms : Nat) (free : Addr → Prop) : Prop :=
  MetFree l y (headSpec ws rm) Pc (fun _ _ _ _ _ => True) (vx_Q Qc XC mc ms free)
def vx_Post (XC : String → State → State → Prop) (mc ms : Nat) (free : Addr → Prop) : Pt → Array Value → Addr → Pt → Prop := fun A a q B =>
  ∃ (g : JFrame) (mk : MethodId) (t : State) (L : List Loc) (E : String) (ce : Cell), B.U.heap = t.heap ∧ B.U.vm = t.vm ∧ XC E (A.U.calling g mk a) t ∧ t.heap[q]? = some ce ∧ ce.vm = .none ∧ A.U.vm.findClass E = some ce.cls ∧ B.locs = A.locs ++ L ∧ (∀ z ∈ L, free z.base) ∧ B.cells = A.cells + mc ∧ B.slots = A.slots + ms
def vx_Back (l : Launch) (R : Room) (p : Program) (e : Env) (below : List Frame) (s : State) (sargs : Array Value) (y : MethodName) (len W9 : Nat)
    (Pre : Pt → Array Value → Prop) (Post : Pt → Array Value → Option Value → Pt → Prop) (PostX : Pt → Array Value → Addr → Pt → Prop) : Prop :=
  ∀ (m : MethodId) (meth : Method) (c : Code) (A : Pt) (g : JFrame) (ig : Instr) (mk : MethodId) (a : Array Value),
    Stand p l e R s m sargs below meth c A.U A.locs A.cells A.slots → g.method = m → g.locals.size = c.maxLocals → decode c.code g.pc = .ok (ig, len) →
    2 * g.monitorRoom + (g.stack.map fun v => v.category).sum ≤ W9 → A.U.methodNamed? y = some mk → Pre A a →
    (∃ (v : Option Value) (B : Pt), Stand p l e R s m sargs below meth c B.U B.locs B.cells B.slots ∧ Post A a v B ∧
      Steps p.tables e below (doInvoke e (A.U.setTop g) [] mk a).1 (B.U.setTop { g with pc := g.pc + len, stack := v.toList ++ g.stack })) ∨
    (∃ (q : Addr) (B : Pt), Stand p l e R s m sargs below meth c B.U B.locs B.cells B.slots ∧ PostX A a q B ∧
      Steps p.tables e below (doInvoke e (A.U.setTop g) [] mk a).1 ((B.U.setTop g).pushFrame (.throwing q)))
section Payer
variable {l : Launch} {R : Room} {p : Program} {e : Env} {below : List Frame} {s : State} {sargs : Array Value} {y : MethodName} {len W9 : Nat}
theorem vx_back {ws : List Cond} {rm : Room} {Pc : Array Value → State → Prop} {Qc : Array Value → State → Outcome → State → Prop} {XC : String → State → State → Prop} {mc ms : Nat} {free : Addr → Prop} {bytes : ByteArray} {maxL : Nat} {ret : Option FieldType}
    (hM : vx_Met l y ws rm Pc Qc XC mc ms free) (hblind : FrameBlind Pc) (hrc : rm.cells = mc) (hrs : rm.slots = ms)
    (hframes : rm.frames + 1 ≤ R.frames) (hlocals : W9 + (maxL + 11) + rm.locals ≤ R.locals)
    (hws : ∀ w ∈ ws, ∀ a' U, s.WarmedH U.vm → w.before a' U = true) (hcode : Cond.code y bytes maxL ret ∈ ws) (hinit : ∀ a' U, s.WarmedH U.vm → (Cond.initialized y.cls).before a' U = true) :
    vx_Back l R p e below s sargs y len W9 (PreOf R mc ms Pc) (PostOf Qc mc ms free) (vx_Post XC mc ms free) := by
  intro m meth c A g ig mk a X hg hsize hdg hW hn hp
  have h1 : (headSpec ws rm).pre.before a A.U = true := atoms_intro fun w hw => hws w hw _ _ X.warmed
  have h2 : (Cond.code y bytes maxL ret).before a A.U = true := hws _ hcode _ _ X.warmed
  have h3 : (Cond.initialized y.cls).before a A.U = true := hinit _ _ X.warmed
  have h4 : A.cells + (headSpec ws rm).room.cells ≤ R.cells := by rw [show (headSpec ws rm).room.cells = mc from hrc]; exact hp.1
  have h5 : A.slots + (headSpec ws rm).room.slots ≤ R.slots := by rw [show (headSpec ws rm).room.slots = ms from hrs]; exact hp.2.1
  have hPc : Pc a (A.U.calling g mk a) := hblind _ _ _ _ hp.2.2
  obtain ⟨U, Ls, c0, s0⟩ := A
  dsimp only [Pt.U, Pt.locs, Pt.cells, Pt.slots] at h1 h2 h3 h4 h5 X hn hPc ⊢
  obtain ⟨methY, cY, hmY, hcY, -, hlY, -, -, -, -⟩ := Cond.code_spec hn h2
  obtain ⟨kY, hkY, -⟩ := className_of_methodNamed hn
  have hinitY : kY.init = .initialized := Cond.initialized_spec (findClass_of_methodNamed hn) hkY h3
  have h : At U g.method c below := by rw [hg]; exact X.here
  have hlocals9 : W9 + (maxL + 11) + (headSpec ws rm).room.locals ≤ R.locals := hlocals
  have happ : (headSpec ws rm).appliesLoose y e.platform (U.calling g mk a) = true :=
    Spec.appliesLoose_calling (g := g) h hdg hn hkY hinitY
      (X.room_calling (g := g) (R' := (headSpec ws rm).room) hsize hmY hcY hframes (by rw [hlY]; omega) h4 h5) h1
  obtain ⟨mid, hmid⟩ := h.above
  have hfr : (U.setTop g).frames = (.java g :: mid) ++ below := by rw [State.frames_setTop' g h.top, hmid]; rfl
  obtain ⟨o, s₂, hsteps, -, hend, hq⟩ := Steps.callFree hM p X.admits X.cas X.clock (acts := []) hfr happ hPc trivial
  have hq' : vx_Q Qc XC mc ms free a (U.calling g mk a) o s₂ := hq
  rw [State.frames_setTop' g h.top] at hend
  obtain ⟨g₀, hg0⟩ := Option.isSome_iff_exists.mp h.top
  obtain ⟨r, hr⟩ := State.topJava?_eq_some.mp hg0
  have hr' : (({ U with heap := s₂.heap, slotsUsed := s₂.slotsUsed } : State).setVm s₂.vm).frames = .java g₀ :: r := hr
  rcases hq' with ⟨hqc, L, hfe, hL⟩ | ⟨q, rfl, E, ce, L, hx, hce, hcv, hcl, hW₂, hsm, hL⟩
  · obtain ⟨⟨v, rfl⟩, hW₂, e2, q2, q3, q4, q5, q6⟩ := id hfe
    have e3 : s₂ = ({ (U.calling g mk a).setFrames s₂.frames with heap := s₂.heap, slotsUsed := s₂.slotsUsed } : State).setVm s₂.vm := by
      have : s₂ = ({ s₂ with vm := (U.calling g mk a).vm } : State).setVm s₂.vm := rfl
      rw [e2] at this
      exact this
    obtain ⟨c₂, i₂, len₂, hc₂, hd₂, hf₂⟩ := hend
    have hW' : U.WarmedH s₂.vm := hW₂
    have hcc : c₂ = c := by
      have h1 : s₂.code? g.method = U.code? g.method := by
        rw [State.code?_eq, State.code?_eq, hW'.alike.method?]
      exact Option.some.inj (hc₂.symm.trans (h1.trans h.code))
    subst hcc
    have hlen : len₂ = len := by rw [hdg] at hd₂; cases hd₂; rfl
    subst hlen
    have hs₂ : s₂ = (({ U with heap := s₂.heap, slotsUsed := s₂.slotsUsed } : State).setVm s₂.vm).setTop { g with pc := g.pc + len₂, stack := v.toList ++ g.stack } := by
      refine e3.trans ?_
      rw [hf₂, State.calling_eq h.top, State.setFrames_setFrames, State.setTop_of_frames _ hr', hr]
      rfl
    have hsame : U.sameButNew ({ U with heap := s₂.heap, slotsUsed := s₂.slotsUsed } : State) L mc ms := by
      refine ⟨?_, q2, q3, q4, q5, q6⟩
      obtain ⟨t, ht, -⟩ := State.frames_cons hr
      show ({ U with heap := s₂.heap, slotsUsed := s₂.slotsUsed } : State) = { U.setFrames U.frames with heap := s₂.heap, slotsUsed := s₂.slotsUsed }
      rw [State.setFrames_self ht]
    subst hg
    refine Or.inl ⟨v, ⟨(({ U with heap := s₂.heap, slotsUsed := s₂.slotsUsed } : State).setVm s₂.vm), Ls ++ L, c0 + mc, s0 + ms⟩,
      ⟨X.admits, X.cas, X.clock, X.frames, X.room, X.hears, X.method, X.code, (X.here.setHeapUsed s₂.heap s₂.slotsUsed).setVm hW'.alike, X.tail, State.WarmedH.trans X.warmed hW', X.limits, X.bytes, X.same.trans (hsame.setVm s.vm)⟩,
      ⟨g, mk, s₂, L, rfl, rfl, hqc, rfl, hL, rfl, rfl⟩, ?_⟩
    show Steps p.tables e below _ ((({ U with heap := s₂.heap, slotsUsed := s₂.slotsUsed } : State).setVm s₂.vm).setTop { g with pc := g.pc + len₂, stack := v.toList ++ g.stack })
    rw [← hs₂]
    exact hsteps
  · obtain ⟨e2, q2, q3, q4, q5, q6⟩ := id hsm
    have e3 : s₂ = ({ (U.calling g mk a).setFrames s₂.frames with heap := s₂.heap, slotsUsed := s₂.slotsUsed } : State).setVm s₂.vm := by
      have : s₂ = ({ s₂ with vm := (U.calling g mk a).vm } : State).setVm s₂.vm := rfl
      rw [e2] at this
      exact this
    have hf₂ : s₂.frames = .throwing q :: .java g :: U.frames.tail := hend
    have hW' : U.WarmedH s₂.vm := hW₂
    have hs₂ : s₂ = ((({ U with heap := s₂.heap, slotsUsed := s₂.slotsUsed } : State).setVm s₂.vm).setTop g).pushFrame (.throwing q) := by
      refine e3.trans ?_
      rw [hf₂, State.calling_eq h.top, State.setFrames_setFrames, State.pushFrame, State.frames_setTop _ hr', State.setTop_of_frames _ hr', State.setFrames_setFrames, hr]
      rfl
    have hsame : U.sameButNew ({ U with heap := s₂.heap, slotsUsed := s₂.slotsUsed } : State) L mc ms := by
      refine ⟨?_, q2, q3, q4, q5, q6⟩
      obtain ⟨t, ht, -⟩ := State.frames_cons hr
      show ({ U with heap := s₂.heap, slotsUsed := s₂.slotsUsed } : State) = { U.setFrames U.frames with heap := s₂.heap, slotsUsed := s₂.slotsUsed }
      rw [State.setFrames_self ht]
    subst hg
    refine Or.inr ⟨q, ⟨(({ U with heap := s₂.heap, slotsUsed := s₂.slotsUsed } : State).setVm s₂.vm), Ls ++ L, c0 + mc, s0 + ms⟩,
      ⟨X.admits, X.cas, X.clock, X.frames, X.room, X.hears, X.method, X.code, (X.here.setHeapUsed s₂.heap s₂.slotsUsed).setVm hW'.alike, X.tail, State.WarmedH.trans X.warmed hW', X.limits, X.bytes, X.same.trans (hsame.setVm s.vm)⟩,
      ⟨g, mk, s₂, L, E, ce, rfl, rfl, hx, hce, hcv, hcl, rfl, hL, rfl, rfl⟩, ?_⟩
    show Steps p.tables e below _ (((({ U with heap := s₂.heap, slotsUsed := s₂.slotsUsed } : State).setVm s₂.vm).setTop g).pushFrame (.throwing q))
    rw [← hs₂]
    exact hsteps
end Payer
section Calls
variable {p : Program} {l : Launch} {e : Env} {R : Room} {s : State} {m : MethodId} {args : Array Value} {below : List Frame} {meth : Method} {c : Code} {T : State} {locs : List Loc} {cells slots : Nat}
theorem vx_callV (X : Stand p l e R s m args below meth c T locs cells slots) (hexec : p.tables.exec = Jvm.exec) {own C : String} {index : Nat} {y : MethodName} {bytes : ByteArray} {maxL : Nat} {ret : Option FieldType}
    (hown : s.vm.findClass own = some m.cls) (hlink : (Cond.methodLink own index y).before args s = true) (hinst : (Cond.instanceMethod y).before args s = true) (hsel : (Cond.selects C y y).before args s = true)
    (hcode : (Cond.code y bytes maxL ret).before args s = true) (hy : y.cls ≠ "java/lang/invoke/MethodHandle" ∧ y.cls ≠ "java/lang/invoke/VarHandle")
    {W9 : Nat} {Pre : Pt → Array Value → Prop} {Post : Pt → Array Value → Option Value → Pt → Prop} {PostX : Pt → Array Value → Addr → Pt → Prop} (hK : vx_Back l R p e below s args y 3 W9 Pre Post PostX)
    {b : Addr} {cellB : Cell} (hcell : T.heap[b]? = some cellB) (hobj : cellB.vm.isStatics = false) (hcls : s.vm.findClass C = some cellB.cls)
    {g : JFrame} (hg : g.method = m) (hsize : g.locals.size = c.maxLocals) {argsL rest : List Value} (hlen : ∀ sig, parseMethodDescriptor y.desc = some sig → argsL.length = sig.parameters.length)
    (hstack : g.stack = argsL.reverse ++ .ref b :: rest) (hW : 2 * g.monitorRoom + (rest.map fun v => v.category).sum ≤ W9) (hdg : decode c.code g.pc = .ok (.invokevirtual index, 3))
    (hpre : ∀ vm₁, s.WarmedH vm₁ → Pre ⟨T.setVm vm₁, locs, cells, slots⟩ (Value.ref b :: argsL).toArray) :
    (∃ (v : Option Value) (vm₁ : Vm) (B : Pt), s.WarmedH vm₁ ∧ Stand p l e R s m args below meth c B.U B.locs B.cells B.slots ∧ Post ⟨T.setVm vm₁, locs, cells, slots⟩ (Value.ref b :: argsL).toArray v B ∧
      ∀ target, Steps p.tables e below (B.U.setTop { g with pc := g.pc + 3, stack := v.toList ++ rest }) target → Steps p.tables e below (T.setTop g) target) ∨
    (∃ (q : Addr) (vm₁ : Vm) (B : Pt), s.WarmedH vm₁ ∧ Stand p l e R s m args below meth c B.U B.locs B.cells B.slots ∧ PostX ⟨T.setVm vm₁, locs, cells, slots⟩ (Value.ref b :: argsL).toArray q B ∧
      Steps p.tables e below (T.setTop g) ((B.U.setTop { g with stack := rest }).pushFrame (.throwing q))) := by
  obtain ⟨mk, methM, hnamed, hmethM, hstM, habM⟩ := Cond.instanceMethod_spec hinst
  obtain ⟨methM', cM, hmethM', -, -, -, -, -, -, hsigM⟩ := Cond.code_spec hnamed hcode
  cases hmethM.symm.trans hmethM'
  obtain ⟨c2, r2, m2, q1, q2, q3, q4, kP, hkP, hkPi⟩ := Cond.selects_spec hsel
  cases hcls.symm.trans q1
  cases (State.methodFound?_of_named hnamed hy).symm.trans q2
  cases hnamed.symm.trans q3
  have hselP : selectMethod e.platform s.vm cellB.cls mk = .method mk := by rw [Launch.admits_selectMethod X.admits]; exact q4
  obtain ⟨vm₁, X₁, hstep₁⟩ := X.invokevirtual hexec hown hlink hnamed hmethM hstM hkP hkPi hy (a := b) (cell := cellB) hcell
    (fun z h => by rw [h] at hobj; cases hobj) hselP hmethM habM hkP hkPi (g := g) hg (argsL := argsL) (rest := rest) (hlen _ hsigM) hstack hdg
  rcases hK m meth c ⟨T.setVm vm₁, locs, cells, slots⟩ { g with stack := rest } (.invokevirtual index) mk (Value.ref b :: argsL).toArray X₁ hg hsize hdg hW (X₁.named hnamed) (hpre vm₁ X₁.warmed) with ⟨v, B, X', hpost, hsteps⟩ | ⟨q, B, X', hpost, hsteps⟩
  · exact Or.inl ⟨v, vm₁, B, X₁.warmed, X', hpost, fun target h => hstep₁ _ fun acts => by rw [doInvoke_state]; exact hsteps.trans h⟩
  · exact Or.inr ⟨q, vm₁, B, X₁.warmed, X', hpost, hstep₁ _ fun acts => by rw [doInvoke_state]; exact hsteps⟩
theorem vx_callS (X : Stand p l e R s m args below meth c T locs cells slots) (hexec : p.tables.exec = Jvm.exec) {own : String} {index : Nat} {y : MethodName} {bytes : ByteArray} {maxL : Nat} {ret : Option FieldType}
    (hown : s.vm.findClass own = some m.cls) (hlink : (Cond.methodLink own index y).before args s = true) (hstat : (Cond.static y).before args s = true) (hinit : (Cond.initialized y.cls).before args s = true)
    (hcode : (Cond.code y bytes maxL ret).before args s = true) (hy : y.cls ≠ "java/lang/invoke/MethodHandle" ∧ y.cls ≠ "java/lang/invoke/VarHandle")
    {W9 : Nat} {Pre : Pt → Array Value → Prop} {Post : Pt → Array Value → Option Value → Pt → Prop} {PostX : Pt → Array Value → Addr → Pt → Prop} (hK : vx_Back l R p e below s args y 3 W9 Pre Post PostX)
    {g : JFrame} (hg : g.method = m) (hsize : g.locals.size = c.maxLocals) {argsL rest : List Value} (hlen : ∀ sig, parseMethodDescriptor y.desc = some sig → argsL.length = sig.parameters.length)
    (hstack : g.stack = argsL.reverse ++ rest) (hW : 2 * g.monitorRoom + (rest.map fun v => v.category).sum ≤ W9) (hdg : decode c.code g.pc = .ok (.invokestatic index, 3))
    (hpre : ∀ vm₁, s.WarmedH vm₁ → Pre ⟨T.setVm vm₁, locs, cells, slots⟩ argsL.toArray) :
    (∃ (v : Option Value) (vm₁ : Vm) (B : Pt), s.WarmedH vm₁ ∧ Stand p l e R s m args below meth c B.U B.locs B.cells B.slots ∧ Post ⟨T.setVm vm₁, locs, cells, slots⟩ argsL.toArray v B ∧
      ∀ target, Steps p.tables e below (B.U.setTop { g with pc := g.pc + 3, stack := v.toList ++ rest }) target → Steps p.tables e below (T.setTop g) target) ∨
    (∃ (q : Addr) (vm₁ : Vm) (B : Pt), s.WarmedH vm₁ ∧ Stand p l e R s m args below meth c B.U B.locs B.cells B.slots ∧ PostX ⟨T.setVm vm₁, locs, cells, slots⟩ argsL.toArray q B ∧
      Steps p.tables e below (T.setTop g) ((B.U.setTop { g with stack := rest }).pushFrame (.throwing q))) := by
  obtain ⟨mk, hnamed⟩ := Cond.code_named hcode
  obtain ⟨methM, cM, hmethM, -, -, -, -, -, -, hsigM⟩ := Cond.code_spec hnamed hcode
  have hstatic : methM.isStatic = true := Cond.static_spec hnamed hmethM hstat
  obtain ⟨kP, hkP, -⟩ := className_of_methodNamed hnamed
  have hinitP : kP.init = .initialized := Cond.initialized_spec (findClass_of_methodNamed hnamed) hkP hinit
  obtain ⟨vm₁, X₁, hstep₁⟩ := X.invokestatic hexec hown hlink hnamed hmethM hstatic hkP hinitP hy (g := g) hg (argsL := argsL) (rest := rest) (hlen _ hsigM) hstack hdg
  rcases hK m meth c ⟨T.setVm vm₁, locs, cells, slots⟩ { g with stack := rest } (.invokestatic index) mk argsL.toArray X₁ hg hsize hdg hW (X₁.named hnamed) (hpre vm₁ X₁.warmed) with ⟨v, B, X', hpost, hsteps⟩ | ⟨q, B, X', hpost, hsteps⟩
  · exact Or.inl ⟨v, vm₁, B, X₁.warmed, X', hpost, fun target h => hstep₁ _ fun acts => by rw [doInvoke_state]; exact hsteps.trans h⟩
  · exact Or.inr ⟨q, vm₁, B, X₁.warmed, X', hpost, hstep₁ _ fun acts => by rw [doInvoke_state]; exact hsteps⟩
end Calls
theorem vx_cls {s : State} {T : State} {vm₁ : Vm} {E : String} {k : ClassId} (hW : s.WarmedH vm₁) (h : (T.setVm vm₁).vm.findClass E = some k) : s.vm.findClass E = some k := by
  have h1 : vm₁.findClass E = some k := h
  rw [hW.alike.findClass] at h1
  exact h1
/-- the method's frame g, with q thrown over it -/
def vx_W (p : Program) (l : Launch) (e : Env) (R : Room) (s : State) (m : MethodId) (args : Array Value) (below : List Frame) (meth : Method) (c : Code) (H : Heap) (locs : List Loc) (cells slots : Nat) (Q : State → Prop) (g : JFrame) (q : Addr) : Prop :=
  ∀ T : State, T.heap = H → Stand p l e R s m args below meth c T locs cells slots → ∃ t, Steps p.tables e below ((T.setTop g).pushFrame (.throwing q)) t ∧ Q t
def vx_Run (p : Program) (l : Launch) (e : Env) (R : Room) (s : State) (m : MethodId) (args : Array Value) (below : List Frame) (meth : Method) (c : Code) (H : Heap) (locs : List Loc) (cells slots mc ms : Nat) (g : JFrame) (rest : List Value) (Qa : State → Outcome → State → Prop) (XC : String → State → State → Prop) (free : Addr → Prop) : Prop :=
  ∀ T : State, T.heap = H → Stand p l e R s m args below meth c T locs cells slots →
    (∃ (v : Option Value) (st₀ t T' : State) (L : List Loc), st₀.heap = H ∧ Stand p l e R s m args below meth c T' (locs ++ L) (cells + mc) (slots + ms) ∧ (∀ q ∈ L, free q.base) ∧ T'.heap = t.heap ∧ T'.vm = t.vm ∧ Qa st₀ (.returned v) t ∧
      Goes p e below T g T' { g with pc := g.pc + 3, stack := v.toList ++ rest }) ∨
    (∃ (q : Addr) (st₀ t T' : State) (L : List Loc) (E : String) (ce : Cell), st₀.heap = H ∧ Stand p l e R s m args below meth c T' (locs ++ L) (cells + mc) (slots + ms) ∧ (∀ z ∈ L, free z.base) ∧ T'.heap = t.heap ∧ T'.vm = t.vm ∧ XC E st₀ t ∧ t.heap[q]? = some ce ∧ ce.vm = .none ∧ s.vm.findClass E = some ce.cls ∧
      Steps p.tables e below (T.setTop g) ((T'.setTop { g with stack := rest }).pushFrame (.throwing q)))
def vx_X {S : Type} (px : S → Prop) (B : String → S → State → Prop) (A : Nat → Prop) : String → State → State → Prop := fun E st t => ∃ u : S, px u ∧ B E u t ∧ va_F A st t
section Runs
variable {p : Program} {l : Launch} {e : Env} {R : Room} {s : State} {m : MethodId} {args : Array Value} {below : List Frame} {meth : Method} {c : Code} {H : Heap} {locs : List Loc} {cells slots : Nat}
variable {y : MethodName} {bytes cc : ByteArray} {maxL nL mc ms n index : Nat} {ret : Option FieldType} {ws : List Cond} {rm : Room} {Pc : Array Value → State → Prop} {Qc : Array Value → State → Outcome → State → Prop} {XC : String → State → State → Prop} {free : Addr → Prop} {Ts : List Cond} {own C : String} {b : Addr} {As rest : List Value} {g : JFrame}
theorem vx_callBack (cb : CallB R s args own index y bytes maxL ret ws rm mc ms n) (hM : vx_Met l y ws rm Pc Qc XC mc ms free) (hbl : FrameBlind Pc) : vx_Back l R p e below s args y 3 8 (PreOf R mc ms Pc) (PostOf Qc mc ms free) (vx_Post XC mc ms free) := by
  obtain ⟨hrc, hrs, hfr, hlo, hws, hcw, -, hini, -⟩ := cb
  exact vx_back (bytes := bytes) (maxL := maxL) (ret := ret) hM hbl hrc hrs hfr hlo hws hcw (fun a' U hW => word_at hW (Or.inl (by first | rfl | simp [Cond.onTables, Cond.keeps, Cond.steady])) hini)
theorem vx_runV (S : CallFix p m c cc nL s args Ts own) (hM : vx_Met l y ws rm Pc Qc XC mc ms free) (cw : CallW R s args own C index y bytes maxL ret ws rm mc ms n) (hp : PreV s H C b Pc As)
    (hg : g.method = m) (hn : As.length = n) (hsize : g.locals.size = nL) (hstack : g.stack = As.reverse ++ .ref b :: rest) (hW : 2 * g.monitorRoom + (rest.map fun v => v.category).sum ≤ 8) (hdg : decode cc g.pc = .ok (.invokevirtual index, 3)) (hf : cells + mc ≤ R.cells ∧ slots + ms ≤ R.slots) :
    vx_Run p l e R s m args below meth c H locs cells slots mc ms g rest (Qc (Value.ref b :: As).toArray) XC free := by
  have hK : vx_Back l R p e below s args y 3 8 (PreOf R mc ms Pc) (PostOf Qc mc ms free) (vx_Post XC mc ms free) := vx_callBack cw.1 hM hp.1
  obtain ⟨⟨-, -, -, -, -, -, hcode, -, hy, hlen, hl⟩, hin, hse⟩ := cw
  obtain ⟨hx, hb, hml, ho, -⟩ := S
  obtain ⟨-, ⟨cellB, hcB, hoB, hclB⟩, hPc⟩ := hp
  intro T hT X
  rcases vx_callV X hx (C := C) (bytes := bytes) (maxL := maxL) (ret := ret) ho hl hin hse hcode hy hK (by rw [hT]; exact hcB) hoB hclB hg (hsize.trans hml.symm) (argsL := As) (rest := rest) (fun sig h => hn.trans (hlen sig h)) hstack hW (by rw [hb]; exact hdg)
    (fun vm₁ hW₁ => ⟨hf.1, hf.2, hPc (T.setVm vm₁) hT hW₁⟩) with ⟨v, vm₁, ⟨U', l2, c2, s2⟩, hW₁, X', ⟨g', mk, t, L, e1, e2, hq, h1, hL, h2, h3⟩, st⟩ | ⟨q, vm₁, ⟨U', l2, c2, s2⟩, hW₁, X', ⟨g', mk, t, L, E, ce, e1, e2, hq, hce, hcv, hcl, h1, hL, h2, h3⟩, st⟩
  · dsimp only [Pt.U, Pt.locs, Pt.cells, Pt.slots] at X' e1 e2 h1 h2 h3 st
    subst h1; subst h2; subst h3
    exact Or.inl ⟨v, (T.setVm vm₁).calling g' mk (Value.ref b :: As).toArray, t, U', L, hT, X', hL, e1, e2, hq, st⟩
  · dsimp only [Pt.U, Pt.locs, Pt.cells, Pt.slots] at X' e1 e2 h1 h2 h3 st hcl
    subst h1; subst h2; subst h3
    exact Or.inr ⟨q, (T.setVm vm₁).calling g' mk (Value.ref b :: As).toArray, t, U', L, E, ce, hT, X', hL, e1, e2, hq, hce, hcv, vx_cls hW₁ hcl, st⟩
theorem vx_runS (S : CallFix p m c cc nL s args Ts own) (hM : vx_Met l y ws rm Pc Qc XC mc ms free) (cw : CallB R s args own index y bytes maxL ret ws rm mc ms n ∧ (Cond.static y).before args s = true) (hp : PreS s H Pc As)
    (hg : g.method = m) (hn : As.length = n) (hsize : g.locals.size = nL) (hstack : g.stack = As.reverse ++ rest) (hW : 2 * g.monitorRoom + (rest.map fun v => v.category).sum ≤ 8) (hdg : decode cc g.pc = .ok (.invokestatic index, 3)) (hf : cells + mc ≤ R.cells ∧ slots + ms ≤ R.slots) :
    vx_Run p l e R s m args below meth c H locs cells slots mc ms g rest (Qc As.toArray) XC free := by
  have hK : vx_Back l R p e below s args y 3 8 (PreOf R mc ms Pc) (PostOf Qc mc ms free) (vx_Post XC mc ms free) := vx_callBack cw.1 hM hp.1
  obtain ⟨⟨-, -, -, -, -, -, hcode, hini, hy, hlen, hl⟩, hstt⟩ := cw
  obtain ⟨hx, hb, hml, ho, -⟩ := S
  intro T hT X
  rcases vx_callS X hx (bytes := bytes) (maxL := maxL) (ret := ret) ho hl hstt hini hcode hy hK hg (hsize.trans hml.symm) (argsL := As) (rest := rest) (fun sig h => hn.trans (hlen sig h)) hstack hW (by rw [hb]; exact hdg)
    (fun vm₁ hW₁ => ⟨hf.1, hf.2, hp.2 (T.setVm vm₁) hT hW₁⟩) with ⟨v, vm₁, ⟨U', l2, c2, s2⟩, hW₁, X', ⟨g', mk, t, L, e1, e2, hq, h1, hL, h2, h3⟩, st⟩ | ⟨q, vm₁, ⟨U', l2, c2, s2⟩, hW₁, X', ⟨g', mk, t, L, E, ce, e1, e2, hq, hce, hcv, hcl, h1, hL, h2, h3⟩, st⟩
  · dsimp only [Pt.U, Pt.locs, Pt.cells, Pt.slots] at X' e1 e2 h1 h2 h3 st
    subst h1; subst h2; subst h3
    exact Or.inl ⟨v, (T.setVm vm₁).calling g' mk As.toArray, t, U', L, hT, X', hL, e1, e2, hq, st⟩
  · dsimp only [Pt.U, Pt.locs, Pt.cells, Pt.slots] at X' e1 e2 h1 h2 h3 st hcl
    subst h1; subst h2; subst h3
    exact Or.inr ⟨q, (T.setVm vm₁).calling g' mk As.toArray, t, U', L, E, ce, hT, X', hL, e1, e2, hq, hce, hcv, vx_cls hW₁ hcl, st⟩
end Runs
section Rows
variable {p : Program} {l : Launch} {e : Env} {R : Room} {s : State} {m : MethodId} {args : Array Value} {below : List Frame} {meth : Method} {c : Code} {H : Heap} {locs : List Loc} {cells slots : Nat} {Q : State → Prop}
variable {mc ms : Nat} {free : Addr → Prop} {A0 A1 : Nat → Prop} {H0 : Heap} {a : Array Value} {pc : Nat} {ls : Array Slot} {st0 rest : List Value}
theorem vx_keep {st₀ t T' : State} {L : List Loc} (h0 : st₀.heap = H) (e1 : T'.heap = t.heap) (hS : va_S A0 H0 H locs) (hA : ∀ q, q < H.size → A1 q → A0 q) (hf : ∀ q, free q → A0 q) (hL : ∀ q ∈ L, free q.base) (hF : va_F A1 st₀ t) :
    H.size ≤ T'.heap.size ∧ (∀ q : Nat, q < H.size → ¬ A1 q → T'.heap[q]? = H[q]?) ∧ va_S A0 H0 T'.heap (locs ++ L) := by
  obtain ⟨hz, hk⟩ := hF
  rw [h0] at hz hk
  exact ⟨by rw [e1]; exact hz, fun q h1 h2 => by rw [e1]; exact hk q h1 h2,
    ⟨Nat.le_trans hS.1 (by rw [e1]; exact hz), fun q h1 h2 => by rw [e1, hk q (Nat.lt_of_lt_of_le h1 hS.1) (fun z => h2 (hA q (Nat.lt_of_lt_of_le h1 hS.1) z))]; exact hS.2.1 q h1 h2, fun q hq => by
      rcases List.mem_append.mp hq with h | h
      · exact hS.2.2 q h
      · exact hf _ (hL q h)⟩⟩
theorem vx_calli {S SX : Type} {post : Int32 → S → Prop} {px : SX → Prop} {B : S → State → Prop} {BX : String → SX → State → Prop} {AX : Nat → Prop} (hr : vx_Run p l e R s m args below meth c H locs cells slots mc ms (F0 m pc ls st0) rest (va_Qi post B A1 a) (vx_X px BX AX) free) (hS : va_S A0 H0 H locs) (hA : ∀ q, q < H.size → A1 q → A0 q) (hf : ∀ q, free q → A0 q) (hAX : ∀ q, q < H.size → AX q → A0 q)
    (kx : ∀ (E : String) (ce : Cell) (q9 : Addr) (u : SX) (t : State) (H1 : Heap) (locs1 : List Loc), t.heap = H1 → s.vm.Alike t.vm → px u → BX E u t → H.size ≤ H1.size → (∀ q : Nat, q < H.size → ¬ AX q → H1[q]? = H[q]?) → va_S A0 H0 H1 locs1 → H1[q9]? = some ce → ce.vm = .none → s.vm.findClass E = some ce.cls → vx_W p l e R s m args below meth c H1 locs1 (cells + mc) (slots + ms) Q (F0 m pc ls rest) q9)
    (kk : ∀ (r : Int32) (u : S) (t : State) (H1 : Heap) (locs1 : List Loc), t.heap = H1 → s.vm.Alike t.vm → post r u → B u t → H.size ≤ H1.size → (∀ q : Nat, q < H.size → ¬ A1 q → H1[q]? = H[q]?) → va_S A0 H0 H1 locs1 → W p l e R s m args below meth c H1 locs1 (cells + mc) (slots + ms) Q (F0 m (pc + 3) ls (.int r :: rest))) : W p l e R s m args below meth c H locs cells slots Q (F0 m pc ls st0) := by
  intro T hT X
  rcases hr T hT X with ⟨v, st₀, t, T', L, h0, X', hL, e1, e2, ⟨⟨r, u, hv, hp, hb⟩, hF⟩, st⟩ | ⟨q, st₀, t, T', L, E, ce, h0, X', hL, e1, e2, ⟨u, hp, hb, hF⟩, hce, hcv, hcl, st⟩
  · cases hv
    obtain ⟨k1, k2, k3⟩ := vx_keep h0 e1 hS hA hf hL hF
    obtain ⟨t2, a1, b1⟩ := kk r u t T'.heap (locs ++ L) e1.symm (by rw [← e2]; exact X'.warmed.alike) hp hb k1 k2 k3 T' rfl X'
    exact ⟨t2, st t2 a1, b1⟩
  · obtain ⟨k1, k2, k3⟩ := vx_keep h0 e1 hS hAX hf hL hF
    obtain ⟨t2, a1, b1⟩ := kx E ce q u t T'.heap (locs ++ L) e1.symm (by rw [← e2]; exact X'.warmed.alike) hp hb k1 k2 k3 (by rw [e1]; exact hce) hcv hcl T' rfl X'
    exact ⟨t2, st.trans a1, b1⟩
theorem vx_calll {S SX : Type} {post : Int64 → S → Prop} {px : SX → Prop} {B : S → State → Prop} {BX : String → SX → State → Prop} {AX : Nat → Prop} (hr : vx_Run p l e R s m args below meth c H locs cells slots mc ms (F0 m pc ls st0) rest (va_Ql post B A1 a) (vx_X px BX AX) free) (hS : va_S A0 H0 H locs) (hA : ∀ q, q < H.size → A1 q → A0 q) (hf : ∀ q, free q → A0 q) (hAX : ∀ q, q < H.size → AX q → A0 q)
    (kx : ∀ (E : String) (ce : Cell) (q9 : Addr) (u : SX) (t : State) (H1 : Heap) (locs1 : List Loc), t.heap = H1 → s.vm.Alike t.vm → px u → BX E u t → H.size ≤ H1.size → (∀ q : Nat, q < H.size → ¬ AX q → H1[q]? = H[q]?) → va_S A0 H0 H1 locs1 → H1[q9]? = some ce → ce.vm = .none → s.vm.findClass E = some ce.cls → vx_W p l e R s m args below meth c H1 locs1 (cells + mc) (slots + ms) Q (F0 m pc ls rest) q9)
    (kk : ∀ (r : Int64) (u : S) (t : State) (H1 : Heap) (locs1 : List Loc), t.heap = H1 → s.vm.Alike t.vm → post r u → B u t → H.size ≤ H1.size → (∀ q : Nat, q < H.size → ¬ A1 q → H1[q]? = H[q]?) → va_S A0 H0 H1 locs1 → W p l e R s m args below meth c H1 locs1 (cells + mc) (slots + ms) Q (F0 m (pc + 3) ls (.long r :: rest))) : W p l e R s m args below meth c H locs cells slots Q (F0 m pc ls st0) := by
  intro T hT X
  rcases hr T hT X with ⟨v, st₀, t, T', L, h0, X', hL, e1, e2, ⟨⟨r, u, hv, hp, hb⟩, hF⟩, st⟩ | ⟨q, st₀, t, T', L, E, ce, h0, X', hL, e1, e2, ⟨u, hp, hb, hF⟩, hce, hcv, hcl, st⟩
  · cases hv
    obtain ⟨k1, k2, k3⟩ := vx_keep h0 e1 hS hA hf hL hF
    obtain ⟨t2, a1, b1⟩ := kk r u t T'.heap (locs ++ L) e1.symm (by rw [← e2]; exact X'.warmed.alike) hp hb k1 k2 k3 T' rfl X'
    exact ⟨t2, st t2 a1, b1⟩
  · obtain ⟨k1, k2, k3⟩ := vx_keep h0 e1 hS hAX hf hL hF
    obtain ⟨t2, a1, b1⟩ := kx E ce q u t T'.heap (locs ++ L) e1.symm (by rw [← e2]; exact X'.warmed.alike) hp hb k1 k2 k3 (by rw [e1]; exact hce) hcv hcl T' rfl X'
    exact ⟨t2, st.trans a1, b1⟩
theorem vx_callf {S SX : Type} {post : UInt32 → S → Prop} {px : SX → Prop} {B : S → State → Prop} {BX : String → SX → State → Prop} {AX : Nat → Prop} (hr : vx_Run p l e R s m args below meth c H locs cells slots mc ms (F0 m pc ls st0) rest (va_Qf post B A1 a) (vx_X px BX AX) free) (hS : va_S A0 H0 H locs) (hA : ∀ q, q < H.size → A1 q → A0 q) (hf : ∀ q, free q → A0 q) (hAX : ∀ q, q < H.size → AX q → A0 q)
    (kx : ∀ (E : String) (ce : Cell) (q9 : Addr) (u : SX) (t : State) (H1 : Heap) (locs1 : List Loc), t.heap = H1 → s.vm.Alike t.vm → px u → BX E u t → H.size ≤ H1.size → (∀ q : Nat, q < H.size → ¬ AX q → H1[q]? = H[q]?) → va_S A0 H0 H1 locs1 → H1[q9]? = some ce → ce.vm = .none → s.vm.findClass E = some ce.cls → vx_W p l e R s m args below meth c H1 locs1 (cells + mc) (slots + ms) Q (F0 m pc ls rest) q9)
    (kk : ∀ (r : UInt32) (u : S) (t : State) (H1 : Heap) (locs1 : List Loc), t.heap = H1 → s.vm.Alike t.vm → post r u → B u t → H.size ≤ H1.size → (∀ q : Nat, q < H.size → ¬ A1 q → H1[q]? = H[q]?) → va_S A0 H0 H1 locs1 → W p l e R s m args below meth c H1 locs1 (cells + mc) (slots + ms) Q (F0 m (pc + 3) ls (.float r :: rest))) : W p l e R s m args below meth c H locs cells slots Q (F0 m pc ls st0) := by
  intro T hT X
  rcases hr T hT X with ⟨v, st₀, t, T', L, h0, X', hL, e1, e2, ⟨⟨r, u, hv, hp, hb⟩, hF⟩, st⟩ | ⟨q, st₀, t, T', L, E, ce, h0, X', hL, e1, e2, ⟨u, hp, hb, hF⟩, hce, hcv, hcl, st⟩
  · cases hv
    obtain ⟨k1, k2, k3⟩ := vx_keep h0 e1 hS hA hf hL hF
    obtain ⟨t2, a1, b1⟩ := kk r u t T'.heap (locs ++ L) e1.symm (by rw [← e2]; exact X'.warmed.alike) hp hb k1 k2 k3 T' rfl X'
    exact ⟨t2, st t2 a1, b1⟩
  · obtain ⟨k1, k2, k3⟩ := vx_keep h0 e1 hS hAX hf hL hF
    obtain ⟨t2, a1, b1⟩ := kx E ce q u t T'.heap (locs ++ L) e1.symm (by rw [← e2]; exact X'.warmed.alike) hp hb k1 k2 k3 (by rw [e1]; exact hce) hcv hcl T' rfl X'
    exact ⟨t2, st.trans a1, b1⟩
theorem vx_calld {S SX : Type} {post : UInt64 → S → Prop} {px : SX → Prop} {B : S → State → Prop} {BX : String → SX → State → Prop} {AX : Nat → Prop} (hr : vx_Run p l e R s m args below meth c H locs cells slots mc ms (F0 m pc ls st0) rest (va_Qd post B A1 a) (vx_X px BX AX) free) (hS : va_S A0 H0 H locs) (hA : ∀ q, q < H.size → A1 q → A0 q) (hf : ∀ q, free q → A0 q) (hAX : ∀ q, q < H.size → AX q → A0 q)
    (kx : ∀ (E : String) (ce : Cell) (q9 : Addr) (u : SX) (t : State) (H1 : Heap) (locs1 : List Loc), t.heap = H1 → s.vm.Alike t.vm → px u → BX E u t → H.size ≤ H1.size → (∀ q : Nat, q < H.size → ¬ AX q → H1[q]? = H[q]?) → va_S A0 H0 H1 locs1 → H1[q9]? = some ce → ce.vm = .none → s.vm.findClass E = some ce.cls → vx_W p l e R s m args below meth c H1 locs1 (cells + mc) (slots + ms) Q (F0 m pc ls rest) q9)
    (kk : ∀ (r : UInt64) (u : S) (t : State) (H1 : Heap) (locs1 : List Loc), t.heap = H1 → s.vm.Alike t.vm → post r u → B u t → H.size ≤ H1.size → (∀ q : Nat, q < H.size → ¬ A1 q → H1[q]? = H[q]?) → va_S A0 H0 H1 locs1 → W p l e R s m args below meth c H1 locs1 (cells + mc) (slots + ms) Q (F0 m (pc + 3) ls (.double r :: rest))) : W p l e R s m args below meth c H locs cells slots Q (F0 m pc ls st0) := by
  intro T hT X
  rcases hr T hT X with ⟨v, st₀, t, T', L, h0, X', hL, e1, e2, ⟨⟨r, u, hv, hp, hb⟩, hF⟩, st⟩ | ⟨q, st₀, t, T', L, E, ce, h0, X', hL, e1, e2, ⟨u, hp, hb, hF⟩, hce, hcv, hcl, st⟩
  · cases hv
    obtain ⟨k1, k2, k3⟩ := vx_keep h0 e1 hS hA hf hL hF
    obtain ⟨t2, a1, b1⟩ := kk r u t T'.heap (locs ++ L) e1.symm (by rw [← e2]; exact X'.warmed.alike) hp hb k1 k2 k3 T' rfl X'
    exact ⟨t2, st t2 a1, b1⟩
  · obtain ⟨k1, k2, k3⟩ := vx_keep h0 e1 hS hAX hf hL hF
    obtain ⟨t2, a1, b1⟩ := kx E ce q u t T'.heap (locs ++ L) e1.symm (by rw [← e2]; exact X'.warmed.alike) hp hb k1 k2 k3 (by rw [e1]; exact hce) hcv hcl T' rfl X'
    exact ⟨t2, st.trans a1, b1⟩
theorem vx_callv {S SX : Type} {post : S → Prop} {px : SX → Prop} {B : S → State → Prop} {BX : String → SX → State → Prop} {AX : Nat → Prop} (hr : vx_Run p l e R s m args below meth c H locs cells slots mc ms (F0 m pc ls st0) rest (va_Qv post B A1 a) (vx_X px BX AX) free) (hS : va_S A0 H0 H locs) (hA : ∀ q, q < H.size → A1 q → A0 q) (hf : ∀ q, free q → A0 q) (hAX : ∀ q, q < H.size → AX q → A0 q)
    (kx : ∀ (E : String) (ce : Cell) (q9 : Addr) (u : SX) (t : State) (H1 : Heap) (locs1 : List Loc), t.heap = H1 → s.vm.Alike t.vm → px u → BX E u t → H.size ≤ H1.size → (∀ q : Nat, q < H.size → ¬ AX q → H1[q]? = H[q]?) → va_S A0 H0 H1 locs1 → H1[q9]? = some ce → ce.vm = .none → s.vm.findClass E = some ce.cls → vx_W p l e R s m args below meth c H1 locs1 (cells + mc) (slots + ms) Q (F0 m pc ls rest) q9)
    (kk : ∀ (u : S) (t : State) (H1 : Heap) (locs1 : List Loc), t.heap = H1 → s.vm.Alike t.vm → post u → B u t → H.size ≤ H1.size → (∀ q : Nat, q < H.size → ¬ A1 q → H1[q]? = H[q]?) → va_S A0 H0 H1 locs1 → W p l e R s m args below meth c H1 locs1 (cells + mc) (slots + ms) Q (F0 m (pc + 3) ls (rest))) : W p l e R s m args below meth c H locs cells slots Q (F0 m pc ls st0) := by
  intro T hT X
  rcases hr T hT X with ⟨v, st₀, t, T', L, h0, X', hL, e1, e2, ⟨⟨u, hv, hp, hb⟩, hF⟩, st⟩ | ⟨q, st₀, t, T', L, E, ce, h0, X', hL, e1, e2, ⟨u, hp, hb, hF⟩, hce, hcv, hcl, st⟩
  · cases hv
    obtain ⟨k1, k2, k3⟩ := vx_keep h0 e1 hS hA hf hL hF
    obtain ⟨t2, a1, b1⟩ := kk u t T'.heap (locs ++ L) e1.symm (by rw [← e2]; exact X'.warmed.alike) hp hb k1 k2 k3 T' rfl X'
    exact ⟨t2, st t2 a1, b1⟩
  · obtain ⟨k1, k2, k3⟩ := vx_keep h0 e1 hS hAX hf hL hF
    obtain ⟨t2, a1, b1⟩ := kx E ce q u t T'.heap (locs ++ L) e1.symm (by rw [← e2]; exact X'.warmed.alike) hp hb k1 k2 k3 (by rw [e1]; exact hce) hcv hcl T' rfl X'
    exact ⟨t2, st.trans a1, b1⟩
/-- caught by the row x of this method's table; the rows ahead don't take it -/
theorem vx_catch {own name : String} {E : String} {ce : Cell} {q : Addr} (hown : s.vm.findClass own = some m.cls) (pre : List ExceptionTableEntry) (x : ExceptionTableEntry) (suf : List ExceptionTableEntry) (hsplit : c.exceptionTable.toList = pre ++ x :: suf)
    (hpass : ∀ z ∈ pre, covers z pc = false ∨ (z.catchType ≠ 0 ∧ ∃ nm : String, (Cond.classLink own z.catchType nm).before args s = true ∧ va_Nc E nm s)) (hx : covers x pc = true) (h0 : x.catchType ≠ 0)
    (hlink : (Cond.classLink own x.catchType name).before args s = true) (hcast : (Cond.castable E name).before args s = true) (hcell : H[q]? = some ce) (hv : ce.vm = .none) (hcl : s.vm.findClass E = some ce.cls)
    (kk : W p l e R s m args below meth c H locs cells slots Q (F0 m x.handlerPc ls [.ref q])) : vx_W p l e R s m args below meth c H locs cells slots Q (F0 m pc ls rest) q := by
  intro T hT X
  have hpl : e.platform.magicAccessors = ({} : Platform).magicAccessors := by rw [X.admits.platform]
  obtain ⟨c3, c4, hc3, hc4, hasg⟩ := Cond.castable_spec hcast
  cases Option.some.inj (hc3.symm.trans hcl)
  obtain ⟨c5, hc5, hcl5⟩ := Cond.classLink_spec hown hlink e.platform hpl
  cases Option.some.inj (hc4.symm.trans hc5)
  obtain ⟨vm', X', st⟩ := X.thenCaughtThrough q (g := F0 m pc ls rest) rfl (Steps.refl _) (by rw [hT]; exact hcell) (by rw [hv]; rfl) (by obtain ⟨k9, h9, -⟩ := Vm.findClass_spec hcl; exact ⟨k9, h9⟩) pre x suf hsplit
    (fun z hz => by
      rcases hpass z hz with h | ⟨hz0, nm, hl1, hn1⟩
      · exact Or.inl h
      · obtain ⟨c6, hc6, hcl6⟩ := Cond.classLink_spec hown hl1 e.platform hpl
        obtain ⟨a8, b8, h1, h2, h3⟩ := hn1
        cases Option.some.inj (h1.symm.trans hcl)
        cases Option.some.inj (h2.symm.trans hc6)
        exact Or.inr ⟨hz0, _, hcl6, h3⟩) hx (Or.inr ⟨h0, c4, hcl5, hasg⟩)
  obtain ⟨t, a1, b1⟩ := kk (T.setVm vm') hT X'
  exact ⟨t, st.trans a1, b1⟩
end Rows
section Ends
variable {p : Program} {l : Launch} {e : Env} {R : Room} {s : State} {m : MethodId} {args : Array Value} {below : List Frame} {meth : Method} {c : Code} {H : Heap} {locs : List Loc} {cells slots : Nat} {Q : State → Prop}
variable {mc ms : Nat} {free : Addr → Prop} {A0 A1 : Nat → Prop} {H0 : Heap} {a : Array Value} {ls : Array Slot} {st0 rest : List Value}
variable {Qc : Array Value → State → Outcome → State → Prop} {XC : String → State → State → Prop}
/-- what a body that may throw owes at its end -/
def vx_MQ (below : List Frame) (Qc : Array Value → State → Outcome → State → Prop) (XC : String → State → State → Prop) (a : Array Value) (s : State) (mc ms : Nat) (free : Addr → Prop) : State → Prop := fun t =>
  ∃ o, t.status = .running ∧ Ended t below o ∧ vx_Q Qc XC mc ms free a s o t
theorem vx_ret {g : JFrame} {mc ms : Nat} (k : W p l e R s m args below meth c H locs cells slots (MQ below Qc args s mc ms free) g) : W p l e R s m args below meth c H locs cells slots (vx_MQ below Qc XC args s mc ms free) g := by
  intro T hT X
  obtain ⟨t, a1, o, b1, b2, b3, b4⟩ := k T hT X
  exact ⟨t, a1, o, b1, b2, Or.inl ⟨b3, b4⟩⟩
/-- not caught here: it goes on to the caller -/
theorem vx_widen {g : JFrame} {q : Addr} {k n : Nat} (h1 : cells ≤ k) (h2 : slots ≤ n) (kk : vx_W p l e R s m args below meth c H locs k n Q g q) : vx_W p l e R s m args below meth c H locs cells slots Q g q := fun T hT X => kk T hT (stand_widen X h1 h2)
theorem vx_out {pc : Nat} {E : String} {ce : Cell} {q : Addr} {mc ms : Nat} (hout : ∀ x ∈ c.exceptionTable.toList, covers x pc = false) (hlocks : meth.locks = false) (hcell : H[q]? = some ce) (hv : ce.vm = .none) (hcl : s.vm.findClass E = some ce.cls)
    (hx : ∀ t : State, t.heap = H → s.vm.Alike t.vm → XC E s t) (hf : ∀ z ∈ locs, free z.base) (hc : cells ≤ mc) (hs : slots ≤ ms) :
    vx_W p l e R s m args below meth c H locs cells slots (vx_MQ below Qc XC args s mc ms free) (F0 m pc ls rest) q := by
  intro T hT X
  obtain ⟨st1, hrun, hend, hW, hsm⟩ := X.leaveThrown q (g := F0 m pc ls rest) rfl rfl rfl hout hlocks
  have hcell9 : (T.setFrames (.throwing q :: below)).heap[q]? = some ce := by
    show T.heap[q]? = some ce
    rw [hT]; exact hcell
  exact ⟨_, st1, .threw q, hrun, hend, Or.inr ⟨q, rfl, E, ce, locs, hx _ hT hW.alike, hcell9, hv, hcl, hW, hsm.mono hc hs, hf⟩⟩
theorem vx_frame {U : State} {k n : Nat} (h : s.sameButNew ({ U with vm := s.vm } : State) locs k n) : s.heap.size ≤ U.heap.size ∧ ∀ q : Nat, q < s.heap.size → (∀ z ∈ locs, z.base ≠ q) → U.heap[q]? = s.heap[q]? := by
  obtain ⟨-, h2, -, -, -, h6⟩ := h
  refine ⟨h2, fun q hq hz => ?_⟩
  obtain ⟨c9, e1, e2, e3, e4⟩ := h6 q _ (Array.getElem?_eq_getElem hq)
  have hs : c9.slots = (s.heap[q]).slots := Array.ext_getElem? fun i => e4 i fun hm => hz _ hm rfl
  have h9 : c9 = s.heap[q] := by
    rw [hs] at e2
    exact e2
  have e5 : U.heap[q]? = some c9 := e1
  rw [e5, h9, Array.getElem?_eq_getElem hq]
/-- the words of a throw but the four that speak of the heap -/
def vx_no (w : Cond) : Bool := decide (w ≠ .isRef (.static Bundle.tN "UNASSIGNED_STACK" Bundle.steD)) && decide (w ≠ .isRef (.static Bundle.tN "SUPPRESSED_SENTINEL" Bundle.listD)) && decide (w ≠ .laysStatic Bundle.tN "UNASSIGNED_STACK" Bundle.steD) && decide (w ≠ .laysStatic Bundle.tN "SUPPRESSED_SENTINEL" Bundle.listD)
def vx_at0 (own : String) (ic : Nat) (X : String) (names : List String) : List Cond := (Bundle.ownAtoms0 own ic X names).filter vx_no
def vx_atS (own : String) (ic : Nat) (X : String) (names : List String) : List Cond := (Bundle.ownAtoms own ic X names).filter vx_no
/-- a word that the tables alone decide, or a good one -/
def vx_ot (w : Cond) : Bool := w.onTables || goodWord w
theorem vx_ot_at {args a' : Array Value} {s U : State} {w : Cond} (hW : s.WarmedH U.vm) (hvm : s.vm = U.vm) (hg : vx_ot w = true) (h : w.before args s = true) : w.before a' U = true := by
  simp only [vx_ot, Bool.or_eq_true] at hg
  rcases hg with hg | hg
  · exact va_tabs hg hvm h
  · exact word_at hW (good_of_word hg) h
/-- a list's words: the good ones out of the method's own list, the others by premises of their own -/
theorem vx_hat {args : Array Value} {s : State} {L B : List Cond} (h1 : ∀ w ∈ L.filter goodWord, w.before args s = true) (h2 : ∀ w ∈ L.filter (fun w => !goodWord w), w ∈ B) (h3 : ∀ w ∈ B, w.before args s = true) : ∀ w ∈ L, w.before args s = true := by
  intro w hw
  by_cases g : goodWord w = true
  · exact h1 w (List.mem_filter.mpr ⟨hw, g⟩)
  · refine h3 w (h2 w (List.mem_filter.mpr ⟨hw, ?_⟩))
    show (!goodWord w) = true
    cases hgw : goodWord w
    · rfl
    · exact absurd hgw g
theorem vx_c {args : Array Value} {s : State} {w : Cond} {B : List Cond} (h : w.before args s = true) (t : ∀ w ∈ B, w.before args s = true) : ∀ w' ∈ w :: B, w'.before args s = true := fun w' h' => (List.mem_cons.mp h').elim (fun e => by rw [e]; exact h) (t w')
theorem vx_n {args : Array Value} {s : State} : ∀ w ∈ ([] : List Cond), w.before args s = true := fun _ h => nomatch h
theorem vx_own {args : Array Value} {s : State} {L : List Cond} (h1 : ∀ w ∈ L.filter vx_no, w.before args s = true)
    (hU : (Cond.isRef (.static Bundle.tN "UNASSIGNED_STACK" Bundle.steD)).before args s = true) (hN : (Cond.isRef (.static Bundle.tN "SUPPRESSED_SENTINEL" Bundle.listD)).before args s = true)
    (lU : (Cond.laysStatic Bundle.tN "UNASSIGNED_STACK" Bundle.steD).before args s = true) (lN : (Cond.laysStatic Bundle.tN "SUPPRESSED_SENTINEL" Bundle.listD).before args s = true) : ∀ w ∈ L, w.before args s = true := by
  intro w hw
  by_cases e1 : w = .isRef (.static Bundle.tN "UNASSIGNED_STACK" Bundle.steD)
  · rw [e1]; exact hU
  · by_cases e2 : w = .isRef (.static Bundle.tN "SUPPRESSED_SENTINEL" Bundle.listD)
    · rw [e2]; exact hN
    · by_cases e3 : w = .laysStatic Bundle.tN "UNASSIGNED_STACK" Bundle.steD
      · rw [e3]; exact lU
      · by_cases e4 : w = .laysStatic Bundle.tN "SUPPRESSED_SENTINEL" Bundle.listD
        · rw [e4]; exact lN
        · exact h1 w (List.mem_filter.mpr ⟨hw, by unfold vx_no; rw [decide_eq_true e1, decide_eq_true e2, decide_eq_true e3, decide_eq_true e4]; rfl⟩)
/-- where a static field lies, its class's statics cell in H -/
def vx_L (C n d : String) (A : Nat → Prop) (U : State) (H : Heap) : Prop := ∃ (c : ClassId) (k : Class) (i : Nat) (f : Field) (a : Nat) (cell : Cell), U.vm.findClass C = some c ∧ U.fieldFound? C n d = some (c, k, i, f) ∧ f.isStatic = true ∧ k.statics = some a ∧ H[a]? = some cell ∧ cell.vm.isStatics = true ∧ cell.cls = c ∧ f.slot < cell.slots.size ∧ k.staticTypes[f.slot]? = some f.type ∧ ¬ A a
theorem vx_L.moved {C n d : String} {A : Nat → Prop} {u U : State} {H : Heap} (hvm : u.vm.Alike U.vm) (h : vx_L C n d A u H) : vx_L C n d A U H := by
  obtain ⟨c, k, i, f, a, cell, h1, h2, h3, h4, h5, h6, h7, h8, h9, h10⟩ := h
  obtain ⟨k', hi', he⟩ := State.fieldFound?_setVm hvm h2
  exact ⟨c, k', i, f, a, cell, by rw [hvm.findClass]; exact h1, hi', h3, by rw [he]; exact h4, h5, h6, h7, h8, by rw [he]; exact h9, h10⟩
theorem vx_L.kept {C n d : String} {A : Nat → Prop} {U : State} {H H1 : Heap} (h : vx_L C n d A U H) (hq : ∀ a : Nat, a < H.size → ¬ A a → H1[a]? = H[a]?) : vx_L C n d A U H1 := by
  obtain ⟨c, k, i, f, a, cell, h1, h2, h3, h4, h5, h6, h7, h8, h9, h10⟩ := h
  exact ⟨c, k, i, f, a, cell, h1, h2, h3, h4, by rw [hq a (Array.getElem?_eq_some_iff.mp h5).1 h10]; exact h5, h6, h7, h8, h9, h10⟩
theorem vx_L.narrow {C n d : String} {A B : Nat → Prop} {U : State} {H : Heap} (h : vx_L C n d A U H) (hAB : ∀ q, B q → A q) : vx_L C n d B U H := by
  obtain ⟨c, k, i, f, a, cell, h1, h2, h3, h4, h5, h6, h7, h8, h9, h10⟩ := h
  exact ⟨c, k, i, f, a, cell, h1, h2, h3, h4, h5, h6, h7, h8, h9, fun z => h10 (hAB _ z)⟩
theorem vx_L.word {C n d : String} {A : Nat → Prop} {s : State} {args : Array Value} (h : vx_L C n d A s s.heap) : (Cond.laysStatic C n d).before args s = true := by
  obtain ⟨c, k, i, f, a, cell, h1, h2, h3, h4, h5, h6, h7, h8, h9, -⟩ := h
  show (Cond.laysStatic C n d).holds args s none s [] = true
  exact Cond.laysStatic_of h1 h2 h3 h4 h5 h6 h7 h8 h9
/-- .. and what it holds: null or some reference -/
def vx_Zq (C n d : String) (A : Nat → Prop) (U : State) (H : Heap) : Prop := va_Zq C n d A U H ∧ vx_L C n d A U H
theorem vx_Zq.moved {C n d : String} {A : Nat → Prop} {u U : State} {H : Heap} (hvm : u.vm.Alike U.vm) (h : vx_Zq C n d A u H) : vx_Zq C n d A U H := ⟨va_Zq.moved hvm h.1, vx_L.moved hvm h.2⟩
theorem vx_Zq.kept {C n d : String} {A : Nat → Prop} {U : State} {H H1 : Heap} (h : vx_Zq C n d A U H) (hq : ∀ a : Nat, a < H.size → ¬ A a → H1[a]? = H[a]?) : vx_Zq C n d A U H1 := ⟨va_Zq.kept h.1 hq, vx_L.kept h.2 hq⟩
theorem vx_Zq.narrow {C n d : String} {A B : Nat → Prop} {U : State} {H : Heap} (h : vx_Zq C n d A U H) (hAB : ∀ q, B q → A q) : vx_Zq C n d B U H := ⟨va_Zq.narrow h.1 hAB, vx_L.narrow h.2 hAB⟩
theorem vx_Zqof {args : Array Value} {s : State} {C n d : String} {A : Nat → Prop} (hl : (Cond.laysStatic C n d).before args s = true) (hini : (Cond.initialized C).before args s = true) (h : (Cond.isRef (.static C n d)).before args s = true) (hA : ∀ a : Nat, a < s.heap.size → ¬ A a) : vx_Zq C n d A s s.heap := by
  refine ⟨va_Zqof hl hini h hA, ?_⟩
  obtain ⟨c, k, i, f, a, cell, h1, h2, h3, h4, h5, h6, h7, h8, h9⟩ := Cond.laysStatic_spec hl
  exact ⟨c, k, i, f, a, cell, h1, h2, h3, h4, h5, h6, h7, h8, h9, hA a (Array.getElem?_eq_some_iff.mp h5).1⟩
theorem vx_isRef {C n d : String} {v : Value} {A : Nat → Prop} {s : State} {args : Array Value} (h : va_Z C n d v A s s.heap) (hv : v.isRef = true) : (Cond.isRef (.static C n d)).before args s = true := by
  obtain ⟨cf, kf, fi, f, a, cell, h1, h2, h3, h4, h5, h6, h7, -⟩ := h
  have he : (Term.static C n d).eval args s none [] s = some v := by
    simp [Term.eval, State.fieldNamed?, h1, h2, h4, h5, h6, h7]
  simp only [Cond.before, Cond.holds, Cond.value, he]
  cases v <;> simp_all [Value.isRef]
theorem vx_isRefq {C n d : String} {A : Nat → Prop} {s : State} {args : Array Value} (h : va_Zq C n d A s s.heap) : (Cond.isRef (.static C n d)).before args s = true := by
  rcases h with h | ⟨t, h⟩
  · exact vx_isRef h rfl
  · exact vx_isRef h rfl
/-- the same frame, seen from here: as if the method were called anew in this heap -/
theorem vx_rebase {T : State} (X : Stand p l e R s m args below meth c T locs cells slots) {R' : Room} (hf : R'.frames ≤ R.frames) (hl : R'.locals ≤ R.locals) (hc : cells + R'.cells ≤ R.cells) (hs : slots + R'.slots ≤ R.slots) :
    Stand p l e R' ((T.setVm s.vm).setFrames (.invoking m args :: below)) m args below meth c T [] 0 0 := by
  have htop : (T.setVm s.vm).topJava?.isSome := X.here.top
  have hF : ((T.setVm s.vm).setFrames (.invoking m args :: below)).frames = .invoking m args :: below := State.frames_setFrames _ (State.cur_lt_of_top htop)
  obtain ⟨g₀, hg0⟩ := Option.isSome_iff_exists.mp htop
  obtain ⟨r, hr⟩ := State.topJava?_eq_some.mp hg0
  have hl9 : e.platform.stackLimits (T.setVm s.vm).me = e.platform.stackLimits s.me := X.limits
  have hb9 : (T.setVm s.vm).me.stackBytes = s.me.stackBytes := X.bytes
  refine ⟨X.admits, X.cas, X.clock, hF, ?_, X.hears, X.method, X.code, X.here, X.tail, X.warmed, ?_, ?_, ?_⟩
  · have h := X.room
    have hU : ((T.setVm s.vm).setFrames (.invoking m args :: below)).localsInUse = s.localsInUse := by
      rw [State.localsInUse_invoking hF (meth := meth) (c := c) X.method X.code, State.localsInUse_invoking X.frames X.method X.code]
    simp only [State.hasRoom, Bool.and_eq_true, decide_eq_true_eq] at h ⊢
    obtain ⟨⟨⟨⟨h1, h2, h3, h4, h5, h6⟩, h7⟩, h8⟩, h9⟩ := h
    rw [X.frames, List.length_cons] at h2 h3
    have q1 := X.heapSize
    have q2 := X.used
    simp only [hF, hU, List.length_cons, State.stackLimits_setFrames, State.stackBytes_setFrames, hl9, hb9]
    refine ⟨⟨⟨⟨by omega, by omega, by omega, by omega, by omega, h6⟩, ?_⟩, ?_⟩, X.book⟩
    · show T.heap.size + R'.cells ≤ e.platform.maxCells
      omega
    · show T.slotsUsed + R'.slots ≤ e.platform.maxSlots
      omega
  · rw [State.stackLimits_setFrames]; rfl
  · rw [State.stackBytes_setFrames]; rfl
  · refine ⟨?_, Nat.le_refl _, Nat.le_refl _, ?_, ?_, fun a c9 h9 => ⟨c9, h9, rfl, rfl, fun _ _ => rfl⟩⟩
    · obtain ⟨t, ht, -⟩ := State.frames_cons hr
      show T.setVm s.vm = { ((T.setVm s.vm).setFrames (.invoking m args :: below)).setFrames (T.setVm s.vm).frames with heap := T.heap, slotsUsed := T.slotsUsed }
      rw [State.setFrames_setFrames, State.setFrames_self ht]
      rfl
    · show T.slotsUsed = T.slotsUsed + ((T.heap.toList.drop T.heap.size).map (·.slots.size)).sum
      rw [List.drop_eq_nil_of_le (Nat.le_of_eq Array.length_toList)]
      rfl
    · show ((T.heap.toList.drop T.heap.size).map (·.slots.size)).sum ≤ 0
      rw [List.drop_eq_nil_of_le (Nat.le_of_eq Array.length_toList)]
      exact Nat.le_refl _
/-- 'throw new E()': new; dup; invokespecial; athrow -/
theorem vx_throw0 {cc : ByteArray} {pc : Nat} (hexec : p.tables.exec = Jvm.exec) (hb : c.code = cc) (hl : l.stackTraces = false) {own cls : String} {names : List String} {ik ic mc ms : Nat} {A : Nat → Prop}
    (hown : s.vm.findClass own = some m.cls) (hcls : Bundle.fit cls = true) (hnames : ∀ n ∈ names, Bundle.fit n = true)
    (hk : (Cond.classLink own ik cls).before args s = true) (hini : (Cond.initialized cls).before args s = true) (hat : ∀ w ∈ vx_at0 own ic cls names, w.before args s = true)
    (hgood : ∀ w ∈ Cond.classLink own ik cls :: Cond.initialized cls :: vx_at0 own ic cls names, vx_ot w = true)
    (hU : vx_Zq Bundle.tN "UNASSIGNED_STACK" Bundle.steD A s s.heap) (hN : vx_Zq Bundle.tN "SUPPRESSED_SENTINEL" Bundle.listD A s s.heap) (hS : va_S A s.heap H locs) (hsize : ls.size = c.maxLocals)
    (d0 : decode cc pc = .ok (.new ik, 3)) (d3 : decode cc (pc + 3) = .ok (.dup, 1)) (d4 : decode cc (pc + 4) = .ok (.invokespecial ic, 3)) (d7 : decode cc (pc + 7) = .ok (.athrow, 1))
    (hout : ∀ x ∈ c.exceptionTable.toList, covers x (pc + 7) = false)
    (hRframes : names.length + 3 < R.frames) (hRlocals : (rest.map fun v => v.category).sum + (13 * (names.length + 1) + 42) ≤ R.locals) (hRcells : cells + 1 ≤ R.cells) (hRslots : slots + 6 ≤ R.slots) (hlocks : meth.locks = false)
    (hx : ∀ t : State, s.vm.Alike t.vm → H.size ≤ t.heap.size → (∀ q : Nat, q < H.size → t.heap[q]? = H[q]?) → XC cls s t)
    (hf : ∀ z ∈ locs, free z.base) (hc : cells + 1 ≤ mc) (hs : slots + 6 ≤ ms) :
    W p l e R s m args below meth c H locs cells slots (vx_MQ below Qc XC args s mc ms free) (F0 m pc ls rest) := by
  intro T hT X
  have htr : e.platform.stackTraces = false := (show e.platform.stackTraces = l.stackTraces by rw [X.admits.platform]).trans hl
  have Y := vx_rebase X (R' := { frames := R.frames, locals := R.locals, cells := 1, slots := 6 }) (Nat.le_refl _) (Nat.le_refl _) hRcells hRslots
  obtain ⟨s', hA⟩ : ∃ z, z = (T.setVm s.vm).setFrames (.invoking m args :: below) := ⟨_, rfl⟩
  rw [← hA] at Y
  have hvm : s'.vm = s.vm := by rw [hA]; rfl
  have hhp : s'.heap = H := by rw [hA]; exact hT
  have hW0 : s.WarmedH s'.vm := by rw [hvm]; exact State.WarmedH.refl s
  have hat' : ∀ w ∈ vx_at0 own ic cls names, w.before args s' = true := fun w hw => vx_ot_at hW0 hvm.symm (hgood w (List.mem_cons_of_mem _ (List.mem_cons_of_mem _ hw))) (hat w hw)
  have hk' : (Cond.classLink own ik cls).before args s' = true := vx_ot_at hW0 hvm.symm (hgood _ List.mem_cons_self) hk
  have hini' : (Cond.initialized cls).before args s' = true := vx_ot_at hW0 hvm.symm (hgood _ (List.mem_cons_of_mem _ List.mem_cons_self)) hini
  have hU' : vx_Zq Bundle.tN "UNASSIGNED_STACK" Bundle.steD A s' s'.heap := by rw [hhp]; exact vx_Zq.moved hW0.alike (hU.kept hS.2.1)
  have hN' : vx_Zq Bundle.tN "SUPPRESSED_SENTINEL" Bundle.listD A s' s'.heap := by rw [hhp]; exact vx_Zq.moved hW0.alike (hN.kept hS.2.1)
  have h : ∀ w ∈ Bundle.ownAtoms0 own ic cls names, w.before args s' = true := vx_own hat' (vx_isRefq hU'.1) (vx_isRefq hN'.1) hU'.2.word hN'.2.word
  have hown' : s'.vm.findClass own = some m.cls := by rw [hvm]; exact hown
  have hins : (Cond.instantiable cls 6).before args s' = true := h _ (by simp [Bundle.ownAtoms0])
  obtain ⟨vm₁, cX, kX, hfX, hkX, -, -, X₁, st1⟩ := Y.newCold hexec (own := own) (C := cls) (index := ik) (n := 6) hown' hk' hins hini'
    (g := F0 m pc ls rest) rfl (by rw [hb]; exact d0) (Nat.le_refl _) (Nat.le_refl _)
  generalize hT1 : (T.setVm vm₁).pushCell { cls := cX, slots := kX.instanceTypes.map defaultValue, vm := .none } = T1 at X₁ st1
  have hcat : (Value.ref T.heap.size).category = 1 := rfl
  have hcellA : T1.heap[T.heap.size]? = some (freshCell cX kX) := by rw [← hT1]; exact State.heap_pushCell_size _ _
  have d3' : decode c.code (pc + 3) = .ok (.dup, 1) := by rw [hb]; exact d3
  obtain ⟨U, hsteps, hrun, hend, hW, hsame, ce, hce, hO⟩ := X₁.ctorThrow0 hexec htr (own := own) (cls := cls) (names := names) (ic := ic) hown' hcls hnames h (fun x hx => nomatch hx) hfX hkX hcellA (by rw [hhp, hT]; exact Nat.le_refl _)
    (g := { method := m, pc := pc + 4, locals := ls, stack := .ref T.heap.size :: .ref T.heap.size :: rest, locked := none }) rfl hsize rfl rfl (rest := rest) rfl
    (by rw [hb]; exact d4) (by rw [hb]; exact d7) hout hRframes (by simp only [List.map_cons, List.sum_cons, hcat]; omega) hlocks
  obtain ⟨f1, f2⟩ := vx_frame hsame
  rw [hhp] at f1 f2
  have hWs : s.WarmedH U.vm := State.WarmedH.trans hW0 hW
  have hcl : s.vm.findClass cls = some ce.cls := by
    have h9 := hO.cls
    rw [hvm] at h9
    exact h9
  have hall : s.sameButNew ({ U with vm := s.vm } : State) locs mc ms := by
    subst hA
    obtain ⟨e1, e2⟩ := hsame
    rw [State.setFrames_setFrames] at e1
    have h2 : (T.setVm s.vm).sameButNew ({ U with vm := s.vm } : State) [] (0 + 1) (0 + 6) := ⟨e1, e2⟩
    have h3 := X.same.trans h2
    rw [List.append_nil] at h3
    exact h3.mono hc hs
  refine ⟨U, ?_, .threw T.heap.size, hrun, hend, Or.inr ⟨T.heap.size, rfl, cls, ce, locs, hx U hWs.alike f1 (fun q hq => f2 q hq (fun z hz => nomatch hz)), hce, hO.vm, hcl, hWs, hall, hf⟩⟩
  refine st1 _ ?_
  show Steps p.tables e below (T1.setTop { method := m, pc := pc + 3, locals := ls, stack := .ref T.heap.size :: rest, locked := none }) _
  jvm_step X₁.here [X₁.here.top, hexec, d3', Value.category]
  exact hsteps
/-- 'throw new E("text")': new; dup; ldc; invokespecial; athrow -/
theorem vx_throwS {cc : ByteArray} {pc : Nat} (hexec : p.tables.exec = Jvm.exec) (hb : c.code = cc) (hl : l.stackTraces = false) {own cls text : String} {names : List String} {ik is ic mc ms sa : Nat} {A : Nat → Prop}
    (hown : s.vm.findClass own = some m.cls) (hcls : Bundle.fit cls = true) (hnames : ∀ n ∈ names, Bundle.fit n = true)
    (hk : (Cond.classLink own ik cls).before args s = true) (hini : (Cond.initialized cls).before args s = true) (hstr : vk_R own is text sa s) (hat : ∀ w ∈ vx_atS own ic cls names, w.before args s = true)
    (hgood : ∀ w ∈ Cond.classLink own ik cls :: Cond.initialized cls :: vx_atS own ic cls names, vx_ot w = true)
    (hU : vx_Zq Bundle.tN "UNASSIGNED_STACK" Bundle.steD A s s.heap) (hN : vx_Zq Bundle.tN "SUPPRESSED_SENTINEL" Bundle.listD A s s.heap) (hS : va_S A s.heap H locs) (hsize : ls.size = c.maxLocals)
    (d0 : decode cc pc = .ok (.new ik, 3)) (d3 : decode cc (pc + 3) = .ok (.dup, 1)) (d4 : decode cc (pc + 4) = .ok (.ldc is, 2)) (d6 : decode cc (pc + 6) = .ok (.invokespecial ic, 3)) (d9 : decode cc (pc + 9) = .ok (.athrow, 1))
    (hout : ∀ x ∈ c.exceptionTable.toList, covers x (pc + 9) = false)
    (hRframes : names.length + 3 < R.frames) (hRlocals : (rest.map fun v => v.category).sum + (13 * (names.length + 1) + 43) ≤ R.locals) (hRcells : cells + 1 ≤ R.cells) (hRslots : slots + 6 ≤ R.slots) (hlocks : meth.locks = false)
    (hx : ∀ t : State, s.vm.Alike t.vm → H.size ≤ t.heap.size → (∀ q : Nat, q < H.size → t.heap[q]? = H[q]?) → XC cls s t)
    (hf : ∀ z ∈ locs, free z.base) (hc : cells + 1 ≤ mc) (hs : slots + 6 ≤ ms) :
    W p l e R s m args below meth c H locs cells slots (vx_MQ below Qc XC args s mc ms free) (F0 m pc ls rest) := by
  intro T hT X
  have htr : e.platform.stackTraces = false := (show e.platform.stackTraces = l.stackTraces by rw [X.admits.platform]).trans hl
  have Y := vx_rebase X (R' := { frames := R.frames, locals := R.locals, cells := 1, slots := 6 }) (Nat.le_refl _) (Nat.le_refl _) hRcells hRslots
  obtain ⟨s', hA⟩ : ∃ z, z = (T.setVm s.vm).setFrames (.invoking m args :: below) := ⟨_, rfl⟩
  rw [← hA] at Y
  have hvm : s'.vm = s.vm := by rw [hA]; rfl
  have hhp : s'.heap = H := by rw [hA]; exact hT
  have hW0 : s.WarmedH s'.vm := by rw [hvm]; exact State.WarmedH.refl s
  have hat' : ∀ w ∈ vx_atS own ic cls names, w.before args s' = true := fun w hw => vx_ot_at hW0 hvm.symm (hgood w (List.mem_cons_of_mem _ (List.mem_cons_of_mem _ hw))) (hat w hw)
  have hk' : (Cond.classLink own ik cls).before args s' = true := vx_ot_at hW0 hvm.symm (hgood _ List.mem_cons_self) hk
  have hini' : (Cond.initialized cls).before args s' = true := vx_ot_at hW0 hvm.symm (hgood _ (List.mem_cons_of_mem _ List.mem_cons_self)) hini
  have hU' : vx_Zq Bundle.tN "UNASSIGNED_STACK" Bundle.steD A s' s'.heap := by rw [hhp]; exact vx_Zq.moved hW0.alike (hU.kept hS.2.1)
  have hN' : vx_Zq Bundle.tN "SUPPRESSED_SENTINEL" Bundle.listD A s' s'.heap := by rw [hhp]; exact vx_Zq.moved hW0.alike (hN.kept hS.2.1)
  have h : ∀ w ∈ Bundle.ownAtoms own ic cls names, w.before args s' = true := vx_own hat' (vx_isRefq hU'.1) (vx_isRefq hN'.1) hU'.2.word hN'.2.word
  have hown' : s'.vm.findClass own = some m.cls := by rw [hvm]; exact hown
  have hins : (Cond.instantiable cls 6).before args s' = true := h _ (by simp [Bundle.ownAtoms])
  obtain ⟨vm₁, cX, kX, hfX, hkX, -, -, X₁, st1⟩ := Y.newCold hexec (own := own) (C := cls) (index := ik) (n := 6) hown' hk' hins hini'
    (g := F0 m pc ls rest) rfl (by rw [hb]; exact d0) (Nat.le_refl _) (Nat.le_refl _)
  generalize hT1 : (T.setVm vm₁).pushCell { cls := cX, slots := kX.instanceTypes.map defaultValue, vm := .none } = T1 at X₁ st1
  have hcat : (Value.ref T.heap.size).category = 1 := rfl
  have hcellA : T1.heap[T.heap.size]? = some (freshCell cX kX) := by rw [← hT1]; exact State.heap_pushCell_size _ _
  have d3' : decode c.code (pc + 3) = .ok (.dup, 1) := by rw [hb]; exact d3
  have d4' : decode c.code (pc + 4) = .ok (.ldc is, 2) := by rw [hb]; exact d4
  have hstr' : vk_R own is text sa s' := vk_R.warm hW0 hstr
  obtain ⟨U, hsteps, hrun, hend, hW, hsame, ce, hce, hO⟩ := X₁.ctorThrowS hexec htr (own := own) (cls := cls) (names := names) (ic := ic) hown' hcls hnames h (fun x hx => nomatch hx) hfX hkX hcellA (by rw [hhp, hT]; exact Nat.le_refl _) (msg := .ref sa) rfl
    (g := { method := m, pc := pc + 6, locals := ls, stack := .ref sa :: .ref T.heap.size :: .ref T.heap.size :: rest, locked := none }) rfl hsize rfl rfl (rest := rest) rfl
    (by rw [hb]; exact d6) (by rw [hb]; exact d9) hout hRframes (by simp only [List.map_cons, List.sum_cons, hcat]; omega) hlocks
  obtain ⟨f1, f2⟩ := vx_frame hsame
  rw [hhp] at f1 f2
  have hWs : s.WarmedH U.vm := State.WarmedH.trans hW0 hW
  have hcl : s.vm.findClass cls = some ce.cls := by
    have h9 := hO.cls
    rw [hvm] at h9
    exact h9
  have hall : s.sameButNew ({ U with vm := s.vm } : State) locs mc ms := by
    subst hA
    obtain ⟨e1, e2⟩ := hsame
    rw [State.setFrames_setFrames] at e1
    have h2 : (T.setVm s.vm).sameButNew ({ U with vm := s.vm } : State) [] (0 + 1) (0 + 6) := ⟨e1, e2⟩
    have h3 := X.same.trans h2
    rw [List.append_nil] at h3
    exact h3.mono hc hs
  refine ⟨U, ?_, .threw T.heap.size, hrun, hend, Or.inr ⟨T.heap.size, rfl, cls, ce, locs, hx U hWs.alike f1 (fun q hq => f2 q hq (fun z hz => nomatch hz)), hce, hO.vm, hcl, hWs, hall, hf⟩⟩
  refine st1 _ ?_
  show Steps p.tables e below (T1.setTop { method := m, pc := pc + 3, locals := ls, stack := .ref T.heap.size :: rest, locked := none }) _
  jvm_step X₁.here [X₁.here.top, hexec, d3', Value.category]
  exact X₁.ldcString hexec (own := own) (text := text) (index := is) (a := sa) hown' hstr'.1 hstr'.2
    (g := { method := m, pc := pc + 4, locals := ls, stack := .ref T.heap.size :: .ref T.heap.size :: rest, locked := none }) rfl d4' _ hsteps
/-- 'throw new E("text")', the text by a wide index -/
theorem vx_throwSW {cc : ByteArray} {pc : Nat} (hexec : p.tables.exec = Jvm.exec) (hb : c.code = cc) (hl : l.stackTraces = false) {own cls text : String} {names : List String} {ik is ic mc ms sa : Nat} {A : Nat → Prop}
    (hown : s.vm.findClass own = some m.cls) (hcls : Bundle.fit cls = true) (hnames : ∀ n ∈ names, Bundle.fit n = true)
    (hk : (Cond.classLink own ik cls).before args s = true) (hini : (Cond.initialized cls).before args s = true) (hstr : vk_R own is text sa s) (hat : ∀ w ∈ vx_atS own ic cls names, w.before args s = true)
    (hgood : ∀ w ∈ Cond.classLink own ik cls :: Cond.initialized cls :: vx_atS own ic cls names, vx_ot w = true)
    (hU : vx_Zq Bundle.tN "UNASSIGNED_STACK" Bundle.steD A s s.heap) (hN : vx_Zq Bundle.tN "SUPPRESSED_SENTINEL" Bundle.listD A s s.heap) (hS : va_S A s.heap H locs) (hsize : ls.size = c.maxLocals)
    (d0 : decode cc pc = .ok (.new ik, 3)) (d3 : decode cc (pc + 3) = .ok (.dup, 1)) (d4 : decode cc (pc + 4) = .ok (.ldc_w is, 3)) (d7 : decode cc (pc + 7) = .ok (.invokespecial ic, 3)) (d10 : decode cc (pc + 10) = .ok (.athrow, 1))
    (hout : ∀ x ∈ c.exceptionTable.toList, covers x (pc + 10) = false)
    (hRframes : names.length + 3 < R.frames) (hRlocals : (rest.map fun v => v.category).sum + (13 * (names.length + 1) + 43) ≤ R.locals) (hRcells : cells + 1 ≤ R.cells) (hRslots : slots + 6 ≤ R.slots) (hlocks : meth.locks = false)
    (hx : ∀ t : State, s.vm.Alike t.vm → H.size ≤ t.heap.size → (∀ q : Nat, q < H.size → t.heap[q]? = H[q]?) → XC cls s t)
    (hf : ∀ z ∈ locs, free z.base) (hc : cells + 1 ≤ mc) (hs : slots + 6 ≤ ms) :
    W p l e R s m args below meth c H locs cells slots (vx_MQ below Qc XC args s mc ms free) (F0 m pc ls rest) := by
  intro T hT X
  have htr : e.platform.stackTraces = false := (show e.platform.stackTraces = l.stackTraces by rw [X.admits.platform]).trans hl
  have Y := vx_rebase X (R' := { frames := R.frames, locals := R.locals, cells := 1, slots := 6 }) (Nat.le_refl _) (Nat.le_refl _) hRcells hRslots
  obtain ⟨s', hA⟩ : ∃ z, z = (T.setVm s.vm).setFrames (.invoking m args :: below) := ⟨_, rfl⟩
  rw [← hA] at Y
  have hvm : s'.vm = s.vm := by rw [hA]; rfl
  have hhp : s'.heap = H := by rw [hA]; exact hT
  have hW0 : s.WarmedH s'.vm := by rw [hvm]; exact State.WarmedH.refl s
  have hat' : ∀ w ∈ vx_atS own ic cls names, w.before args s' = true := fun w hw => vx_ot_at hW0 hvm.symm (hgood w (List.mem_cons_of_mem _ (List.mem_cons_of_mem _ hw))) (hat w hw)
  have hk' : (Cond.classLink own ik cls).before args s' = true := vx_ot_at hW0 hvm.symm (hgood _ List.mem_cons_self) hk
  have hini' : (Cond.initialized cls).before args s' = true := vx_ot_at hW0 hvm.symm (hgood _ (List.mem_cons_of_mem _ List.mem_cons_self)) hini
  have hU' : vx_Zq Bundle.tN "UNASSIGNED_STACK" Bundle.steD A s' s'.heap := by rw [hhp]; exact vx_Zq.moved hW0.alike (hU.kept hS.2.1)
  have hN' : vx_Zq Bundle.tN "SUPPRESSED_SENTINEL" Bundle.listD A s' s'.heap := by rw [hhp]; exact vx_Zq.moved hW0.alike (hN.kept hS.2.1)
  have h : ∀ w ∈ Bundle.ownAtoms own ic cls names, w.before args s' = true := vx_own hat' (vx_isRefq hU'.1) (vx_isRefq hN'.1) hU'.2.word hN'.2.word
  have hown' : s'.vm.findClass own = some m.cls := by rw [hvm]; exact hown
  have hins : (Cond.instantiable cls 6).before args s' = true := h _ (by simp [Bundle.ownAtoms])
  obtain ⟨vm₁, cX, kX, hfX, hkX, -, -, X₁, st1⟩ := Y.newCold hexec (own := own) (C := cls) (index := ik) (n := 6) hown' hk' hins hini'
    (g := F0 m pc ls rest) rfl (by rw [hb]; exact d0) (Nat.le_refl _) (Nat.le_refl _)
  generalize hT1 : (T.setVm vm₁).pushCell { cls := cX, slots := kX.instanceTypes.map defaultValue, vm := .none } = T1 at X₁ st1
  have hcat : (Value.ref T.heap.size).category = 1 := rfl
  have hcellA : T1.heap[T.heap.size]? = some (freshCell cX kX) := by rw [← hT1]; exact State.heap_pushCell_size _ _
  have d3' : decode c.code (pc + 3) = .ok (.dup, 1) := by rw [hb]; exact d3
  have d4' : decode c.code (pc + 4) = .ok (.ldc_w is, 3) := by rw [hb]; exact d4
  have hstr' : vk_R own is text sa s' := vk_R.warm hW0 hstr
  obtain ⟨U, hsteps, hrun, hend, hW, hsame, ce, hce, hO⟩ := X₁.ctorThrowS hexec htr (own := own) (cls := cls) (names := names) (ic := ic) hown' hcls hnames h (fun x hx => nomatch hx) hfX hkX hcellA (by rw [hhp, hT]; exact Nat.le_refl _) (msg := .ref sa) rfl
    (g := { method := m, pc := pc + 7, locals := ls, stack := .ref sa :: .ref T.heap.size :: .ref T.heap.size :: rest, locked := none }) rfl hsize rfl rfl (rest := rest) rfl
    (by rw [hb]; exact d7) (by rw [hb]; exact d10) hout hRframes (by simp only [List.map_cons, List.sum_cons, hcat]; omega) hlocks
  obtain ⟨f1, f2⟩ := vx_frame hsame
  rw [hhp] at f1 f2
  have hWs : s.WarmedH U.vm := State.WarmedH.trans hW0 hW
  have hcl : s.vm.findClass cls = some ce.cls := by
    have h9 := hO.cls
    rw [hvm] at h9
    exact h9
  have hall : s.sameButNew ({ U with vm := s.vm } : State) locs mc ms := by
    subst hA
    obtain ⟨e1, e2⟩ := hsame
    rw [State.setFrames_setFrames] at e1
    have h2 : (T.setVm s.vm).sameButNew ({ U with vm := s.vm } : State) [] (0 + 1) (0 + 6) := ⟨e1, e2⟩
    have h3 := X.same.trans h2
    rw [List.append_nil] at h3
    exact h3.mono hc hs
  refine ⟨U, ?_, .threw T.heap.size, hrun, hend, Or.inr ⟨T.heap.size, rfl, cls, ce, locs, hx U hWs.alike f1 (fun q hq => f2 q hq (fun z hz => nomatch hz)), hce, hO.vm, hcl, hWs, hall, hf⟩⟩
  refine st1 _ ?_
  show Steps p.tables e below (T1.setTop { method := m, pc := pc + 3, locals := ls, stack := .ref T.heap.size :: rest, locked := none }) _
  jvm_step X₁.here [X₁.here.top, hexec, d3', Value.category]
  exact X₁.ldcStringW hexec (own := own) (text := text) (index := is) (a := sa) hown' hstr'.1 hstr'.2
    (g := { method := m, pc := pc + 4, locals := ls, stack := .ref T.heap.size :: .ref T.heap.size :: rest, locked := none }) rfl d4' _ hsteps
end Ends
section Bodies
variable {l : Launch}
theorem vx_ofW {y : MethodName} {ws ws' : List Cond} {rm : Room} {Pc : Array Value → State → Prop} {Qc : Array Value → State → Outcome → State → Prop} {XC : String → State → State → Prop} {mc ms : Nat} {free : Addr → Prop} {cc : ByteArray} {maxL : Nat} {ret : Option FieldType}
    (hy : plainName y.cls = true) (hw : ws = Cond.code y cc maxL ret :: ws')
    (body : ∀ p e s m args below meth c s₁, BodyLoose p l y (headSpec ws rm) cc maxL ret e s m args below meth c s₁ → c.maxLocals = maxL → (∀ x ∈ c.exceptionTable.toList, False) → Pc args s →
      W p l e (headSpec ws rm).room s m args below meth c s.heap [] 0 0 (vx_MQ below Qc XC args s mc ms free) (entryFrame m args maxL)) : vx_Met l y ws rm Pc Qc XC mc ms free := by
  refine MetFree.of_bodyS (code := cc) (maxLocals := maxL) (ret := ret) hy ?_ ?_
  · intro args s m h hn
    obtain ⟨meth, c, h1, h2, h3, h4, h5, h6, -, -⟩ := Cond.code_spec hn (atoms_spec (ws := ws) h _ (by rw [hw]; exact List.mem_cons_self))
    exact ⟨meth, c, h1, h2, h3, h4, h5, h6⟩
  · intro p e s m args below meth c s₁ B hml hP _
    have hh0 : s₁.heap = s.heap := by rw [B.state]; rfl
    have ht : ∀ x ∈ c.exceptionTable.toList, False := by
      obtain ⟨meth9, c9, h1, h2, -, -, -, -, h7, -⟩ := Cond.code_spec B.named (atoms_spec (ws := ws) B.pre _ (by rw [hw]; exact List.mem_cons_self))
      cases Option.some.inj (h1.symm.trans B.method)
      cases Option.some.inj (h2.symm.trans (Stand.of_body B).code)
      intro x hx
      rw [Array.isEmpty_iff.mp h7] at hx
      cases hx
    obtain ⟨t, a1, o, b1, b2, b3⟩ := body p e s m args below meth c s₁ B hml ht hP s₁ hh0 (Stand.of_body B)
    exact ⟨t, o, a1, b1, b2, b3⟩
/-- the table of a body with handlers -/
theorem vx_table {p : Program} {x y : MethodName} {S : Spec} {cc bytes : ByteArray} {maxL maxL' : Nat} {ret ret' : Option FieldType} {e : Env} {s s₁ : State} {m : MethodId} {args : Array Value} {below : List Frame} {meth : Method} {c : Code} {hh : List (Nat × Nat × Nat × Nat)}
    (B : BodyLoose p l y S cc maxL ret e s m args below meth c s₁) (h : (Cond.codeWith y bytes maxL' ret' hh).before args s = true) : c.exceptionTable.toList = tableOf hh := by
  obtain ⟨m9, meth9, c9, hn9, h1, h2, -, -, h6, -⟩ := Cond.codeWith_spec h
  cases Option.some.inj (hn9.symm.trans B.named)
  cases Option.some.inj (h1.symm.trans B.method)
  cases Option.some.inj (h2.symm.trans (Stand.of_body B).code)
  rw [← h6, table_eq]
end Bodies
end VXA
/-! ===== END ===== -/
/-! ===== BEGIN a static call of a method with an exception table ===== -/
section VXS
variable {p : Program} {l : Launch} {e : Env} {R : Room} {s : State} {m : MethodId} {args : Array Value} {below : List Frame} {meth : Method} {c : Code} {T : State} {H : Heap} {locs : List Loc} {cells slots : Nat}
abbrev vx_CSW (R : Room) (s : State) (args : Array Value) (own : String) (index : Nat) (y : MethodName) (bytes : ByteArray) (maxL : Nat) (ret : Option FieldType) (hh : List (Nat × Nat × Nat × Nat)) (ws : List Cond) (rm : Room) (mc ms n : Nat) : Prop :=
  (rm.cells = mc ∧ rm.slots = ms ∧ rm.frames + 1 ≤ R.frames ∧ 8 + (maxL + 11) + rm.locals ≤ R.locals ∧ (∀ w ∈ ws, ∀ (a' : Array Value) (U : State), s.WarmedH U.vm → w.before a' U = true) ∧ Cond.codeWith y bytes maxL ret hh ∈ ws) ∧
  (Cond.codeWith y bytes maxL ret hh).before args s = true ∧ (Cond.initialized y.cls).before args s = true ∧ (y.cls ≠ "java/lang/invoke/MethodHandle" ∧ y.cls ≠ "java/lang/invoke/VarHandle") ∧
  (∀ sig, parseMethodDescriptor y.desc = some sig → n = sig.parameters.length) ∧ (Cond.methodLink own index y).before args s = true ∧ (Cond.static y).before args s = true
theorem vx_cwSW {own : String} {index maxL mc ms : Nat} {y : MethodName} {bytes : ByteArray} {ret : Option FieldType} {hh : List (Nat × Nat × Nat × Nat)} {Ts ws ws' : List Cond} {rm : Room} (n : Nat) (ht : ∀ w ∈ Ts, w.before args s = true) (hT : GoodIn Ts (va_wsS own index y ws)) (hw : ws = Cond.codeWith y bytes maxL ret hh :: ws') (hrc : rm.cells = mc) (hrs : rm.slots = ms)
    (hd : y.cls ≠ "java/lang/invoke/MethodHandle" ∧ y.cls ≠ "java/lang/invoke/VarHandle" ∧ (parseMethodDescriptor y.desc).map (fun d => d.parameters.length) = some n) (hR : rm.frames + 1 ≤ R.frames ∧ 8 + (maxL + 11) + rm.locals ≤ R.locals) :
    vx_CSW R s args own index y bytes maxL ret hh ws rm mc ms n := by
  have ok : ∀ w ∈ va_wsS own index y ws, w.before args s = true := fun w h => ht w (hT w h).1
  have hG : GoodIn Ts ws := fun w h => hT w (by unfold va_wsS; exact List.mem_append_right _ h)
  have hc : Cond.codeWith y bytes maxL ret hh ∈ ws := by rw [hw]; exact List.mem_cons_self
  refine ⟨⟨hrc, hrs, hR.1, hR.2, pay_in ht hG, hc⟩, ht _ (hG _ hc).1, ok _ (by simp [va_wsS]), ⟨hd.1, hd.2.1⟩, fun sig h => ?_, ok _ (by simp [va_wsS]), ok _ (by simp [va_wsS])⟩
  have h2 := hd.2.2
  rw [h] at h2
  exact (Option.some.inj h2).symm
theorem vx_callSW (X : Stand p l e R s m args below meth c T locs cells slots) (hexec : p.tables.exec = Jvm.exec) {own : String} {index : Nat} {y : MethodName} {bytes : ByteArray} {maxL : Nat} {ret : Option FieldType} {hh : List (Nat × Nat × Nat × Nat)}
    (hown : s.vm.findClass own = some m.cls) (hlink : (Cond.methodLink own index y).before args s = true) (hstat : (Cond.static y).before args s = true) (hinit : (Cond.initialized y.cls).before args s = true)
    (hcode : (Cond.codeWith y bytes maxL ret hh).before args s = true) (hy : y.cls ≠ "java/lang/invoke/MethodHandle" ∧ y.cls ≠ "java/lang/invoke/VarHandle")
    {W9 : Nat} {Pre : Pt → Array Value → Prop} {Post : Pt → Array Value → Option Value → Pt → Prop} (hK : Back l R p e below s args y 3 W9 Pre Post)
    {g : JFrame} (hg : g.method = m) (hsize : g.locals.size = c.maxLocals) {argsL rest : List Value} (hlen : ∀ sig, parseMethodDescriptor y.desc = some sig → argsL.length = sig.parameters.length)
    (hstack : g.stack = argsL.reverse ++ rest) (hW : 2 * g.monitorRoom + (rest.map fun v => v.category).sum ≤ W9) (hdg : decode c.code g.pc = .ok (.invokestatic index, 3))
    (hpre : ∀ vm₁, s.WarmedH vm₁ → Pre ⟨T.setVm vm₁, locs, cells, slots⟩ argsL.toArray) :
    ∃ (v : Option Value) (vm₁ : Vm) (B : Pt), s.WarmedH vm₁ ∧ Stand p l e R s m args below meth c B.U B.locs B.cells B.slots ∧ Post ⟨T.setVm vm₁, locs, cells, slots⟩ argsL.toArray v B ∧
      ∀ target, Steps p.tables e below (B.U.setTop { g with pc := g.pc + 3, stack := v.toList ++ rest }) target → Steps p.tables e below (T.setTop g) target := by
  obtain ⟨mk, methM, cM, hnamed, hmethM, -, -, -, -, -, -, hsigM⟩ := Cond.codeWith_spec hcode
  have hstatic : methM.isStatic = true := Cond.static_spec hnamed hmethM hstat
  obtain ⟨kP, hkP, -⟩ := className_of_methodNamed hnamed
  have hinitP : kP.init = .initialized := Cond.initialized_spec (findClass_of_methodNamed hnamed) hkP hinit
  obtain ⟨vm₁, X₁, hstep₁⟩ := X.invokestatic hexec hown hlink hnamed hmethM hstatic hkP hinitP hy (g := g) hg (argsL := argsL) (rest := rest) (hlen _ hsigM) hstack hdg
  obtain ⟨v, B, X', hpost, hsteps⟩ := hK m meth c ⟨T.setVm vm₁, locs, cells, slots⟩ { g with stack := rest } (.invokestatic index) mk argsL.toArray X₁ hg hsize hdg hW (X₁.named hnamed) (hpre vm₁ X₁.warmed)
  exact ⟨v, vm₁, B, X₁.warmed, X', hpost, fun target h => hstep₁ _ fun acts => by rw [doInvoke_state]; exact hsteps.trans h⟩
theorem vx_runSW {y : MethodName} {bytes cc : ByteArray} {maxL nL mc ms n index : Nat} {ret : Option FieldType} {hh : List (Nat × Nat × Nat × Nat)} {ws : List Cond} {rm : Room} {Pc : Array Value → State → Prop} {Qc : Array Value → State → Outcome → State → Prop} {free : Addr → Prop} {Ts : List Cond} {own : String} {As rest : List Value} {g : JFrame}
    (S : CallFix p m c cc nL s args Ts own) (hM : Met l y ws rm Pc Qc mc ms free) (cw : vx_CSW R s args own index y bytes maxL ret hh ws rm mc ms n) (hp : PreS s H Pc As)
    (hg : g.method = m) (hn : As.length = n) (hsize : g.locals.size = nL) (hstack : g.stack = As.reverse ++ rest) (hW : 2 * g.monitorRoom + (rest.map fun v => v.category).sum ≤ 8) (hdg : decode cc g.pc = .ok (.invokestatic index, 3)) (hf : cells + mc ≤ R.cells ∧ slots + ms ≤ R.slots) :
    va_Run p l e R s m args below meth c H locs cells slots mc ms g rest (Qc As.toArray) (free) := by
  obtain ⟨⟨hrc, hrs, hfr, hlo, hws, hcw⟩, hcode, hini, hy, hlen, hl, hstt⟩ := cw
  have hK : Back l R p e below s args y 3 8 (PreOf R mc ms Pc) (PostOf Qc mc ms free) := va_backW (hh := hh) (bytes := bytes) (maxL := maxL) (ret := ret) hM hp.1 hrc hrs hfr hlo hws hcw (fun a' U hW => word_at hW (Or.inl (by first | rfl | simp [Cond.onTables, Cond.keeps, Cond.steady])) hini)
  obtain ⟨hx, hb, hml, ho, -⟩ := S
  intro T hT X
  obtain ⟨v, vm₁, ⟨U', l2, c2, s2⟩, hW₁, X', ⟨g', mk, t, L, e1, e2, hq, h1, hL, h2, h3⟩, st⟩ := vx_callSW X hx (hh := hh) (bytes := bytes) (maxL := maxL) (ret := ret) ho hl hstt hini hcode hy hK hg (hsize.trans hml.symm) (argsL := As) (rest := rest) (fun sig h => hn.trans (hlen sig h)) hstack hW (by rw [hb]; exact hdg)
    (fun vm₁ hW₁ => ⟨hf.1, hf.2, hp.2 (T.setVm vm₁) hT hW₁⟩)
  dsimp only [Pt.U, Pt.locs, Pt.cells, Pt.slots] at X' e1 e2 h1 h2 h3 st
  subst h1; subst h2; subst h3
  exact ⟨v, (T.setVm vm₁).calling g' mk As.toArray, t, U', L, hT, X', hL, e1, e2, hq, st⟩
/-- not caught here, past rows that name other classes: it goes on to the caller -/
theorem vx_outP {p : Program} {l : Launch} {e : Env} {R : Room} {s : State} {m : MethodId} {args : Array Value} {below : List Frame} {meth : Method} {c : Code} {H : Heap} {locs : List Loc} {cells slots : Nat} {free : Addr → Prop} {ls : Array Slot} {rest : List Value} {Qc : Array Value → State → Outcome → State → Prop} {XC : String → State → State → Prop}
    {pc : Nat} {own E : String} {ce : Cell} {q : Addr} {mc ms : Nat} (hown : s.vm.findClass own = some m.cls) (hlocks : meth.locks = false)
    (hpass : ∀ z ∈ c.exceptionTable.toList, covers z pc = false ∨ (z.catchType ≠ 0 ∧ ∃ nm : String, (Cond.classLink own z.catchType nm).before args s = true ∧ va_Nc E nm s)) (hcell : H[q]? = some ce) (hv : ce.vm = .none) (hcl : s.vm.findClass E = some ce.cls)
    (hx : ∀ t : State, t.heap = H → s.vm.Alike t.vm → XC E s t) (hf : ∀ z ∈ locs, free z.base) (hc : cells ≤ mc) (hs : slots ≤ ms) :
    vx_W p l e R s m args below meth c H locs cells slots (vx_MQ below Qc XC args s mc ms free) (F0 m pc ls rest) q := by
  intro T hT X
  have hpl : e.platform.magicAccessors = ({} : Platform).magicAccessors := by rw [X.admits.platform]
  obtain ⟨vm', hW', X', st⟩ := X.outThrough hlocks q (g := F0 m pc ls rest) rfl rfl rfl (cell := ce) (by rw [hT]; exact hcell) (by rw [hv]; rfl)
    (by obtain ⟨k9, h9, -⟩ := Vm.findClass_spec hcl; exact ⟨k9, h9⟩) (fun z hz => by
      rcases hpass z hz with h | ⟨hz0, nm, hl1, hn1⟩
      · exact Or.inl h
      · obtain ⟨c6, hc6, hcl6⟩ := Cond.classLink_spec hown hl1 e.platform hpl
        obtain ⟨a8, b8, h1, h2, h3⟩ := hn1
        cases Option.some.inj (h1.symm.trans hcl)
        cases Option.some.inj (h2.symm.trans hc6)
        exact Or.inr ⟨hz0, _, hcl6, h3⟩)
  obtain ⟨g₀, hfr⟩ := X'.frames_eq
  have hcell9 : ((T.setVm vm').setFrames (.throwing q :: below)).heap[q]? = some ce := by
    show T.heap[q]? = some ce
    rw [hT]; exact hcell
  have hend : Ended ((T.setVm vm').setFrames (.throwing q :: below)) below (.threw q) := State.frames_setFrames _ (State.cur_lt_of_frames hfr)
  refine ⟨(T.setVm vm').setFrames (.throwing q :: below), ?_, .threw q, X'.here.running, hend, Or.inr ⟨q, rfl, E, ce, locs, hx _ hT (X'.ends _).1.alike, hcell9, hv, hcl, (X'.ends _).1, (X'.ends _).2.mono hc hs, hf⟩⟩
  rw [X.pushThrowing_eq]
  exact st
/-- a thing of a world lies in the heap -/
theorem vx_lt {D : va_G} {cl : List vw_C} {ws : va_W} {H1 : Heap} (h : va_P D cl ws H1) {k : Nat} {q : Nat × va_E} (hk : ws[k]? = some q) : q.1 < H1.size := (h k q hk).lt
end VXS
/-! ===== END ===== -/
/-! ===== BEGIN methods with a table of their own: called by a name, returning or throwing ===== -/
section VXH
/-! vx_backW, vx_callVX, vx_callSX, vx_callVW, vx_runVW, vx_runVX, vx_runSX, vx_ofWH follow the same proofs as their sisters above (Free/Laws.lean, Shelf42/LK1.lean); vx_outP calls Shelf42/NT130.lean (outThrough). -/
section
variable {l : Launch} {R : Room} {p : Program} {e : Env} {below : List Frame} {s : State} {sargs : Array Value} {y : MethodName} {len W9 : Nat}
theorem vx_backW {ws : List Cond} {rm : Room} {Pc : Array Value → State → Prop} {Qc : Array Value → State → Outcome → State → Prop} {XC : String → State → State → Prop} {mc ms : Nat} {free : Addr → Prop} {bytes : ByteArray} {maxL : Nat} {ret : Option FieldType} {hh : List (Nat × Nat × Nat × Nat)}
    (hM : vx_Met l y ws rm Pc Qc XC mc ms free) (hblind : FrameBlind Pc) (hrc : rm.cells = mc) (hrs : rm.slots = ms)
    (hframes : rm.frames + 1 ≤ R.frames) (hlocals : W9 + (maxL + 11) + rm.locals ≤ R.locals)
    (hws : ∀ w ∈ ws, ∀ a' U, s.WarmedH U.vm → w.before a' U = true) (hcode : Cond.codeWith y bytes maxL ret hh ∈ ws) (hinit : ∀ a' U, s.WarmedH U.vm → (Cond.initialized y.cls).before a' U = true) :
    vx_Back l R p e below s sargs y len W9 (PreOf R mc ms Pc) (PostOf Qc mc ms free) (vx_Post XC mc ms free) := by
  intro m meth c A g ig mk a X hg hsize hdg hW hn hp
  have h1 : (headSpec ws rm).pre.before a A.U = true := atoms_intro fun w hw => hws w hw _ _ X.warmed
  have h2 : (Cond.codeWith y bytes maxL ret hh).before a A.U = true := hws _ hcode _ _ X.warmed
  have h3 : (Cond.initialized y.cls).before a A.U = true := hinit _ _ X.warmed
  have h4 : A.cells + (headSpec ws rm).room.cells ≤ R.cells := by rw [show (headSpec ws rm).room.cells = mc from hrc]; exact hp.1
  have h5 : A.slots + (headSpec ws rm).room.slots ≤ R.slots := by rw [show (headSpec ws rm).room.slots = ms from hrs]; exact hp.2.1
  have hPc : Pc a (A.U.calling g mk a) := hblind _ _ _ _ hp.2.2
  obtain ⟨U, Ls, c0, s0⟩ := A
  dsimp only [Pt.U, Pt.locs, Pt.cells, Pt.slots] at h1 h2 h3 h4 h5 X hn hPc ⊢
  obtain ⟨m9, methY, cY, hn9, hmY, hcY, -, hlY, -⟩ := Cond.codeWith_spec h2
  cases Option.some.inj (hn9.symm.trans hn)
  obtain ⟨kY, hkY, -⟩ := className_of_methodNamed hn
  have hinitY : kY.init = .initialized := Cond.initialized_spec (findClass_of_methodNamed hn) hkY h3
  have h : At U g.method c below := by rw [hg]; exact X.here
  have hlocals9 : W9 + (maxL + 11) + (headSpec ws rm).room.locals ≤ R.locals := hlocals
  have happ : (headSpec ws rm).appliesLoose y e.platform (U.calling g mk a) = true :=
    Spec.appliesLoose_calling (g := g) h hdg hn hkY hinitY
      (X.room_calling (g := g) (R' := (headSpec ws rm).room) hsize hmY hcY hframes (by rw [hlY]; omega) h4 h5) h1
  obtain ⟨mid, hmid⟩ := h.above
  have hfr : (U.setTop g).frames = (.java g :: mid) ++ below := by rw [State.frames_setTop' g h.top, hmid]; rfl
  obtain ⟨o, s₂, hsteps, -, hend, hq⟩ := Steps.callFree hM p X.admits X.cas X.clock (acts := []) hfr happ hPc trivial
  have hq' : vx_Q Qc XC mc ms free a (U.calling g mk a) o s₂ := hq
  rw [State.frames_setTop' g h.top] at hend
  obtain ⟨g₀, hg0⟩ := Option.isSome_iff_exists.mp h.top
  obtain ⟨r, hr⟩ := State.topJava?_eq_some.mp hg0
  have hr' : (({ U with heap := s₂.heap, slotsUsed := s₂.slotsUsed } : State).setVm s₂.vm).frames = .java g₀ :: r := hr
  rcases hq' with ⟨hqc, L, hfe, hL⟩ | ⟨q, rfl, E, ce, L, hx, hce, hcv, hcl, hW₂, hsm, hL⟩
  · obtain ⟨⟨v, rfl⟩, hW₂, e2, q2, q3, q4, q5, q6⟩ := id hfe
    have e3 : s₂ = ({ (U.calling g mk a).setFrames s₂.frames with heap := s₂.heap, slotsUsed := s₂.slotsUsed } : State).setVm s₂.vm := by
      have : s₂ = ({ s₂ with vm := (U.calling g mk a).vm } : State).setVm s₂.vm := rfl
      rw [e2] at this
      exact this
    obtain ⟨c₂, i₂, len₂, hc₂, hd₂, hf₂⟩ := hend
    have hW' : U.WarmedH s₂.vm := hW₂
    have hcc : c₂ = c := by
      have h1 : s₂.code? g.method = U.code? g.method := by
        rw [State.code?_eq, State.code?_eq, hW'.alike.method?]
      exact Option.some.inj (hc₂.symm.trans (h1.trans h.code))
    subst hcc
    have hlen : len₂ = len := by rw [hdg] at hd₂; cases hd₂; rfl
    subst hlen
    have hs₂ : s₂ = (({ U with heap := s₂.heap, slotsUsed := s₂.slotsUsed } : State).setVm s₂.vm).setTop { g with pc := g.pc + len₂, stack := v.toList ++ g.stack } := by
      refine e3.trans ?_
      rw [hf₂, State.calling_eq h.top, State.setFrames_setFrames, State.setTop_of_frames _ hr', hr]
      rfl
    have hsame : U.sameButNew ({ U with heap := s₂.heap, slotsUsed := s₂.slotsUsed } : State) L mc ms := by
      refine ⟨?_, q2, q3, q4, q5, q6⟩
      obtain ⟨t, ht, -⟩ := State.frames_cons hr
      show ({ U with heap := s₂.heap, slotsUsed := s₂.slotsUsed } : State) = { U.setFrames U.frames with heap := s₂.heap, slotsUsed := s₂.slotsUsed }
      rw [State.setFrames_self ht]
    subst hg
    refine Or.inl ⟨v, ⟨(({ U with heap := s₂.heap, slotsUsed := s₂.slotsUsed } : State).setVm s₂.vm), Ls ++ L, c0 + mc, s0 + ms⟩,
      ⟨X.admits, X.cas, X.clock, X.frames, X.room, X.hears, X.method, X.code, (X.here.setHeapUsed s₂.heap s₂.slotsUsed).setVm hW'.alike, X.tail, State.WarmedH.trans X.warmed hW', X.limits, X.bytes, X.same.trans (hsame.setVm s.vm)⟩,
      ⟨g, mk, s₂, L, rfl, rfl, hqc, rfl, hL, rfl, rfl⟩, ?_⟩
    show Steps p.tables e below _ ((({ U with heap := s₂.heap, slotsUsed := s₂.slotsUsed } : State).setVm s₂.vm).setTop { g with pc := g.pc + len₂, stack := v.toList ++ g.stack })
    rw [← hs₂]
    exact hsteps
  · obtain ⟨e2, q2, q3, q4, q5, q6⟩ := id hsm
    have e3 : s₂ = ({ (U.calling g mk a).setFrames s₂.frames with heap := s₂.heap, slotsUsed := s₂.slotsUsed } : State).setVm s₂.vm := by
      have : s₂ = ({ s₂ with vm := (U.calling g mk a).vm } : State).setVm s₂.vm := rfl
      rw [e2] at this
      exact this
    have hf₂ : s₂.frames = .throwing q :: .java g :: U.frames.tail := hend
    have hW' : U.WarmedH s₂.vm := hW₂
    have hs₂ : s₂ = ((({ U with heap := s₂.heap, slotsUsed := s₂.slotsUsed } : State).setVm s₂.vm).setTop g).pushFrame (.throwing q) := by
      refine e3.trans ?_
      rw [hf₂, State.calling_eq h.top, State.setFrames_setFrames, State.pushFrame, State.frames_setTop _ hr', State.setTop_of_frames _ hr', State.setFrames_setFrames, hr]
      rfl
    have hsame : U.sameButNew ({ U with heap := s₂.heap, slotsUsed := s₂.slotsUsed } : State) L mc ms := by
      refine ⟨?_, q2, q3, q4, q5, q6⟩
      obtain ⟨t, ht, -⟩ := State.frames_cons hr
      show ({ U with heap := s₂.heap, slotsUsed := s₂.slotsUsed } : State) = { U.setFrames U.frames with heap := s₂.heap, slotsUsed := s₂.slotsUsed }
      rw [State.setFrames_self ht]
    subst hg
    refine Or.inr ⟨q, ⟨(({ U with heap := s₂.heap, slotsUsed := s₂.slotsUsed } : State).setVm s₂.vm), Ls ++ L, c0 + mc, s0 + ms⟩,
      ⟨X.admits, X.cas, X.clock, X.frames, X.room, X.hears, X.method, X.code, (X.here.setHeapUsed s₂.heap s₂.slotsUsed).setVm hW'.alike, X.tail, State.WarmedH.trans X.warmed hW', X.limits, X.bytes, X.same.trans (hsame.setVm s.vm)⟩,
      ⟨g, mk, s₂, L, E, ce, rfl, rfl, hx, hce, hcv, hcl, rfl, hL, rfl, rfl⟩, ?_⟩
    show Steps p.tables e below _ (((({ U with heap := s₂.heap, slotsUsed := s₂.slotsUsed } : State).setVm s₂.vm).setTop g).pushFrame (.throwing q))
    rw [← hs₂]
    exact hsteps
end
variable {p : Program} {l : Launch} {e : Env} {R : Room} {s : State} {m : MethodId} {args : Array Value} {below : List Frame} {meth : Method} {c : Code} {T : State} {H : Heap} {locs : List Loc} {cells slots : Nat}
theorem vx_callVX (X : Stand p l e R s m args below meth c T locs cells slots) (hexec : p.tables.exec = Jvm.exec) {own C : String} {index : Nat} {y : MethodName} {bytes : ByteArray} {maxL : Nat} {ret : Option FieldType} {hh : List (Nat × Nat × Nat × Nat)}
    (hown : s.vm.findClass own = some m.cls) (hlink : (Cond.methodLink own index y).before args s = true) (hinst : (Cond.instanceMethod y).before args s = true) (hsel : (Cond.selects C y y).before args s = true)
    (hcode : (Cond.codeWith y bytes maxL ret hh).before args s = true) (hy : y.cls ≠ "java/lang/invoke/MethodHandle" ∧ y.cls ≠ "java/lang/invoke/VarHandle")
    {W9 : Nat} {Pre : Pt → Array Value → Prop} {Post : Pt → Array Value → Option Value → Pt → Prop} {PostX : Pt → Array Value → Addr → Pt → Prop} (hK : vx_Back l R p e below s args y 3 W9 Pre Post PostX)
    {b : Addr} {cellB : Cell} (hcell : T.heap[b]? = some cellB) (hobj : cellB.vm.isStatics = false) (hcls : s.vm.findClass C = some cellB.cls)
    {g : JFrame} (hg : g.method = m) (hsize : g.locals.size = c.maxLocals) {argsL rest : List Value} (hlen : ∀ sig, parseMethodDescriptor y.desc = some sig → argsL.length = sig.parameters.length)
    (hstack : g.stack = argsL.reverse ++ .ref b :: rest) (hW : 2 * g.monitorRoom + (rest.map fun v => v.category).sum ≤ W9) (hdg : decode c.code g.pc = .ok (.invokevirtual index, 3))
    (hpre : ∀ vm₁, s.WarmedH vm₁ → Pre ⟨T.setVm vm₁, locs, cells, slots⟩ (Value.ref b :: argsL).toArray) :
    (∃ (v : Option Value) (vm₁ : Vm) (B : Pt), s.WarmedH vm₁ ∧ Stand p l e R s m args below meth c B.U B.locs B.cells B.slots ∧ Post ⟨T.setVm vm₁, locs, cells, slots⟩ (Value.ref b :: argsL).toArray v B ∧
      ∀ target, Steps p.tables e below (B.U.setTop { g with pc := g.pc + 3, stack := v.toList ++ rest }) target → Steps p.tables e below (T.setTop g) target) ∨
    (∃ (q : Addr) (vm₁ : Vm) (B : Pt), s.WarmedH vm₁ ∧ Stand p l e R s m args below meth c B.U B.locs B.cells B.slots ∧ PostX ⟨T.setVm vm₁, locs, cells, slots⟩ (Value.ref b :: argsL).toArray q B ∧
      Steps p.tables e below (T.setTop g) ((B.U.setTop { g with stack := rest }).pushFrame (.throwing q))) := by
  obtain ⟨mk, methM, hnamed, hmethM, hstM, habM⟩ := Cond.instanceMethod_spec hinst
  obtain ⟨m8, methM', cM, hn8, hmethM', -, -, -, -, -, -, hsigM⟩ := Cond.codeWith_spec hcode
  cases Option.some.inj (hn8.symm.trans hnamed)
  cases hmethM.symm.trans hmethM'
  obtain ⟨c2, r2, m2, q1, q2, q3, q4, kP, hkP, hkPi⟩ := Cond.selects_spec hsel
  cases hcls.symm.trans q1
  cases (State.methodFound?_of_named hnamed hy).symm.trans q2
  cases hnamed.symm.trans q3
  have hselP : selectMethod e.platform s.vm cellB.cls mk = .method mk := by rw [Launch.admits_selectMethod X.admits]; exact q4
  obtain ⟨vm₁, X₁, hstep₁⟩ := X.invokevirtual hexec hown hlink hnamed hmethM hstM hkP hkPi hy (a := b) (cell := cellB) hcell
    (fun z h => by rw [h] at hobj; cases hobj) hselP hmethM habM hkP hkPi (g := g) hg (argsL := argsL) (rest := rest) (hlen _ hsigM) hstack hdg
  rcases hK m meth c ⟨T.setVm vm₁, locs, cells, slots⟩ { g with stack := rest } (.invokevirtual index) mk (Value.ref b :: argsL).toArray X₁ hg hsize hdg hW (X₁.named hnamed) (hpre vm₁ X₁.warmed) with ⟨v, B, X', hpost, hsteps⟩ | ⟨q, B, X', hpost, hsteps⟩
  · exact Or.inl ⟨v, vm₁, B, X₁.warmed, X', hpost, fun target h => hstep₁ _ fun acts => by rw [doInvoke_state]; exact hsteps.trans h⟩
  · exact Or.inr ⟨q, vm₁, B, X₁.warmed, X', hpost, hstep₁ _ fun acts => by rw [doInvoke_state]; exact hsteps⟩
theorem vx_callSX (X : Stand p l e R s m args below meth c T locs cells slots) (hexec : p.tables.exec = Jvm.exec) {own : String} {index : Nat} {y : MethodName} {bytes : ByteArray} {maxL : Nat} {ret : Option FieldType} {hh : List (Nat × Nat × Nat × Nat)}
    (hown : s.vm.findClass own = some m.cls) (hlink : (Cond.methodLink own index y).before args s = true) (hstat : (Cond.static y).before args s = true) (hinit : (Cond.initialized y.cls).before args s = true)
    (hcode : (Cond.codeWith y bytes maxL ret hh).before args s = true) (hy : y.cls ≠ "java/lang/invoke/MethodHandle" ∧ y.cls ≠ "java/lang/invoke/VarHandle")
    {W9 : Nat} {Pre : Pt → Array Value → Prop} {Post : Pt → Array Value → Option Value → Pt → Prop} {PostX : Pt → Array Value → Addr → Pt → Prop} (hK : vx_Back l R p e below s args y 3 W9 Pre Post PostX)
    {g : JFrame} (hg : g.method = m) (hsize : g.locals.size = c.maxLocals) {argsL rest : List Value} (hlen : ∀ sig, parseMethodDescriptor y.desc = some sig → argsL.length = sig.parameters.length)
    (hstack : g.stack = argsL.reverse ++ rest) (hW : 2 * g.monitorRoom + (rest.map fun v => v.category).sum ≤ W9) (hdg : decode c.code g.pc = .ok (.invokestatic index, 3))
    (hpre : ∀ vm₁, s.WarmedH vm₁ → Pre ⟨T.setVm vm₁, locs, cells, slots⟩ argsL.toArray) :
    (∃ (v : Option Value) (vm₁ : Vm) (B : Pt), s.WarmedH vm₁ ∧ Stand p l e R s m args below meth c B.U B.locs B.cells B.slots ∧ Post ⟨T.setVm vm₁, locs, cells, slots⟩ argsL.toArray v B ∧
      ∀ target, Steps p.tables e below (B.U.setTop { g with pc := g.pc + 3, stack := v.toList ++ rest }) target → Steps p.tables e below (T.setTop g) target) ∨
    (∃ (q : Addr) (vm₁ : Vm) (B : Pt), s.WarmedH vm₁ ∧ Stand p l e R s m args below meth c B.U B.locs B.cells B.slots ∧ PostX ⟨T.setVm vm₁, locs, cells, slots⟩ argsL.toArray q B ∧
      Steps p.tables e below (T.setTop g) ((B.U.setTop { g with stack := rest }).pushFrame (.throwing q))) := by
  obtain ⟨mk, methM, cM, hnamed, hmethM, -, -, -, -, -, -, hsigM⟩ := Cond.codeWith_spec hcode
  have hstatic : methM.isStatic = true := Cond.static_spec hnamed hmethM hstat
  obtain ⟨kP, hkP, -⟩ := className_of_methodNamed hnamed
  have hinitP : kP.init = .initialized := Cond.initialized_spec (findClass_of_methodNamed hnamed) hkP hinit
  obtain ⟨vm₁, X₁, hstep₁⟩ := X.invokestatic hexec hown hlink hnamed hmethM hstatic hkP hinitP hy (g := g) hg (argsL := argsL) (rest := rest) (hlen _ hsigM) hstack hdg
  rcases hK m meth c ⟨T.setVm vm₁, locs, cells, slots⟩ { g with stack := rest } (.invokestatic index) mk argsL.toArray X₁ hg hsize hdg hW (X₁.named hnamed) (hpre vm₁ X₁.warmed) with ⟨v, B, X', hpost, hsteps⟩ | ⟨q, B, X', hpost, hsteps⟩
  · exact Or.inl ⟨v, vm₁, B, X₁.warmed, X', hpost, fun target h => hstep₁ _ fun acts => by rw [doInvoke_state]; exact hsteps.trans h⟩
  · exact Or.inr ⟨q, vm₁, B, X₁.warmed, X', hpost, hstep₁ _ fun acts => by rw [doInvoke_state]; exact hsteps⟩
theorem vx_callVW (X : Stand p l e R s m args below meth c T locs cells slots) (hexec : p.tables.exec = Jvm.exec) {own C : String} {index : Nat} {y : MethodName} {bytes : ByteArray} {maxL : Nat} {ret : Option FieldType} {hh : List (Nat × Nat × Nat × Nat)}
    (hown : s.vm.findClass own = some m.cls) (hlink : (Cond.methodLink own index y).before args s = true) (hinst : (Cond.instanceMethod y).before args s = true) (hsel : (Cond.selects C y y).before args s = true)
    (hcode : (Cond.codeWith y bytes maxL ret hh).before args s = true) (hy : y.cls ≠ "java/lang/invoke/MethodHandle" ∧ y.cls ≠ "java/lang/invoke/VarHandle")
    {W9 : Nat} {Pre : Pt → Array Value → Prop} {Post : Pt → Array Value → Option Value → Pt → Prop} (hK : Back l R p e below s args y 3 W9 Pre Post)
    {b : Addr} {cellB : Cell} (hcell : T.heap[b]? = some cellB) (hobj : cellB.vm.isStatics = false) (hcls : s.vm.findClass C = some cellB.cls)
    {g : JFrame} (hg : g.method = m) (hsize : g.locals.size = c.maxLocals) {argsL rest : List Value} (hlen : ∀ sig, parseMethodDescriptor y.desc = some sig → argsL.length = sig.parameters.length)
    (hstack : g.stack = argsL.reverse ++ .ref b :: rest) (hW : 2 * g.monitorRoom + (rest.map fun v => v.category).sum ≤ W9) (hdg : decode c.code g.pc = .ok (.invokevirtual index, 3))
    (hpre : ∀ vm₁, s.WarmedH vm₁ → Pre ⟨T.setVm vm₁, locs, cells, slots⟩ (Value.ref b :: argsL).toArray) :
    ∃ (v : Option Value) (vm₁ : Vm) (B : Pt), s.WarmedH vm₁ ∧ Stand p l e R s m args below meth c B.U B.locs B.cells B.slots ∧ Post ⟨T.setVm vm₁, locs, cells, slots⟩ (Value.ref b :: argsL).toArray v B ∧
      ∀ target, Steps p.tables e below (B.U.setTop { g with pc := g.pc + 3, stack := v.toList ++ rest }) target → Steps p.tables e below (T.setTop g) target := by
  obtain ⟨mk, methM, hnamed, hmethM, hstM, habM⟩ := Cond.instanceMethod_spec hinst
  obtain ⟨m8, methM', cM, hn8, hmethM', -, -, -, -, -, -, hsigM⟩ := Cond.codeWith_spec hcode
  cases Option.some.inj (hn8.symm.trans hnamed)
  cases hmethM.symm.trans hmethM'
  obtain ⟨c2, r2, m2, q1, q2, q3, q4, kP, hkP, hkPi⟩ := Cond.selects_spec hsel
  cases hcls.symm.trans q1
  cases (State.methodFound?_of_named hnamed hy).symm.trans q2
  cases hnamed.symm.trans q3
  have hselP : selectMethod e.platform s.vm cellB.cls mk = .method mk := by rw [Launch.admits_selectMethod X.admits]; exact q4
  obtain ⟨vm₁, X₁, hstep₁⟩ := X.invokevirtual hexec hown hlink hnamed hmethM hstM hkP hkPi hy (a := b) (cell := cellB) hcell
    (fun z h => by rw [h] at hobj; cases hobj) hselP hmethM habM hkP hkPi (g := g) hg (argsL := argsL) (rest := rest) (hlen _ hsigM) hstack hdg
  obtain ⟨v, B, X', hpost, hsteps⟩ := hK m meth c ⟨T.setVm vm₁, locs, cells, slots⟩ { g with stack := rest } (.invokevirtual index) mk (Value.ref b :: argsL).toArray X₁ hg hsize hdg hW (X₁.named hnamed) (hpre vm₁ X₁.warmed)
  exact ⟨v, vm₁, B, X₁.warmed, X', hpost, fun target h => hstep₁ _ fun acts => by rw [doInvoke_state]; exact hsteps.trans h⟩
abbrev vx_CVW (R : Room) (s : State) (args : Array Value) (own C : String) (index : Nat) (y : MethodName) (bytes : ByteArray) (maxL : Nat) (ret : Option FieldType) (hh : List (Nat × Nat × Nat × Nat)) (ws : List Cond) (rm : Room) (mc ms n : Nat) : Prop :=
  (rm.cells = mc ∧ rm.slots = ms ∧ rm.frames + 1 ≤ R.frames ∧ 8 + (maxL + 11) + rm.locals ≤ R.locals ∧ (∀ w ∈ ws, ∀ (a' : Array Value) (U : State), s.WarmedH U.vm → w.before a' U = true) ∧ Cond.codeWith y bytes maxL ret hh ∈ ws) ∧
  (Cond.codeWith y bytes maxL ret hh).before args s = true ∧ (Cond.initialized y.cls).before args s = true ∧ (y.cls ≠ "java/lang/invoke/MethodHandle" ∧ y.cls ≠ "java/lang/invoke/VarHandle") ∧
  (∀ sig, parseMethodDescriptor y.desc = some sig → n = sig.parameters.length) ∧ (Cond.methodLink own index y).before args s = true ∧ (Cond.instanceMethod y).before args s = true ∧ (Cond.selects C y y).before args s = true
theorem vx_cwVW {own C : String} {index maxL mc ms : Nat} {y : MethodName} {bytes : ByteArray} {ret : Option FieldType} {hh : List (Nat × Nat × Nat × Nat)} {Ts ws ws' : List Cond} {rm : Room} (n : Nat) (ht : ∀ w ∈ Ts, w.before args s = true) (hT : GoodIn Ts (wsV own index C y ws)) (hw : ws = Cond.codeWith y bytes maxL ret hh :: ws') (hrc : rm.cells = mc) (hrs : rm.slots = ms)
    (hd : y.cls = C ∧ y.cls ≠ "java/lang/invoke/MethodHandle" ∧ y.cls ≠ "java/lang/invoke/VarHandle" ∧ (parseMethodDescriptor y.desc).map (fun d => d.parameters.length) = some n) (hR : rm.frames + 1 ≤ R.frames ∧ 8 + (maxL + 11) + rm.locals ≤ R.locals) :
    vx_CVW R s args own C index y bytes maxL ret hh ws rm mc ms n := by
  obtain ⟨hC, hd⟩ := hd
  subst hC
  have ok : ∀ w ∈ wsV own index y.cls y ws, w.before args s = true := fun w h => ht w (hT w h).1
  have hG : GoodIn Ts ws := fun w h => hT w (by unfold wsV; exact List.mem_append_right _ h)
  have hc : Cond.codeWith y bytes maxL ret hh ∈ ws := by rw [hw]; exact List.mem_cons_self
  refine ⟨⟨hrc, hrs, hR.1, hR.2, pay_in ht hG, hc⟩, ht _ (hG _ hc).1, ok _ (by simp [wsV]), ⟨hd.1, hd.2.1⟩, fun sig h => ?_, ok _ (by simp [wsV]), ok _ (by simp [wsV]), ok _ (by simp [wsV])⟩
  have h2 := hd.2.2
  rw [h] at h2
  exact (Option.some.inj h2).symm
theorem vx_runVW {y : MethodName} {bytes cc : ByteArray} {maxL nL mc ms n index : Nat} {ret : Option FieldType} {hh : List (Nat × Nat × Nat × Nat)} {ws : List Cond} {rm : Room} {Pc : Array Value → State → Prop} {Qc : Array Value → State → Outcome → State → Prop} {free : Addr → Prop} {Ts : List Cond} {own C : String} {b : Addr} {As rest : List Value} {g : JFrame}
    (S : CallFix p m c cc nL s args Ts own) (hM : Met l y ws rm Pc Qc mc ms free) (cw : vx_CVW R s args own C index y bytes maxL ret hh ws rm mc ms n) (hp : PreV s H C b Pc As)
    (hg : g.method = m) (hn : As.length = n) (hsize : g.locals.size = nL) (hstack : g.stack = As.reverse ++ .ref b :: rest) (hW : 2 * g.monitorRoom + (rest.map fun v => v.category).sum ≤ 8) (hdg : decode cc g.pc = .ok (.invokevirtual index, 3)) (hf : cells + mc ≤ R.cells ∧ slots + ms ≤ R.slots) :
    va_Run p l e R s m args below meth c H locs cells slots mc ms g rest (Qc (Value.ref b :: As).toArray) free := by
  obtain ⟨⟨hrc, hrs, hfr, hlo, hws, hcw⟩, hcode, hini, hy, hlen, hl, hin, hse⟩ := cw
  have hK : Back l R p e below s args y 3 8 (PreOf R mc ms Pc) (PostOf Qc mc ms free) := va_backW (hh := hh) (bytes := bytes) (maxL := maxL) (ret := ret) hM hp.1 hrc hrs hfr hlo hws hcw (fun a' U hW => word_at hW (Or.inl (by first | rfl | simp [Cond.onTables, Cond.keeps, Cond.steady])) hini)
  obtain ⟨hx, hb, hml, ho, -⟩ := S
  obtain ⟨-, ⟨cellB, hcB, hoB, hclB⟩, hPc⟩ := hp
  intro T hT X
  obtain ⟨v, vm₁, ⟨U', l2, c2, s2⟩, hW₁, X', ⟨g', mk, t, L, e1, e2, hq, h1, hL, h2, h3⟩, st⟩ := vx_callVW X hx (C := C) (hh := hh) (bytes := bytes) (maxL := maxL) (ret := ret) ho hl hin hse hcode hy hK (by rw [hT]; exact hcB) hoB hclB hg (hsize.trans hml.symm) (argsL := As) (rest := rest) (fun sig h => hn.trans (hlen sig h)) hstack hW (by rw [hb]; exact hdg)
    (fun vm₁ hW₁ => ⟨hf.1, hf.2, hPc (T.setVm vm₁) hT hW₁⟩)
  dsimp only [Pt.U, Pt.locs, Pt.cells, Pt.slots] at X' e1 e2 h1 h2 h3 st
  subst h1; subst h2; subst h3
  exact ⟨v, (T.setVm vm₁).calling g' mk (Value.ref b :: As).toArray, t, U', L, hT, X', hL, e1, e2, hq, st⟩
section
variable {y : MethodName} {bytes cc : ByteArray} {maxL nL mc ms n index : Nat} {ret : Option FieldType} {ws : List Cond} {rm : Room} {Pc : Array Value → State → Prop} {Qc : Array Value → State → Outcome → State → Prop} {XC : String → State → State → Prop} {free : Addr → Prop} {Ts : List Cond} {own C : String} {b : Addr} {As rest : List Value} {g : JFrame}
theorem vx_runVX {hh : List (Nat × Nat × Nat × Nat)} (S : CallFix p m c cc nL s args Ts own) (hM : vx_Met l y ws rm Pc Qc XC mc ms free) (cw : vx_CVW R s args own C index y bytes maxL ret hh ws rm mc ms n) (hp : PreV s H C b Pc As)
    (hg : g.method = m) (hn : As.length = n) (hsize : g.locals.size = nL) (hstack : g.stack = As.reverse ++ .ref b :: rest) (hW : 2 * g.monitorRoom + (rest.map fun v => v.category).sum ≤ 8) (hdg : decode cc g.pc = .ok (.invokevirtual index, 3)) (hf : cells + mc ≤ R.cells ∧ slots + ms ≤ R.slots) :
    vx_Run p l e R s m args below meth c H locs cells slots mc ms g rest (Qc (Value.ref b :: As).toArray) XC free := by
  obtain ⟨⟨hrc, hrs, hfr, hlo, hws, hcw⟩, hcode, hini, hy, hlen, hl, hin, hse⟩ := cw
  have hK : vx_Back l R p e below s args y 3 8 (PreOf R mc ms Pc) (PostOf Qc mc ms free) (vx_Post XC mc ms free) := vx_backW (hh := hh) (bytes := bytes) (maxL := maxL) (ret := ret) hM hp.1 hrc hrs hfr hlo hws hcw (fun a' U hW => word_at hW (Or.inl (by first | rfl | simp [Cond.onTables, Cond.keeps, Cond.steady])) hini)
  obtain ⟨hx, hb, hml, ho, -⟩ := S
  obtain ⟨-, ⟨cellB, hcB, hoB, hclB⟩, hPc⟩ := hp
  intro T hT X
  rcases vx_callVX X hx (C := C) (hh := hh) (bytes := bytes) (maxL := maxL) (ret := ret) ho hl hin hse hcode hy hK (by rw [hT]; exact hcB) hoB hclB hg (hsize.trans hml.symm) (argsL := As) (rest := rest) (fun sig h => hn.trans (hlen sig h)) hstack hW (by rw [hb]; exact hdg)
    (fun vm₁ hW₁ => ⟨hf.1, hf.2, hPc (T.setVm vm₁) hT hW₁⟩) with ⟨v, vm₁, ⟨U', l2, c2, s2⟩, hW₁, X', ⟨g', mk, t, L, e1, e2, hq, h1, hL, h2, h3⟩, st⟩ | ⟨q, vm₁, ⟨U', l2, c2, s2⟩, hW₁, X', ⟨g', mk, t, L, E, ce, e1, e2, hq, hce, hcv, hcl, h1, hL, h2, h3⟩, st⟩
  · dsimp only [Pt.U, Pt.locs, Pt.cells, Pt.slots] at X' e1 e2 h1 h2 h3 st
    subst h1; subst h2; subst h3
    exact Or.inl ⟨v, (T.setVm vm₁).calling g' mk (Value.ref b :: As).toArray, t, U', L, hT, X', hL, e1, e2, hq, st⟩
  · dsimp only [Pt.U, Pt.locs, Pt.cells, Pt.slots] at X' e1 e2 h1 h2 h3 st hcl
    subst h1; subst h2; subst h3
    exact Or.inr ⟨q, (T.setVm vm₁).calling g' mk (Value.ref b :: As).toArray, t, U', L, E, ce, hT, X', hL, e1, e2, hq, hce, hcv, vx_cls hW₁ hcl, st⟩
theorem vx_runSX {hh : List (Nat × Nat × Nat × Nat)} (S : CallFix p m c cc nL s args Ts own) (hM : vx_Met l y ws rm Pc Qc XC mc ms free) (cw : vx_CSW R s args own index y bytes maxL ret hh ws rm mc ms n) (hp : PreS s H Pc As)
    (hg : g.method = m) (hn : As.length = n) (hsize : g.locals.size = nL) (hstack : g.stack = As.reverse ++ rest) (hW : 2 * g.monitorRoom + (rest.map fun v => v.category).sum ≤ 8) (hdg : decode cc g.pc = .ok (.invokestatic index, 3)) (hf : cells + mc ≤ R.cells ∧ slots + ms ≤ R.slots) :
    vx_Run p l e R s m args below meth c H locs cells slots mc ms g rest (Qc As.toArray) XC free := by
  obtain ⟨⟨hrc, hrs, hfr, hlo, hws, hcw⟩, hcode, hini, hy, hlen, hl, hstt⟩ := cw
  have hK : vx_Back l R p e below s args y 3 8 (PreOf R mc ms Pc) (PostOf Qc mc ms free) (vx_Post XC mc ms free) := vx_backW (hh := hh) (bytes := bytes) (maxL := maxL) (ret := ret) hM hp.1 hrc hrs hfr hlo hws hcw (fun a' U hW => word_at hW (Or.inl (by first | rfl | simp [Cond.onTables, Cond.keeps, Cond.steady])) hini)
  obtain ⟨hx, hb, hml, ho, -⟩ := S
  intro T hT X
  rcases vx_callSX X hx (hh := hh) (bytes := bytes) (maxL := maxL) (ret := ret) ho hl hstt hini hcode hy hK hg (hsize.trans hml.symm) (argsL := As) (rest := rest) (fun sig h => hn.trans (hlen sig h)) hstack hW (by rw [hb]; exact hdg)
    (fun vm₁ hW₁ => ⟨hf.1, hf.2, hp.2 (T.setVm vm₁) hT hW₁⟩) with ⟨v, vm₁, ⟨U', l2, c2, s2⟩, hW₁, X', ⟨g', mk, t, L, e1, e2, hq, h1, hL, h2, h3⟩, st⟩ | ⟨q, vm₁, ⟨U', l2, c2, s2⟩, hW₁, X', ⟨g', mk, t, L, E, ce, e1, e2, hq, hce, hcv, hcl, h1, hL, h2, h3⟩, st⟩
  · dsimp only [Pt.U, Pt.locs, Pt.cells, Pt.slots] at X' e1 e2 h1 h2 h3 st
    subst h1; subst h2; subst h3
    exact Or.inl ⟨v, (T.setVm vm₁).calling g' mk As.toArray, t, U', L, hT, X', hL, e1, e2, hq, st⟩
  · dsimp only [Pt.U, Pt.locs, Pt.cells, Pt.slots] at X' e1 e2 h1 h2 h3 st hcl
    subst h1; subst h2; subst h3
    exact Or.inr ⟨q, (T.setVm vm₁).calling g' mk As.toArray, t, U', L, E, ce, hT, X', hL, e1, e2, hq, hce, hcv, vx_cls hW₁ hcl, st⟩
end
end VXH
theorem vx_ofWH {l : Launch} {y : MethodName} {ws ws' : List Cond} {rm : Room} {Pc : Array Value → State → Prop} {Qc : Array Value → State → Outcome → State → Prop} {XC : String → State → State → Prop} {mc ms : Nat} {free : Addr → Prop} {cc : ByteArray} {maxL : Nat} {ret : Option FieldType} {hh : List (Nat × Nat × Nat × Nat)}
    (hy : plainName y.cls = true) (hw : ws = Cond.codeWith y cc maxL ret hh :: ws')
    (body : ∀ p e s m args below meth c s₁, BodyLoose p l y (headSpec ws rm) cc maxL ret e s m args below meth c s₁ → c.maxLocals = maxL → Pc args s →
      W p l e (headSpec ws rm).room s m args below meth c s.heap [] 0 0 (vx_MQ below Qc XC args s mc ms free) (entryFrame m args maxL)) : vx_Met l y ws rm Pc Qc XC mc ms free := by
  refine MetFree.of_bodyS (code := cc) (maxLocals := maxL) (ret := ret) hy ?_ ?_
  · intro args s m h hn
    obtain ⟨m9, meth, c, hn9, h1, h2, h3, h4, -, h5, h6, -⟩ := Cond.codeWith_spec (atoms_spec (ws := ws) h _ (by rw [hw]; exact List.mem_cons_self))
    cases hn.symm.trans hn9
    exact ⟨meth, c, h1, h2, h3, h4, h5, h6⟩
  · intro p e s m args below meth c s₁ B hml hP _
    have hh0 : s₁.heap = s.heap := by rw [B.state]; rfl
    obtain ⟨t, a1, o, b1, b2, b3⟩ := body p e s m args below meth c s₁ B hml hP s₁ hh0 (Stand.of_body B)
    exact ⟨t, o, a1, b1, b2, b3⟩
/-! ===== END ===== -/
end
section
def RX0 : String := "ClosedStreets$History"
def TX0 : u_T := fun k => match k with
  | 0 => ("ClosedStreets$History", "towns", "[LClosedStreets$Town;", true)
  | 1 => ("ClosedStreets$History", "oldest", "I", false)
  | _ => ("ClosedStreets$History", "count", "I", false)
def tyX0 : Nat → FieldType := fun k => match k with
  | 0 => .array (.object "ClosedStreets$Town")
  | 1 => .int
  | _ => .int
abbrev wsX00 : List Cond := u_ws RX0 TX0 3
theorem nmX0 : ∀ a, a < 3 → ∀ b, b < 3 → a ≠ b → (TX0 a).2.1 ≠ (TX0 b).2.1 := by decide +kernel
theorem tyX0_ok : ∀ k, k < 3 → parseFieldDescriptor (TX0 k).2.2.1 = some (tyX0 k) := by decide +kernel
abbrev cX0_init : ByteArray := prog_2_method_1_code
def yX0_init : MethodName := ⟨RX0, "<init>", "()V"⟩
abbrev cX0_keep : ByteArray := prog_2_method_2_code
def yX0_keep : MethodName := ⟨RX0, "keep", "(LClosedStreets$Town;)V"⟩
abbrev cX0_takeBack : ByteArray := prog_2_method_3_code
def yX0_takeBack : MethodName := ⟨RX0, "takeBack", "(LClosedStreets$Town;)V"⟩
abbrev cX0_forgetAll : ByteArray := prog_2_method_4_code
def yX0_forgetAll : MethodName := ⟨RX0, "forgetAll", "()V"⟩
def RX1 : String := "ClosedStreets$PlanReader"
def TX1 : u_T := fun k => match k with
  | 0 => ("ClosedStreets$PlanReader", "commands", "I", false)
  | 1 => ("ClosedStreets$PlanReader", "words", "[I", true)
  | 2 => ("ClosedStreets$PlanReader", "first", "[I", true)
  | 3 => ("ClosedStreets$PlanReader", "second", "[I", true)
  | _ => ("ClosedStreets$PlanReader", "at", "I", false)
def tyX1 : Nat → FieldType := fun k => match k with
  | 0 => .int
  | 1 => .array .int
  | 2 => .array .int
  | 3 => .array .int
  | _ => .int
abbrev wsX10 : List Cond := u_ws RX1 TX1 5
theorem nmX1 : ∀ a, a < 5 → ∀ b, b < 5 → a ≠ b → (TX1 a).2.1 ≠ (TX1 b).2.1 := by decide +kernel
theorem tyX1_ok : ∀ k, k < 5 → parseFieldDescriptor (TX1 k).2.2.1 = some (tyX1 k) := by decide +kernel
abbrev cX1_init : ByteArray := prog_3_method_1_code
def yX1_init : MethodName := ⟨RX1, "<init>", "()V"⟩
abbrev cX1_errorIn : ByteArray := prog_3_method_2_code
def yX1_errorIn : MethodName := ⟨RX1, "errorIn", "(LClosedStreets$Text;)I"⟩
abbrev cX1_readCommand : ByteArray := prog_3_method_3_code
def yX1_readCommand : MethodName := ⟨RX1, "readCommand", "(LClosedStreets$Text;I)Z"⟩
abbrev cX1_readLetters : ByteArray := prog_3_method_4_code
def yX1_readLetters : MethodName := ⟨RX1, "readLetters", "(LClosedStreets$Text;Ljava/lang/String;)Z"⟩
abbrev cX1_readBlank : ByteArray := prog_3_method_5_code
def yX1_readBlank : MethodName := ⟨RX1, "readBlank", "(LClosedStreets$Text;)Z"⟩
abbrev cX1_readNumber : ByteArray := prog_3_method_6_code
def yX1_readNumber : MethodName := ⟨RX1, "readNumber", "(LClosedStreets$Text;)I"⟩
abbrev cX1_wordBeginningWith : ByteArray := prog_3_method_7_code
def yX1_wordBeginningWith : MethodName := ⟨RX1, "wordBeginningWith", "(I)Ljava/lang/String;"⟩
abbrev cX1_numbersBehind : ByteArray := prog_3_method_8_code
def yX1_numbersBehind : MethodName := ⟨RX1, "numbersBehind", "(I)I"⟩
def RX2 : String := "ClosedStreets$Route"
def TX2 : u_T := fun k => match k with
  | 0 => ("ClosedStreets$Route", "weights", "[I", true)
  | 1 => ("ClosedStreets$Route", "way", "[I", true)
  | 2 => ("ClosedStreets$Route", "places", "[I", true)
  | _ => ("ClosedStreets$Route", "wayCrossings", "I", false)
def tyX2 : Nat → FieldType := fun k => match k with
  | 0 => .array .int
  | 1 => .array .int
  | 2 => .array .int
  | _ => .int
abbrev wsX20 : List Cond := u_ws RX2 TX2 4
theorem nmX2 : ∀ a, a < 4 → ∀ b, b < 4 → a ≠ b → (TX2 a).2.1 ≠ (TX2 b).2.1 := by decide +kernel
theorem tyX2_ok : ∀ k, k < 4 → parseFieldDescriptor (TX2 k).2.2.1 = some (tyX2 k) := by decide +kernel
abbrev cX2_init : ByteArray := prog_4_method_1_code
def yX2_init : MethodName := ⟨RX2, "<init>", "()V"⟩
abbrev cX2_weigh : ByteArray := prog_4_method_2_code
def yX2_weigh : MethodName := ⟨RX2, "weigh", "(LClosedStreets$Town;I)V"⟩
abbrev cX2_improves : ByteArray := prog_4_method_3_code
def yX2_improves : MethodName := ⟨RX2, "improves", "(LClosedStreets$Town;I)Z"⟩
abbrev cX2_weightOf : ByteArray := prog_4_method_4_code
def yX2_weightOf : MethodName := ⟨RX2, "weightOf", "(LClosedStreets$Town;I)I"⟩
abbrev cX2_find : ByteArray := prog_4_method_5_code
def yX2_find : MethodName := ⟨RX2, "find", "(LClosedStreets$Town;)V"⟩
abbrev cX2_nextBehind : ByteArray := prog_4_method_6_code
def yX2_nextBehind : MethodName := ⟨RX2, "nextBehind", "(LClosedStreets$Town;I)I"⟩
abbrev cX2_lengthFrom : ByteArray := prog_4_method_7_code
def yX2_lengthFrom : MethodName := ⟨RX2, "lengthFrom", "(I)I"⟩
abbrev cX2_farthest : ByteArray := prog_4_method_8_code
def yX2_farthest : MethodName := ⟨RX2, "farthest", "(LClosedStreets$Town;)I"⟩
abbrev cX2_streets : ByteArray := prog_4_method_9_code
def yX2_streets : MethodName := ⟨RX2, "streets", "()I"⟩
abbrev cX2_crossingAt : ByteArray := prog_4_method_10_code
def yX2_crossingAt : MethodName := ⟨RX2, "crossingAt", "(I)I"⟩
abbrev cX2_placeOf : ByteArray := prog_4_method_11_code
def yX2_placeOf : MethodName := ⟨RX2, "placeOf", "(I)I"⟩
abbrev cX2_uses : ByteArray := prog_4_method_12_code
def yX2_uses : MethodName := ⟨RX2, "uses", "(LClosedStreets$Town;I)Z"⟩
def RX3 : String := "ClosedStreets$Slots"
def TX3 : u_T := fun k => match k with
  | 0 => ("ClosedStreets$Slots", "towns", "[LClosedStreets$Town;", true)
  | _ => ("ClosedStreets$Slots", "filled", "[Z", true)
def tyX3 : Nat → FieldType := fun k => match k with
  | 0 => .array (.object "ClosedStreets$Town")
  | _ => .array .boolean
abbrev wsX30 : List Cond := u_ws RX3 TX3 2
theorem nmX3 : ∀ a, a < 2 → ∀ b, b < 2 → a ≠ b → (TX3 a).2.1 ≠ (TX3 b).2.1 := by decide +kernel
theorem tyX3_ok : ∀ k, k < 2 → parseFieldDescriptor (TX3 k).2.2.1 = some (tyX3 k) := by decide +kernel
abbrev cX3_init : ByteArray := prog_5_method_1_code
def yX3_init : MethodName := ⟨RX3, "<init>", "()V"⟩
abbrev cX3_keep : ByteArray := prog_5_method_2_code
def yX3_keep : MethodName := ⟨RX3, "keep", "(ILClosedStreets$Town;)V"⟩
abbrev cX3_giveBack : ByteArray := prog_5_method_3_code
def yX3_giveBack : MethodName := ⟨RX3, "giveBack", "(ILClosedStreets$Town;)V"⟩
abbrev cX3_emptyAll : ByteArray := prog_5_method_4_code
def yX3_emptyAll : MethodName := ⟨RX3, "emptyAll", "()V"⟩
def RX4 : String := "ClosedStreets$Text"
def TX4 : u_T := fun k => match k with
  | 0 => ("ClosedStreets$Text", "characters", "[C", true)
  | _ => ("ClosedStreets$Text", "length", "I", false)
def tyX4 : Nat → FieldType := fun k => match k with
  | 0 => .array .char
  | _ => .int
abbrev wsX40 : List Cond := u_ws RX4 TX4 2
theorem nmX4 : ∀ a, a < 2 → ∀ b, b < 2 → a ≠ b → (TX4 a).2.1 ≠ (TX4 b).2.1 := by decide +kernel
theorem tyX4_ok : ∀ k, k < 2 → parseFieldDescriptor (TX4 k).2.2.1 = some (tyX4 k) := by decide +kernel
abbrev cX4_init : ByteArray := prog_6_method_1_code
def yX4_init : MethodName := ⟨RX4, "<init>", "()V"⟩
abbrev cX4_put : ByteArray := prog_6_method_2_code
def yX4_put : MethodName := ⟨RX4, "put", "(C)V"⟩
abbrev cX4_codeAt : ByteArray := prog_6_method_3_code
def yX4_codeAt : MethodName := ⟨RX4, "codeAt", "(I)I"⟩
abbrev cX4_digitAt : ByteArray := prog_6_method_4_code
def yX4_digitAt : MethodName := ⟨RX4, "digitAt", "(I)I"⟩
def RX5 : String := "ClosedStreets$Town"
def TX5 : u_T := fun k => match k with
  | 0 => ("ClosedStreets$Town", "crossings", "I", false)
  | 1 => ("ClosedStreets$Town", "streets", "I", false)
  | 2 => ("ClosedStreets$Town", "start", "I", false)
  | 3 => ("ClosedStreets$Town", "goal", "I", false)
  | 4 => ("ClosedStreets$Town", "lower", "[I", true)
  | 5 => ("ClosedStreets$Town", "higher", "[I", true)
  | 6 => ("ClosedStreets$Town", "length", "[I", true)
  | _ => ("ClosedStreets$Town", "closed", "[Z", true)
def tyX5 : Nat → FieldType := fun k => match k with
  | 0 => .int
  | 1 => .int
  | 2 => .int
  | 3 => .int
  | 4 => .array .int
  | 5 => .array .int
  | 6 => .array .int
  | _ => .array .boolean
abbrev wsX50 : List Cond := u_ws RX5 TX5 8
theorem nmX5 : ∀ a, a < 8 → ∀ b, b < 8 → a ≠ b → (TX5 a).2.1 ≠ (TX5 b).2.1 := by decide +kernel
theorem tyX5_ok : ∀ k, k < 8 → parseFieldDescriptor (TX5 k).2.2.1 = some (tyX5 k) := by decide +kernel
abbrev cX5_init : ByteArray := prog_7_method_1_code
def yX5_init : MethodName := ⟨RX5, "<init>", "()V"⟩
abbrev cX5_beginWith : ByteArray := prog_7_method_2_code
def yX5_beginWith : MethodName := ⟨RX5, "beginWith", "(III)V"⟩
abbrev cX5_copyFrom : ByteArray := prog_7_method_3_code
def yX5_copyFrom : MethodName := ⟨RX5, "copyFrom", "(LClosedStreets$Town;)V"⟩
abbrev cX5_copyStreet : ByteArray := prog_7_method_4_code
def yX5_copyStreet : MethodName := ⟨RX5, "copyStreet", "(LClosedStreets$Town;II)V"⟩
abbrev cX5_hasCrossing : ByteArray := prog_7_method_5_code
def yX5_hasCrossing : MethodName := ⟨RX5, "hasCrossing", "(I)Z"⟩
abbrev cX5_hasStreet : ByteArray := prog_7_method_6_code
def yX5_hasStreet : MethodName := ⟨RX5, "hasStreet", "(I)Z"⟩
abbrev cX5_lengthOf : ByteArray := prog_7_method_7_code
def yX5_lengthOf : MethodName := ⟨RX5, "lengthOf", "(I)I"⟩
abbrev cX5_closedStreets : ByteArray := prog_7_method_8_code
def yX5_closedStreets : MethodName := ⟨RX5, "closedStreets", "()I"⟩
abbrev cX5_openStreetsAt : ByteArray := prog_7_method_9_code
def yX5_openStreetsAt : MethodName := ⟨RX5, "openStreetsAt", "(I)I"⟩
abbrev cX5_streetJoining : ByteArray := prog_7_method_10_code
def yX5_streetJoining : MethodName := ⟨RX5, "streetJoining", "(II)I"⟩
abbrev cX5_reachedThrough : ByteArray := prog_7_method_11_code
def yX5_reachedThrough : MethodName := ⟨RX5, "reachedThrough", "(II)I"⟩
abbrev cX5_isJoinedWithAllOthers : ByteArray := prog_7_method_12_code
def yX5_isJoinedWithAllOthers : MethodName := ⟨RX5, "isJoinedWithAllOthers", "(I)Z"⟩
abbrev cX5_takesNoStreet : ByteArray := prog_7_method_13_code
def yX5_takesNoStreet : MethodName := ⟨RX5, "takesNoStreet", "()Z"⟩
abbrev cX5_refusalOfPair : ByteArray := prog_7_method_14_code
def yX5_refusalOfPair : MethodName := ⟨RX5, "refusalOfPair", "(II)I"⟩
abbrev cX5_grow : ByteArray := prog_7_method_15_code
def yX5_grow : MethodName := ⟨RX5, "grow", "()I"⟩
abbrev cX5_join : ByteArray := prog_7_method_16_code
def yX5_join : MethodName := ⟨RX5, "join", "(III)I"⟩
abbrev cX5_replace : ByteArray := prog_7_method_17_code
def yX5_replace : MethodName := ⟨RX5, "replace", "(III)V"⟩
abbrev cX5_takeAway : ByteArray := prog_7_method_18_code
def yX5_takeAway : MethodName := ⟨RX5, "takeAway", "(I)I"⟩
abbrev cX5_stretch : ByteArray := prog_7_method_19_code
def yX5_stretch : MethodName := ⟨RX5, "stretch", "(II)I"⟩
abbrev cX5_shut : ByteArray := prog_7_method_20_code
def yX5_shut : MethodName := ⟨RX5, "shut", "(IZ)I"⟩
abbrev cX5_direct : ByteArray := prog_7_method_21_code
def yX5_direct : MethodName := ⟨RX5, "direct", "(II)I"⟩
def RX6 : String := "ClosedStreets$TownReader"
def TX6 : u_T := fun k => match k with
  | _ => ("ClosedStreets$TownReader", "at", "I", false)
def tyX6 : Nat → FieldType := fun k => match k with
  | _ => .int
abbrev wsX60 : List Cond := u_ws RX6 TX6 1
theorem nmX6 : ∀ a, a < 1 → ∀ b, b < 1 → a ≠ b → (TX6 a).2.1 ≠ (TX6 b).2.1 := by decide +kernel
theorem tyX6_ok : ∀ k, k < 1 → parseFieldDescriptor (TX6 k).2.2.1 = some (tyX6 k) := by decide +kernel
abbrev cX6_init : ByteArray := prog_8_method_1_code
def yX6_init : MethodName := ⟨RX6, "<init>", "()V"⟩
abbrev cX6_errorIn : ByteArray := prog_8_method_2_code
def yX6_errorIn : MethodName := ⟨RX6, "errorIn", "(LClosedStreets$Text;LClosedStreets$Town;)I"⟩
abbrev cX6_readHead : ByteArray := prog_8_method_3_code
def yX6_readHead : MethodName := ⟨RX6, "readHead", "(LClosedStreets$Text;LClosedStreets$Town;)Z"⟩
abbrev cX6_readStreet : ByteArray := prog_8_method_4_code
def yX6_readStreet : MethodName := ⟨RX6, "readStreet", "(LClosedStreets$Text;LClosedStreets$Town;)Z"⟩
def RX7 : String := "ClosedStreets"
def TX7 : u_T := fun k => match k with
  | 0 => ("ClosedStreets", "text", "LClosedStreets$Text;", true)
  | 1 => ("ClosedStreets", "townReader", "LClosedStreets$TownReader;", true)
  | 2 => ("ClosedStreets", "planReader", "LClosedStreets$PlanReader;", true)
  | 3 => ("ClosedStreets", "town", "LClosedStreets$Town;", true)
  | 4 => ("ClosedStreets", "trial", "LClosedStreets$Town;", true)
  | 5 => ("ClosedStreets", "history", "LClosedStreets$History;", true)
  | 6 => ("ClosedStreets", "slots", "LClosedStreets$Slots;", true)
  | 7 => ("ClosedStreets", "best", "LClosedStreets$Route;", true)
  | _ => ("ClosedStreets", "other", "LClosedStreets$Route;", true)
def tyX7 : Nat → FieldType := fun k => match k with
  | 0 => .object "ClosedStreets$Text"
  | 1 => .object "ClosedStreets$TownReader"
  | 2 => .object "ClosedStreets$PlanReader"
  | 3 => .object "ClosedStreets$Town"
  | 4 => .object "ClosedStreets$Town"
  | 5 => .object "ClosedStreets$History"
  | 6 => .object "ClosedStreets$Slots"
  | 7 => .object "ClosedStreets$Route"
  | _ => .object "ClosedStreets$Route"
abbrev wsX70 : List Cond := u_ws RX7 TX7 9
theorem nmX7 : ∀ a, a < 9 → ∀ b, b < 9 → a ≠ b → (TX7 a).2.1 ≠ (TX7 b).2.1 := by decide +kernel
theorem tyX7_ok : ∀ k, k < 9 → parseFieldDescriptor (TX7 k).2.2.1 = some (tyX7 k) := by decide +kernel
abbrev cX7_init : ByteArray := prog_1_method_1_code
def yX7_init : MethodName := ⟨RX7, "<init>", "()V"⟩
abbrev cX7_append : ByteArray := prog_1_method_2_code
def yX7_append : MethodName := ⟨RX7, "append", "(I)I"⟩
abbrev cX7_clearText : ByteArray := prog_1_method_3_code
def yX7_clearText : MethodName := ⟨RX7, "clearText", "()I"⟩
abbrev cX7_errorPosition : ByteArray := prog_1_method_4_code
def yX7_errorPosition : MethodName := ⟨RX7, "errorPosition", "(Z)I"⟩
abbrev cX7_load : ByteArray := prog_1_method_5_code
def yX7_load : MethodName := ⟨RX7, "load", "()I"⟩
abbrev cX7_about : ByteArray := prog_1_method_6_code
def yX7_about : MethodName := ⟨RX7, "about", "(I)I"⟩
abbrev cX7_street : ByteArray := prog_1_method_7_code
def yX7_street : MethodName := ⟨RX7, "street", "(II)I"⟩
abbrev cX7_crossing : ByteArray := prog_1_method_8_code
def yX7_crossing : MethodName := ⟨RX7, "crossing", "(II)I"⟩
abbrev cX7_between : ByteArray := prog_1_method_9_code
def yX7_between : MethodName := ⟨RX7, "between", "(II)I"⟩
abbrev cX7_wayAt : ByteArray := prog_1_method_10_code
def yX7_wayAt : MethodName := ⟨RX7, "wayAt", "(I)I"⟩
abbrev cX7_addCrossing : ByteArray := prog_1_method_11_code
def yX7_addCrossing : MethodName := ⟨RX7, "addCrossing", "()I"⟩
abbrev cX7_addStreet : ByteArray := prog_1_method_12_code
def yX7_addStreet : MethodName := ⟨RX7, "addStreet", "(III)I"⟩
abbrev cX7_removeStreet : ByteArray := prog_1_method_13_code
def yX7_removeStreet : MethodName := ⟨RX7, "removeStreet", "(I)I"⟩
abbrev cX7_setLength : ByteArray := prog_1_method_14_code
def yX7_setLength : MethodName := ⟨RX7, "setLength", "(II)I"⟩
abbrev cX7_close : ByteArray := prog_1_method_15_code
def yX7_close : MethodName := ⟨RX7, "close", "(IZ)I"⟩
abbrev cX7_setEnds : ByteArray := prog_1_method_16_code
def yX7_setEnds : MethodName := ⟨RX7, "setEnds", "(II)I"⟩
abbrev cX7_runPlan : ByteArray := prog_1_method_17_code
def yX7_runPlan : MethodName := ⟨RX7, "runPlan", "()I"⟩
abbrev cX7_undo : ByteArray := prog_1_method_18_code
def yX7_undo : MethodName := ⟨RX7, "undo", "()I"⟩
abbrev cX7_without : ByteArray := prog_1_method_19_code
def yX7_without : MethodName := ⟨RX7, "without", "(I)I"⟩
abbrev cX7_withoutAt : ByteArray := prog_1_method_20_code
def yX7_withoutAt : MethodName := ⟨RX7, "withoutAt", "(II)I"⟩
abbrev cX7_dearest : ByteArray := prog_1_method_21_code
def yX7_dearest : MethodName := ⟨RX7, "dearest", "()I"⟩
abbrev cX7_upTo : ByteArray := prog_1_method_22_code
def yX7_upTo : MethodName := ⟨RX7, "upTo", "(I)I"⟩
abbrev cX7_saves : ByteArray := prog_1_method_23_code
def yX7_saves : MethodName := ⟨RX7, "saves", "(III)I"⟩
abbrev cX7_ways : ByteArray := prog_1_method_24_code
def yX7_ways : MethodName := ⟨RX7, "ways", "(I)I"⟩
abbrev cX7_middle : ByteArray := prog_1_method_25_code
def yX7_middle : MethodName := ⟨RX7, "middle", "()I"⟩
abbrev cX7_runScript : ByteArray := prog_1_method_26_code
def yX7_runScript : MethodName := ⟨RX7, "runScript", "(IJ)I"⟩
abbrev cX7_simulate : ByteArray := prog_1_method_27_code
def yX7_simulate : MethodName := ⟨RX7, "simulate", "(JI)I"⟩
abbrev cX7_save : ByteArray := prog_1_method_28_code
def yX7_save : MethodName := ⟨RX7, "save", "(I)I"⟩
abbrev cX7_restore : ByteArray := prog_1_method_29_code
def yX7_restore : MethodName := ⟨RX7, "restore", "(I)I"⟩
abbrev cX7_raise : ByteArray := prog_1_method_30_code
def yX7_raise : MethodName := ⟨RX7, "raise", "(I)V"⟩
abbrev cX7_requireStreet : ByteArray := prog_1_method_31_code
def yX7_requireStreet : MethodName := ⟨RX7, "requireStreet", "(I)V"⟩
abbrev cX7_requireCrossing : ByteArray := prog_1_method_32_code
def yX7_requireCrossing : MethodName := ⟨RX7, "requireCrossing", "(I)V"⟩
abbrev cX7_requirePlace : ByteArray := prog_1_method_33_code
def yX7_requirePlace : MethodName := ⟨RX7, "requirePlace", "(I)V"⟩
abbrev cX7_requireSlot : ByteArray := prog_1_method_34_code
def yX7_requireSlot : MethodName := ⟨RX7, "requireSlot", "(I)V"⟩
abbrev cX7_refusalOfLength : ByteArray := prog_1_method_35_code
def yX7_refusalOfLength : MethodName := ⟨RX7, "refusalOfLength", "(I)I"⟩
abbrev cX7_acceptTrial : ByteArray := prog_1_method_36_code
def yX7_acceptTrial : MethodName := ⟨RX7, "acceptTrial", "()V"⟩
abbrev cX7_bestLengthIn : ByteArray := prog_1_method_37_code
def yX7_bestLengthIn : MethodName := ⟨RX7, "bestLengthIn", "(LClosedStreets$Town;)I"⟩
abbrev cX7_lengthWithout : ByteArray := prog_1_method_38_code
def yX7_lengthWithout : MethodName := ⟨RX7, "lengthWithout", "(I)I"⟩
abbrev cX7_isOnBestWayWithLength : ByteArray := prog_1_method_39_code
def yX7_isOnBestWayWithLength : MethodName := ⟨RX7, "isOnBestWayWithLength", "(II)Z"⟩
abbrev cX7_neededStreets : ByteArray := prog_1_method_40_code
def yX7_neededStreets : MethodName := ⟨RX7, "neededStreets", "()I"⟩
abbrev cX7_countWays : ByteArray := prog_1_method_41_code
def yX7_countWays : MethodName := ⟨RX7, "countWays", "(LClosedStreets$Town;IIIII)I"⟩
abbrev cX7_planCommandOnTrial : ByteArray := prog_1_method_42_code
def yX7_planCommandOnTrial : MethodName := ⟨RX7, "planCommandOnTrial", "(I)I"⟩
abbrev cX7_leadingGroups : ByteArray := prog_1_method_43_code
def yX7_leadingGroups : MethodName := ⟨RX7, "leadingGroups", "(JI)J"⟩
abbrev cX7_scriptCommandOnTrial : ByteArray := prog_1_method_44_code
def yX7_scriptCommandOnTrial : MethodName := ⟨RX7, "scriptCommandOnTrial", "(I)Z"⟩
abbrev cX7_isAtMost : ByteArray := prog_1_method_45_code
def yX7_isAtMost : MethodName := ⟨RX7, "isAtMost", "(II)Z"⟩
abbrev cX7_isOnBestWayOfTrial : ByteArray := prog_1_method_46_code
def yX7_isOnBestWayOfTrial : MethodName := ⟨RX7, "isOnBestWayOfTrial", "(I)Z"⟩
abbrev cX7_hasTrialWayOf : ByteArray := prog_1_method_47_code
def yX7_hasTrialWayOf : MethodName := ⟨RX7, "hasTrialWayOf", "(I)Z"⟩
abbrev cX7_isNearInTrial : ByteArray := prog_1_method_48_code
def yX7_isNearInTrial : MethodName := ⟨RX7, "isNearInTrial", "(II)Z"⟩
def RX8 : String := "ClosedStreetsModel"
def TX8 : u_T := fun k => match k with
  | 0 => ("ClosedStreetsModel", "refusal", "I", false)
  | 1 => ("ClosedStreetsModel", "text", "[I", true)
  | 2 => ("ClosedStreetsModel", "size", "I", false)
  | 3 => ("ClosedStreetsModel", "spot", "I", false)
  | 4 => ("ClosedStreetsModel", "read", "[I", true)
  | 5 => ("ClosedStreetsModel", "now", "[I", true)
  | 6 => ("ClosedStreetsModel", "trial", "[I", true)
  | 7 => ("ClosedStreetsModel", "diary", "[I", true)
  | 8 => ("ClosedStreetsModel", "acts", "I", false)
  | 9 => ("ClosedStreetsModel", "kept", "[I", true)
  | 10 => ("ClosedStreetsModel", "isKept", "[Z", true)
  | 11 => ("ClosedStreetsModel", "letters", "[I", true)
  | 12 => ("ClosedStreetsModel", "costs", "[I", true)
  | 13 => ("ClosedStreetsModel", "far", "[I", true)
  | 14 => ("ClosedStreetsModel", "way", "[I", true)
  | 15 => ("ClosedStreetsModel", "wayMany", "I", false)
  | 16 => ("ClosedStreetsModel", "word", "I", false)
  | 17 => ("ClosedStreetsModel", "first", "I", false)
  | 18 => ("ClosedStreetsModel", "second", "I", false)
  | 19 => ("ClosedStreetsModel", "tried", "[I", true)
  | 20 => ("ClosedStreetsModel", "soLong", "[I", true)
  | _ => ("ClosedStreetsModel", "isOn", "[Z", true)
def tyX8 : Nat → FieldType := fun k => match k with
  | 0 => .int
  | 1 => .array .int
  | 2 => .int
  | 3 => .int
  | 4 => .array .int
  | 5 => .array .int
  | 6 => .array .int
  | 7 => .array .int
  | 8 => .int
  | 9 => .array .int
  | 10 => .array .boolean
  | 11 => .array .int
  | 12 => .array .int
  | 13 => .array .int
  | 14 => .array .int
  | 15 => .int
  | 16 => .int
  | 17 => .int
  | 18 => .int
  | 19 => .array .int
  | 20 => .array .int
  | _ => .array .boolean
abbrev wsX80 : List Cond := u_ws RX8 TX8 22
theorem nmX8 : ∀ a, a < 22 → ∀ b, b < 22 → a ≠ b → (TX8 a).2.1 ≠ (TX8 b).2.1 := by decide +kernel
theorem tyX8_ok : ∀ k, k < 22 → parseFieldDescriptor (TX8 k).2.2.1 = some (tyX8 k) := by decide +kernel
abbrev cX8_init : ByteArray := prog_10_method_1_code
def yX8_init : MethodName := ⟨RX8, "<init>", "()V"⟩
abbrev cX8_tell : ByteArray := prog_10_method_2_code
def yX8_tell : MethodName := ⟨RX8, "tell", "(IIIIII)V"⟩
abbrev cX8_thrown : ByteArray := prog_10_method_3_code
def yX8_thrown : MethodName := ⟨RX8, "thrown", "()I"⟩
abbrev cX8_refused : ByteArray := prog_10_method_4_code
def yX8_refused : MethodName := ⟨RX8, "refused", "(I)Z"⟩
abbrev cX8_in : ByteArray := prog_10_method_5_code
def yX8_in : MethodName := ⟨RX8, "in", "(JJJ)Z"⟩
abbrev cX8_clear : ByteArray := prog_10_method_6_code
def yX8_clear : MethodName := ⟨RX8, "clear", "([II)V"⟩
abbrev cX8_copyTown : ByteArray := prog_10_method_7_code
def yX8_copyTown : MethodName := ⟨RX8, "copyTown", "([II[II)V"⟩
abbrev cX8_isCrossing : ByteArray := prog_10_method_8_code
def yX8_isCrossing : MethodName := ⟨RX8, "isCrossing", "([II)Z"⟩
abbrev cX8_isStreet : ByteArray := prog_10_method_9_code
def yX8_isStreet : MethodName := ⟨RX8, "isStreet", "([II)Z"⟩
abbrev cX8_joined : ByteArray := prog_10_method_10_code
def yX8_joined : MethodName := ⟨RX8, "joined", "([III)I"⟩
abbrev cX8_streetsAt : ByteArray := prog_10_method_11_code
def yX8_streetsAt : MethodName := ⟨RX8, "streetsAt", "([IIZ)I"⟩
abbrev cX8_build : ByteArray := prog_10_method_12_code
def yX8_build : MethodName := ⟨RX8, "build", "([IIII)I"⟩
abbrev cX8_tearDown : ByteArray := prog_10_method_13_code
def yX8_tearDown : MethodName := ⟨RX8, "tearDown", "([II)V"⟩
abbrev cX8_price : ByteArray := prog_10_method_14_code
def yX8_price : MethodName := ⟨RX8, "price", "(III)V"⟩
abbrev cX8_layCosts : ByteArray := prog_10_method_15_code
def yX8_layCosts : MethodName := ⟨RX8, "layCosts", "([II)V"⟩
abbrev cX8_layFar : ByteArray := prog_10_method_16_code
def yX8_layFar : MethodName := ⟨RX8, "layFar", "([II)V"⟩
abbrev cX8_lengthOf : ByteArray := prog_10_method_17_code
def yX8_lengthOf : MethodName := ⟨RX8, "lengthOf", "(I)I"⟩
abbrev cX8_best : ByteArray := prog_10_method_18_code
def yX8_best : MethodName := ⟨RX8, "best", "([I)I"⟩
abbrev cX8_bestBut : ByteArray := prog_10_method_19_code
def yX8_bestBut : MethodName := ⟨RX8, "bestBut", "([II)I"⟩
abbrev cX8_layWay : ByteArray := prog_10_method_20_code
def yX8_layWay : MethodName := ⟨RX8, "layWay", "([II)I"⟩
abbrev cX8_placeOf : ByteArray := prog_10_method_21_code
def yX8_placeOf : MethodName := ⟨RX8, "placeOf", "(I)I"⟩
abbrev cX8_isOfWay : ByteArray := prog_10_method_22_code
def yX8_isOfWay : MethodName := ⟨RX8, "isOfWay", "([II)Z"⟩
abbrev cX8_append : ByteArray := prog_10_method_23_code
def yX8_append : MethodName := ⟨RX8, "append", "(I)I"⟩
abbrev cX8_clearText : ByteArray := prog_10_method_24_code
def yX8_clearText : MethodName := ⟨RX8, "clearText", "()I"⟩
abbrev cX8_digit : ByteArray := prog_10_method_25_code
def yX8_digit : MethodName := ⟨RX8, "digit", "(II)I"⟩
abbrev cX8_readStreet : ByteArray := prog_10_method_26_code
def yX8_readStreet : MethodName := ⟨RX8, "readStreet", "()Z"⟩
abbrev cX8_readTown : ByteArray := prog_10_method_27_code
def yX8_readTown : MethodName := ⟨RX8, "readTown", "()Z"⟩
abbrev cX8_readWord : ByteArray := prog_10_method_28_code
def yX8_readWord : MethodName := ⟨RX8, "readWord", "()Z"⟩
abbrev cX8_readBlank : ByteArray := prog_10_method_29_code
def yX8_readBlank : MethodName := ⟨RX8, "readBlank", "()Z"⟩
abbrev cX8_readNumber : ByteArray := prog_10_method_30_code
def yX8_readNumber : MethodName := ⟨RX8, "readNumber", "()I"⟩
abbrev cX8_readCommand : ByteArray := prog_10_method_31_code
def yX8_readCommand : MethodName := ⟨RX8, "readCommand", "()Z"⟩
abbrev cX8_readPlan : ByteArray := prog_10_method_32_code
def yX8_readPlan : MethodName := ⟨RX8, "readPlan", "()Z"⟩
abbrev cX8_errorPosition : ByteArray := prog_10_method_33_code
def yX8_errorPosition : MethodName := ⟨RX8, "errorPosition", "(Z)I"⟩
abbrev cX8_forget : ByteArray := prog_10_method_34_code
def yX8_forget : MethodName := ⟨RX8, "forget", "()V"⟩
abbrev cX8_load : ByteArray := prog_10_method_35_code
def yX8_load : MethodName := ⟨RX8, "load", "()I"⟩
abbrev cX8_about : ByteArray := prog_10_method_36_code
def yX8_about : MethodName := ⟨RX8, "about", "(I)I"⟩
abbrev cX8_street : ByteArray := prog_10_method_37_code
def yX8_street : MethodName := ⟨RX8, "street", "(II)I"⟩
abbrev cX8_crossing : ByteArray := prog_10_method_38_code
def yX8_crossing : MethodName := ⟨RX8, "crossing", "(II)I"⟩
abbrev cX8_between : ByteArray := prog_10_method_39_code
def yX8_between : MethodName := ⟨RX8, "between", "(II)I"⟩
abbrev cX8_at : ByteArray := prog_10_method_40_code
def yX8_at : MethodName := ⟨RX8, "at", "(I)I"⟩
abbrev cX8_wayAt : ByteArray := prog_10_method_41_code
def yX8_wayAt : MethodName := ⟨RX8, "wayAt", "(I)I"⟩
abbrev cX8_remember : ByteArray := prog_10_method_42_code
def yX8_remember : MethodName := ⟨RX8, "remember", "()V"⟩
abbrev cX8_addCrossing : ByteArray := prog_10_method_43_code
def yX8_addCrossing : MethodName := ⟨RX8, "addCrossing", "()I"⟩
abbrev cX8_whyNotBuild : ByteArray := prog_10_method_44_code
def yX8_whyNotBuild : MethodName := ⟨RX8, "whyNotBuild", "([IIII)I"⟩
abbrev cX8_addStreet : ByteArray := prog_10_method_45_code
def yX8_addStreet : MethodName := ⟨RX8, "addStreet", "(III)I"⟩
abbrev cX8_removeStreet : ByteArray := prog_10_method_46_code
def yX8_removeStreet : MethodName := ⟨RX8, "removeStreet", "(I)I"⟩
abbrev cX8_setLength : ByteArray := prog_10_method_47_code
def yX8_setLength : MethodName := ⟨RX8, "setLength", "(II)I"⟩
abbrev cX8_close : ByteArray := prog_10_method_48_code
def yX8_close : MethodName := ⟨RX8, "close", "(IZ)I"⟩
abbrev cX8_setEnds : ByteArray := prog_10_method_49_code
def yX8_setEnds : MethodName := ⟨RX8, "setEnds", "(II)I"⟩
abbrev cX8_command : ByteArray := prog_10_method_50_code
def yX8_command : MethodName := ⟨RX8, "command", "()Z"⟩
abbrev cX8_runPlan : ByteArray := prog_10_method_51_code
def yX8_runPlan : MethodName := ⟨RX8, "runPlan", "()I"⟩
abbrev cX8_undo : ByteArray := prog_10_method_52_code
def yX8_undo : MethodName := ⟨RX8, "undo", "()I"⟩
abbrev cX8_without : ByteArray := prog_10_method_53_code
def yX8_without : MethodName := ⟨RX8, "without", "(I)I"⟩
abbrev cX8_withoutAt : ByteArray := prog_10_method_54_code
def yX8_withoutAt : MethodName := ⟨RX8, "withoutAt", "(II)I"⟩
abbrev cX8_dearest : ByteArray := prog_10_method_55_code
def yX8_dearest : MethodName := ⟨RX8, "dearest", "()I"⟩
abbrev cX8_upTo : ByteArray := prog_10_method_56_code
def yX8_upTo : MethodName := ⟨RX8, "upTo", "(I)I"⟩
abbrev cX8_saves : ByteArray := prog_10_method_57_code
def yX8_saves : MethodName := ⟨RX8, "saves", "(III)I"⟩
abbrev cX8_ways : ByteArray := prog_10_method_58_code
def yX8_ways : MethodName := ⟨RX8, "ways", "(I)I"⟩
abbrev cX8_middle : ByteArray := prog_10_method_59_code
def yX8_middle : MethodName := ⟨RX8, "middle", "()I"⟩
abbrev cX8_tryGroup : ByteArray := prog_10_method_60_code
def yX8_tryGroup : MethodName := ⟨RX8, "tryGroup", "(IIII)Z"⟩
abbrev cX8_runScript : ByteArray := prog_10_method_61_code
def yX8_runScript : MethodName := ⟨RX8, "runScript", "(IJ)I"⟩
abbrev cX8_simulate : ByteArray := prog_10_method_62_code
def yX8_simulate : MethodName := ⟨RX8, "simulate", "(JI)I"⟩
abbrev cX8_save : ByteArray := prog_10_method_63_code
def yX8_save : MethodName := ⟨RX8, "save", "(I)I"⟩
abbrev cX8_restore : ByteArray := prog_10_method_64_code
def yX8_restore : MethodName := ⟨RX8, "restore", "(I)I"⟩
def RJ9 : String := "java/lang/Math"
def TJ9 : u_T := fun k => match k with
  | _ => ("", "", "", false)
def tyJ9 : Nat → FieldType := fun k => match k with
  | _ => .int
abbrev wsJ90 : List Cond := u_ws RJ9 TJ9 0
theorem nmJ9 : ∀ a, a < 0 → ∀ b, b < 0 → a ≠ b → (TJ9 a).2.1 ≠ (TJ9 b).2.1 := by decide +kernel
theorem tyJ9_ok : ∀ k, k < 0 → parseFieldDescriptor (TJ9 k).2.2.1 = some (tyJ9 k) := by decide +kernel
abbrev cJ9_max_7cf53 : ByteArray := prog_15_method_65_code
def yJ9_max_7cf53 : MethodName := ⟨RJ9, "max", "(II)I"⟩
abbrev cJ9_min_7cf53 : ByteArray := prog_15_method_69_code
def yJ9_min_7cf53 : MethodName := ⟨RJ9, "min", "(II)I"⟩
def RJ0 : String := "java/lang/String"
def TJ0 : u_T := fun k => match k with
  | _ => ("", "", "", false)
def tyJ0 : Nat → FieldType := fun k => match k with
  | _ => .int
abbrev wsJ00 : List Cond := u_ws RJ0 TJ0 0
theorem nmJ0 : ∀ a, a < 0 → ∀ b, b < 0 → a ≠ b → (TJ0 a).2.1 ≠ (TJ0 b).2.1 := by decide +kernel
theorem tyJ0_ok : ∀ k, k < 0 → parseFieldDescriptor (TJ0 k).2.2.1 = some (tyJ0 k) := by decide +kernel
abbrev cJ0_length_8abf5 : ByteArray := prog_17_method_54_code
def yJ0_length_8abf5 : MethodName := ⟨RJ0, "length", "()I"⟩
abbrev cJ0_isEmpty_aae02 : ByteArray := prog_17_method_55_code
def yJ0_isEmpty_aae02 : MethodName := ⟨RJ0, "isEmpty", "()Z"⟩
abbrev cJ0_charAt_5068e : ByteArray := prog_17_method_56_code
def yJ0_charAt_5068e : MethodName := ⟨RJ0, "charAt", "(I)C"⟩
abbrev cJ0_coder_7d493 : ByteArray := prog_17_method_152_code
def yJ0_coder_7d493 : MethodName := ⟨RJ0, "coder", "()B"⟩
abbrev cJ0_isLatin1_aae02 : ByteArray := prog_17_method_154_code
def yJ0_isLatin1_aae02 : MethodName := ⟨RJ0, "isLatin1", "()Z"⟩
abbrev cJ0_checkIndex_df160 : ByteArray := prog_17_method_155_code
def yJ0_checkIndex_df160 : MethodName := ⟨RJ0, "checkIndex", "(II)V"⟩
def RJ1 : String := "java/lang/StringLatin1"
def TJ1 : u_T := fun k => match k with
  | _ => ("", "", "", false)
def tyJ1 : Nat → FieldType := fun k => match k with
  | _ => .int
abbrev wsJ10 : List Cond := u_ws RJ1 TJ1 0
theorem nmJ1 : ∀ a, a < 0 → ∀ b, b < 0 → a ≠ b → (TJ1 a).2.1 ≠ (TJ1 b).2.1 := by decide +kernel
theorem tyJ1_ok : ∀ k, k < 0 → parseFieldDescriptor (TJ1 k).2.2.1 = some (tyJ1 k) := by decide +kernel
abbrev cJ1_charAt_3b067 : ByteArray := prog_18_method_2_code
def yJ1_charAt_3b067 : MethodName := ⟨RJ1, "charAt", "([BI)C"⟩
def RJ2 : String := "java/lang/StringUTF16"
def TJ2 : u_T := fun k => match k with
  | _ => ("", "", "", false)
def tyJ2 : Nat → FieldType := fun k => match k with
  | _ => .int
abbrev wsJ20 : List Cond := u_ws RJ2 TJ2 0
theorem nmJ2 : ∀ a, a < 0 → ∀ b, b < 0 → a ≠ b → (TJ2 a).2.1 ≠ (TJ2 b).2.1 := by decide +kernel
theorem tyJ2_ok : ∀ k, k < 0 → parseFieldDescriptor (TJ2 k).2.2.1 = some (tyJ2 k) := by decide +kernel
abbrev cJ2_getChar_3b067 : ByteArray := prog_19_method_5_code
def yJ2_getChar_3b067 : MethodName := ⟨RJ2, "getChar", "([BI)C"⟩
abbrev cJ2_length_9d52b : ByteArray := prog_19_method_6_code
def yJ2_length_9d52b : MethodName := ⟨RJ2, "length", "([B)I"⟩
abbrev cJ2_charAt_3b067 : ByteArray := prog_19_method_83_code
def yJ2_charAt_3b067 : MethodName := ⟨RJ2, "charAt", "([BI)C"⟩
abbrev cJ2_checkIndex_2214a : ByteArray := prog_19_method_91_code
def yJ2_checkIndex_2214a : MethodName := ⟨RJ2, "checkIndex", "(I[B)V"⟩
def RJ3 : String := "jdk/internal/util/Preconditions"
def TJ3 : u_T := fun k => match k with
  | _ => ("", "", "", false)
def tyJ3 : Nat → FieldType := fun k => match k with
  | _ => .int
abbrev wsJ30 : List Cond := u_ws RJ3 TJ3 0
theorem nmJ3 : ∀ a, a < 0 → ∀ b, b < 0 → a ≠ b → (TJ3 a).2.1 ≠ (TJ3 b).2.1 := by decide +kernel
theorem tyJ3_ok : ∀ k, k < 0 → parseFieldDescriptor (TJ3 k).2.2.1 = some (tyJ3 k) := by decide +kernel
abbrev cJ3_checkIndex_8e157 : ByteArray := prog_21_method_11_code
def yJ3_checkIndex_8e157 : MethodName := ⟨RJ3, "checkIndex", "(IILjava/util/function/BiFunction;)I"⟩
def RL : String := "ClosedStreetsLaw"
abbrev cL_append : ByteArray := method_3_code
def yL_append : MethodName := ⟨RL, "append", "(LClosedStreets;I[J)I"⟩
abbrev cL_load : ByteArray := method_4_code
def yL_load : MethodName := ⟨RL, "load", "(LClosedStreets;[J)I"⟩
abbrev cL_about : ByteArray := method_5_code
def yL_about : MethodName := ⟨RL, "about", "(LClosedStreets;I[J)I"⟩
abbrev cL_street : ByteArray := method_6_code
def yL_street : MethodName := ⟨RL, "street", "(LClosedStreets;II[J)I"⟩
abbrev cL_crossing : ByteArray := method_7_code
def yL_crossing : MethodName := ⟨RL, "crossing", "(LClosedStreets;II[J)I"⟩
abbrev cL_between : ByteArray := method_8_code
def yL_between : MethodName := ⟨RL, "between", "(LClosedStreets;II[J)I"⟩
abbrev cL_wayAt : ByteArray := method_9_code
def yL_wayAt : MethodName := ⟨RL, "wayAt", "(LClosedStreets;I[J)I"⟩
abbrev cL_addCrossing : ByteArray := method_10_code
def yL_addCrossing : MethodName := ⟨RL, "addCrossing", "(LClosedStreets;[J)I"⟩
abbrev cL_addStreet : ByteArray := method_11_code
def yL_addStreet : MethodName := ⟨RL, "addStreet", "(LClosedStreets;III[J)I"⟩
abbrev cL_removeStreet : ByteArray := method_12_code
def yL_removeStreet : MethodName := ⟨RL, "removeStreet", "(LClosedStreets;I[J)I"⟩
abbrev cL_setLength : ByteArray := method_13_code
def yL_setLength : MethodName := ⟨RL, "setLength", "(LClosedStreets;II[J)I"⟩
abbrev cL_close : ByteArray := method_14_code
def yL_close : MethodName := ⟨RL, "close", "(LClosedStreets;IZ[J)I"⟩
abbrev cL_setEnds : ByteArray := method_15_code
def yL_setEnds : MethodName := ⟨RL, "setEnds", "(LClosedStreets;II[J)I"⟩
abbrev cL_runPlan : ByteArray := method_16_code
def yL_runPlan : MethodName := ⟨RL, "runPlan", "(LClosedStreets;[J)I"⟩
abbrev cL_undo : ByteArray := method_17_code
def yL_undo : MethodName := ⟨RL, "undo", "(LClosedStreets;[J)I"⟩
abbrev cL_without : ByteArray := method_18_code
def yL_without : MethodName := ⟨RL, "without", "(LClosedStreets;I[J)I"⟩
abbrev cL_withoutAt : ByteArray := method_19_code
def yL_withoutAt : MethodName := ⟨RL, "withoutAt", "(LClosedStreets;II[J)I"⟩
abbrev cL_upTo : ByteArray := method_20_code
def yL_upTo : MethodName := ⟨RL, "upTo", "(LClosedStreets;I[J)I"⟩
abbrev cL_saves : ByteArray := method_21_code
def yL_saves : MethodName := ⟨RL, "saves", "(LClosedStreets;III[J)I"⟩
abbrev cL_ways : ByteArray := method_22_code
def yL_ways : MethodName := ⟨RL, "ways", "(LClosedStreets;I[J)I"⟩
abbrev cL_runScript : ByteArray := method_23_code
def yL_runScript : MethodName := ⟨RL, "runScript", "(LClosedStreets;IJ[J)I"⟩
abbrev cL_simulate : ByteArray := method_24_code
def yL_simulate : MethodName := ⟨RL, "simulate", "(LClosedStreets;JI[J)I"⟩
abbrev cL_save : ByteArray := method_25_code
def yL_save : MethodName := ⟨RL, "save", "(LClosedStreets;I[J)I"⟩
abbrev cL_restore : ByteArray := method_26_code
def yL_restore : MethodName := ⟨RL, "restore", "(LClosedStreets;I[J)I"⟩
abbrev cL_law : ByteArray := code
def yL_law : MethodName := ⟨RL, "law", "([I)Z"⟩
abbrev vwCl : List vw_C := [(RX0, TX0, 3), (RX1, TX1, 5), (RX2, TX2, 4), (RX3, TX3, 2), (RX4, TX4, 2), (RX5, TX5, 8), (RX6, TX6, 1), (RX7, TX7, 9), (RX8, TX8, 22)]
end
section
theorem dX0_init_0 : decode cX0_init 0 = .ok (.aload_n 0, 1) := by decide +kernel
theorem dX0_init_1 : decode cX0_init 1 = .ok (.invokespecial 3, 3) := by decide +kernel
theorem dX0_init_4 : decode cX0_init 4 = .ok (.aload_n 0, 1) := by decide +kernel
theorem dX0_init_5 : decode cX0_init 5 = .ok (.bipush 14, 2) := by decide +kernel
theorem dX0_init_7 : decode cX0_init 7 = .ok (.anewarray 9, 3) := by decide +kernel
theorem dX0_init_10 : decode cX0_init 10 = .ok (.putfield 11, 3) := by decide +kernel
theorem dX0_init_13 : decode cX0_init 13 = .ok (.aload_n 0, 1) := by decide +kernel
theorem dX0_init_14 : decode cX0_init 14 = .ok (.iconst 0, 1) := by decide +kernel
theorem dX0_init_15 : decode cX0_init 15 = .ok (.putfield 17, 3) := by decide +kernel
theorem dX0_init_18 : decode cX0_init 18 = .ok (.aload_n 0, 1) := by decide +kernel
theorem dX0_init_19 : decode cX0_init 19 = .ok (.iconst 0, 1) := by decide +kernel
theorem dX0_init_20 : decode cX0_init 20 = .ok (.putfield 21, 3) := by decide +kernel
theorem dX0_init_23 : decode cX0_init 23 = .ok (.iconst 0, 1) := by decide +kernel
theorem dX0_init_24 : decode cX0_init 24 = .ok (.istore_n 1, 1) := by decide +kernel
theorem dX0_init_25 : decode cX0_init 25 = .ok (.iload_n 1, 1) := by decide +kernel
theorem dX0_init_26 : decode cX0_init 26 = .ok (.bipush 14, 2) := by decide +kernel
theorem dX0_init_28 : decode cX0_init 28 = .ok (.if_icmp .ge 22, 3) := by decide +kernel
theorem dX0_init_31 : decode cX0_init 31 = .ok (.aload_n 0, 1) := by decide +kernel
theorem dX0_init_32 : decode cX0_init 32 = .ok (.getfield 11, 3) := by decide +kernel
theorem dX0_init_35 : decode cX0_init 35 = .ok (.iload_n 1, 1) := by decide +kernel
theorem dX0_init_36 : decode cX0_init 36 = .ok (.new 9, 3) := by decide +kernel
theorem dX0_init_39 : decode cX0_init 39 = .ok (.dup, 1) := by decide +kernel
theorem dX0_init_40 : decode cX0_init 40 = .ok (.invokespecial 24, 3) := by decide +kernel
theorem dX0_init_43 : decode cX0_init 43 = .ok (.aastore, 1) := by decide +kernel
theorem dX0_init_44 : decode cX0_init 44 = .ok (.iinc 1 1, 3) := by decide +kernel
theorem dX0_init_47 : decode cX0_init 47 = .ok (.goto (-22), 3) := by decide +kernel
theorem dX0_init_50 : decode cX0_init 50 = .ok (.return_, 1) := by decide +kernel
theorem dX0_keep_0 : decode cX0_keep 0 = .ok (.aload_n 0, 1) := by decide +kernel
theorem dX0_keep_1 : decode cX0_keep 1 = .ok (.getfield 11, 3) := by decide +kernel
theorem dX0_keep_4 : decode cX0_keep 4 = .ok (.aload_n 0, 1) := by decide +kernel
theorem dX0_keep_5 : decode cX0_keep 5 = .ok (.getfield 17, 3) := by decide +kernel
theorem dX0_keep_8 : decode cX0_keep 8 = .ok (.aload_n 0, 1) := by decide +kernel
theorem dX0_keep_9 : decode cX0_keep 9 = .ok (.getfield 21, 3) := by decide +kernel
theorem dX0_keep_12 : decode cX0_keep 12 = .ok (.iadd, 1) := by decide +kernel
theorem dX0_keep_13 : decode cX0_keep 13 = .ok (.bipush 14, 2) := by decide +kernel
theorem dX0_keep_15 : decode cX0_keep 15 = .ok (.irem, 1) := by decide +kernel
theorem dX0_keep_16 : decode cX0_keep 16 = .ok (.aaload, 1) := by decide +kernel
theorem dX0_keep_17 : decode cX0_keep 17 = .ok (.aload_n 1, 1) := by decide +kernel
theorem dX0_keep_18 : decode cX0_keep 18 = .ok (.invokevirtual 25, 3) := by decide +kernel
theorem dX0_keep_21 : decode cX0_keep 21 = .ok (.aload_n 0, 1) := by decide +kernel
theorem dX0_keep_22 : decode cX0_keep 22 = .ok (.getfield 21, 3) := by decide +kernel
theorem dX0_keep_25 : decode cX0_keep 25 = .ok (.bipush 14, 2) := by decide +kernel
theorem dX0_keep_27 : decode cX0_keep 27 = .ok (.if_icmp .ge 16, 3) := by decide +kernel
theorem dX0_keep_30 : decode cX0_keep 30 = .ok (.aload_n 0, 1) := by decide +kernel
theorem dX0_keep_31 : decode cX0_keep 31 = .ok (.dup, 1) := by decide +kernel
theorem dX0_keep_32 : decode cX0_keep 32 = .ok (.getfield 21, 3) := by decide +kernel
theorem dX0_keep_35 : decode cX0_keep 35 = .ok (.iconst 1, 1) := by decide +kernel
theorem dX0_keep_36 : decode cX0_keep 36 = .ok (.iadd, 1) := by decide +kernel
theorem dX0_keep_37 : decode cX0_keep 37 = .ok (.putfield 21, 3) := by decide +kernel
theorem dX0_keep_40 : decode cX0_keep 40 = .ok (.goto 16, 3) := by decide +kernel
theorem dX0_keep_43 : decode cX0_keep 43 = .ok (.aload_n 0, 1) := by decide +kernel
theorem dX0_keep_44 : decode cX0_keep 44 = .ok (.aload_n 0, 1) := by decide +kernel
theorem dX0_keep_45 : decode cX0_keep 45 = .ok (.getfield 17, 3) := by decide +kernel
theorem dX0_keep_48 : decode cX0_keep 48 = .ok (.iconst 1, 1) := by decide +kernel
theorem dX0_keep_49 : decode cX0_keep 49 = .ok (.iadd, 1) := by decide +kernel
theorem dX0_keep_50 : decode cX0_keep 50 = .ok (.bipush 14, 2) := by decide +kernel
theorem dX0_keep_52 : decode cX0_keep 52 = .ok (.irem, 1) := by decide +kernel
theorem dX0_keep_53 : decode cX0_keep 53 = .ok (.putfield 17, 3) := by decide +kernel
theorem dX0_keep_56 : decode cX0_keep 56 = .ok (.return_, 1) := by decide +kernel
theorem dX0_takeBack_0 : decode cX0_takeBack 0 = .ok (.aload_n 0, 1) := by decide +kernel
theorem dX0_takeBack_1 : decode cX0_takeBack 1 = .ok (.getfield 21, 3) := by decide +kernel
theorem dX0_takeBack_4 : decode cX0_takeBack 4 = .ok (.ifCond .le 34, 3) := by decide +kernel
theorem dX0_takeBack_7 : decode cX0_takeBack 7 = .ok (.aload_n 0, 1) := by decide +kernel
theorem dX0_takeBack_8 : decode cX0_takeBack 8 = .ok (.dup, 1) := by decide +kernel
theorem dX0_takeBack_9 : decode cX0_takeBack 9 = .ok (.getfield 21, 3) := by decide +kernel
theorem dX0_takeBack_12 : decode cX0_takeBack 12 = .ok (.iconst 1, 1) := by decide +kernel
theorem dX0_takeBack_13 : decode cX0_takeBack 13 = .ok (.isub, 1) := by decide +kernel
theorem dX0_takeBack_14 : decode cX0_takeBack 14 = .ok (.putfield 21, 3) := by decide +kernel
theorem dX0_takeBack_17 : decode cX0_takeBack 17 = .ok (.aload_n 1, 1) := by decide +kernel
theorem dX0_takeBack_18 : decode cX0_takeBack 18 = .ok (.aload_n 0, 1) := by decide +kernel
theorem dX0_takeBack_19 : decode cX0_takeBack 19 = .ok (.getfield 11, 3) := by decide +kernel
theorem dX0_takeBack_22 : decode cX0_takeBack 22 = .ok (.aload_n 0, 1) := by decide +kernel
theorem dX0_takeBack_23 : decode cX0_takeBack 23 = .ok (.getfield 17, 3) := by decide +kernel
theorem dX0_takeBack_26 : decode cX0_takeBack 26 = .ok (.aload_n 0, 1) := by decide +kernel
theorem dX0_takeBack_27 : decode cX0_takeBack 27 = .ok (.getfield 21, 3) := by decide +kernel
theorem dX0_takeBack_30 : decode cX0_takeBack 30 = .ok (.iadd, 1) := by decide +kernel
theorem dX0_takeBack_31 : decode cX0_takeBack 31 = .ok (.bipush 14, 2) := by decide +kernel
theorem dX0_takeBack_33 : decode cX0_takeBack 33 = .ok (.irem, 1) := by decide +kernel
theorem dX0_takeBack_34 : decode cX0_takeBack 34 = .ok (.aaload, 1) := by decide +kernel
theorem dX0_takeBack_35 : decode cX0_takeBack 35 = .ok (.invokevirtual 25, 3) := by decide +kernel
theorem dX0_takeBack_38 : decode cX0_takeBack 38 = .ok (.return_, 1) := by decide +kernel
theorem dX0_forgetAll_0 : decode cX0_forgetAll 0 = .ok (.aload_n 0, 1) := by decide +kernel
theorem dX0_forgetAll_1 : decode cX0_forgetAll 1 = .ok (.iconst 0, 1) := by decide +kernel
theorem dX0_forgetAll_2 : decode cX0_forgetAll 2 = .ok (.putfield 21, 3) := by decide +kernel
theorem dX0_forgetAll_5 : decode cX0_forgetAll 5 = .ok (.return_, 1) := by decide +kernel
theorem dX1_init_0 : decode cX1_init 0 = .ok (.aload_n 0, 1) := by decide +kernel
theorem dX1_init_1 : decode cX1_init 1 = .ok (.invokespecial 3, 3) := by decide +kernel
theorem dX1_init_4 : decode cX1_init 4 = .ok (.aload_n 0, 1) := by decide +kernel
theorem dX1_init_5 : decode cX1_init 5 = .ok (.iconst 0, 1) := by decide +kernel
theorem dX1_init_6 : decode cX1_init 6 = .ok (.putfield 9, 3) := by decide +kernel
theorem dX1_init_9 : decode cX1_init 9 = .ok (.aload_n 0, 1) := by decide +kernel
theorem dX1_init_10 : decode cX1_init 10 = .ok (.sipush 140, 3) := by decide +kernel
theorem dX1_init_13 : decode cX1_init 13 = .ok (.newarray .int, 2) := by decide +kernel
theorem dX1_init_15 : decode cX1_init 15 = .ok (.putfield 15, 3) := by decide +kernel
theorem dX1_init_18 : decode cX1_init 18 = .ok (.aload_n 0, 1) := by decide +kernel
theorem dX1_init_19 : decode cX1_init 19 = .ok (.sipush 140, 3) := by decide +kernel
theorem dX1_init_22 : decode cX1_init 22 = .ok (.newarray .int, 2) := by decide +kernel
theorem dX1_init_24 : decode cX1_init 24 = .ok (.putfield 19, 3) := by decide +kernel
theorem dX1_init_27 : decode cX1_init 27 = .ok (.aload_n 0, 1) := by decide +kernel
theorem dX1_init_28 : decode cX1_init 28 = .ok (.sipush 140, 3) := by decide +kernel
theorem dX1_init_31 : decode cX1_init 31 = .ok (.newarray .int, 2) := by decide +kernel
theorem dX1_init_33 : decode cX1_init 33 = .ok (.putfield 22, 3) := by decide +kernel
theorem dX1_init_36 : decode cX1_init 36 = .ok (.aload_n 0, 1) := by decide +kernel
theorem dX1_init_37 : decode cX1_init 37 = .ok (.iconst 0, 1) := by decide +kernel
theorem dX1_init_38 : decode cX1_init 38 = .ok (.putfield 25, 3) := by decide +kernel
theorem dX1_init_41 : decode cX1_init 41 = .ok (.return_, 1) := by decide +kernel
theorem dX1_errorIn_0 : decode cX1_errorIn 0 = .ok (.aload_n 0, 1) := by decide +kernel
theorem dX1_errorIn_1 : decode cX1_errorIn 1 = .ok (.iconst 0, 1) := by decide +kernel
theorem dX1_errorIn_2 : decode cX1_errorIn 2 = .ok (.putfield 25, 3) := by decide +kernel
theorem dX1_errorIn_5 : decode cX1_errorIn 5 = .ok (.aload_n 0, 1) := by decide +kernel
theorem dX1_errorIn_6 : decode cX1_errorIn 6 = .ok (.iconst 0, 1) := by decide +kernel
theorem dX1_errorIn_7 : decode cX1_errorIn 7 = .ok (.putfield 9, 3) := by decide +kernel
theorem dX1_errorIn_10 : decode cX1_errorIn 10 = .ok (.aload_n 1, 1) := by decide +kernel
theorem dX1_errorIn_11 : decode cX1_errorIn 11 = .ok (.getfield 28, 3) := by decide +kernel
theorem dX1_errorIn_14 : decode cX1_errorIn 14 = .ok (.ifCond .ne 7, 3) := by decide +kernel
theorem dX1_errorIn_17 : decode cX1_errorIn 17 = .ok (.sipush (-999), 3) := by decide +kernel
theorem dX1_errorIn_20 : decode cX1_errorIn 20 = .ok (.ireturn, 1) := by decide +kernel
theorem dX1_errorIn_21 : decode cX1_errorIn 21 = .ok (.iconst 0, 1) := by decide +kernel
theorem dX1_errorIn_22 : decode cX1_errorIn 22 = .ok (.istore_n 2, 1) := by decide +kernel
theorem dX1_errorIn_23 : decode cX1_errorIn 23 = .ok (.iload_n 2, 1) := by decide +kernel
theorem dX1_errorIn_24 : decode cX1_errorIn 24 = .ok (.sipush 140, 3) := by decide +kernel
theorem dX1_errorIn_27 : decode cX1_errorIn 27 = .ok (.if_icmp .ge 51, 3) := by decide +kernel
theorem dX1_errorIn_30 : decode cX1_errorIn 30 = .ok (.aload_n 0, 1) := by decide +kernel
theorem dX1_errorIn_31 : decode cX1_errorIn 31 = .ok (.aload_n 1, 1) := by decide +kernel
theorem dX1_errorIn_32 : decode cX1_errorIn 32 = .ok (.iload_n 2, 1) := by decide +kernel
theorem dX1_errorIn_33 : decode cX1_errorIn 33 = .ok (.invokevirtual 33, 3) := by decide +kernel
theorem dX1_errorIn_36 : decode cX1_errorIn 36 = .ok (.ifCond .ne 8, 3) := by decide +kernel
theorem dX1_errorIn_39 : decode cX1_errorIn 39 = .ok (.aload_n 0, 1) := by decide +kernel
theorem dX1_errorIn_40 : decode cX1_errorIn 40 = .ok (.getfield 25, 3) := by decide +kernel
theorem dX1_errorIn_43 : decode cX1_errorIn 43 = .ok (.ireturn, 1) := by decide +kernel
theorem dX1_errorIn_44 : decode cX1_errorIn 44 = .ok (.aload_n 0, 1) := by decide +kernel
theorem dX1_errorIn_45 : decode cX1_errorIn 45 = .ok (.getfield 25, 3) := by decide +kernel
theorem dX1_errorIn_48 : decode cX1_errorIn 48 = .ok (.aload_n 1, 1) := by decide +kernel
theorem dX1_errorIn_49 : decode cX1_errorIn 49 = .ok (.getfield 28, 3) := by decide +kernel
theorem dX1_errorIn_52 : decode cX1_errorIn 52 = .ok (.if_icmp .lt 7, 3) := by decide +kernel
theorem dX1_errorIn_55 : decode cX1_errorIn 55 = .ok (.sipush (-999), 3) := by decide +kernel
theorem dX1_errorIn_58 : decode cX1_errorIn 58 = .ok (.ireturn, 1) := by decide +kernel
theorem dX1_errorIn_59 : decode cX1_errorIn 59 = .ok (.aload_n 0, 1) := by decide +kernel
theorem dX1_errorIn_60 : decode cX1_errorIn 60 = .ok (.aload_n 1, 1) := by decide +kernel
theorem dX1_errorIn_61 : decode cX1_errorIn 61 = .ok (.invokevirtual 37, 3) := by decide +kernel
theorem dX1_errorIn_64 : decode cX1_errorIn 64 = .ok (.ifCond .ne 8, 3) := by decide +kernel
theorem dX1_errorIn_67 : decode cX1_errorIn 67 = .ok (.aload_n 0, 1) := by decide +kernel
theorem dX1_errorIn_68 : decode cX1_errorIn 68 = .ok (.getfield 25, 3) := by decide +kernel
theorem dX1_errorIn_71 : decode cX1_errorIn 71 = .ok (.ireturn, 1) := by decide +kernel
theorem dX1_errorIn_72 : decode cX1_errorIn 72 = .ok (.iinc 2 1, 3) := by decide +kernel
theorem dX1_errorIn_75 : decode cX1_errorIn 75 = .ok (.goto (-52), 3) := by decide +kernel
theorem dX1_errorIn_78 : decode cX1_errorIn 78 = .ok (.aload_n 0, 1) := by decide +kernel
theorem dX1_errorIn_79 : decode cX1_errorIn 79 = .ok (.getfield 25, 3) := by decide +kernel
theorem dX1_errorIn_82 : decode cX1_errorIn 82 = .ok (.ireturn, 1) := by decide +kernel
theorem dX1_readCommand_0 : decode cX1_readCommand 0 = .ok (.aload_n 1, 1) := by decide +kernel
theorem dX1_readCommand_1 : decode cX1_readCommand 1 = .ok (.aload_n 0, 1) := by decide +kernel
theorem dX1_readCommand_2 : decode cX1_readCommand 2 = .ok (.getfield 25, 3) := by decide +kernel
theorem dX1_readCommand_5 : decode cX1_readCommand 5 = .ok (.invokevirtual 41, 3) := by decide +kernel
theorem dX1_readCommand_8 : decode cX1_readCommand 8 = .ok (.istore_n 3, 1) := by decide +kernel
theorem dX1_readCommand_9 : decode cX1_readCommand 9 = .ok (.aload_n 0, 1) := by decide +kernel
theorem dX1_readCommand_10 : decode cX1_readCommand 10 = .ok (.aload_n 1, 1) := by decide +kernel
theorem dX1_readCommand_11 : decode cX1_readCommand 11 = .ok (.iload_n 3, 1) := by decide +kernel
theorem dX1_readCommand_12 : decode cX1_readCommand 12 = .ok (.invokestatic 45, 3) := by decide +kernel
theorem dX1_readCommand_15 : decode cX1_readCommand 15 = .ok (.invokevirtual 49, 3) := by decide +kernel
theorem dX1_readCommand_18 : decode cX1_readCommand 18 = .ok (.ifCond .ne 5, 3) := by decide +kernel
theorem dX1_readCommand_21 : decode cX1_readCommand 21 = .ok (.iconst 0, 1) := by decide +kernel
theorem dX1_readCommand_22 : decode cX1_readCommand 22 = .ok (.ireturn, 1) := by decide +kernel
theorem dX1_readCommand_23 : decode cX1_readCommand 23 = .ok (.aload_n 0, 1) := by decide +kernel
theorem dX1_readCommand_24 : decode cX1_readCommand 24 = .ok (.getfield 15, 3) := by decide +kernel
theorem dX1_readCommand_27 : decode cX1_readCommand 27 = .ok (.iload_n 2, 1) := by decide +kernel
theorem dX1_readCommand_28 : decode cX1_readCommand 28 = .ok (.iload_n 3, 1) := by decide +kernel
theorem dX1_readCommand_29 : decode cX1_readCommand 29 = .ok (.iastore, 1) := by decide +kernel
theorem dX1_readCommand_30 : decode cX1_readCommand 30 = .ok (.iload_n 3, 1) := by decide +kernel
theorem dX1_readCommand_31 : decode cX1_readCommand 31 = .ok (.invokestatic 53, 3) := by decide +kernel
theorem dX1_readCommand_34 : decode cX1_readCommand 34 = .ok (.istore 4, 2) := by decide +kernel
theorem dX1_readCommand_36 : decode cX1_readCommand 36 = .ok (.iload 4, 2) := by decide +kernel
theorem dX1_readCommand_38 : decode cX1_readCommand 38 = .ok (.ifCond .le 38, 3) := by decide +kernel
theorem dX1_readCommand_41 : decode cX1_readCommand 41 = .ok (.aload_n 0, 1) := by decide +kernel
theorem dX1_readCommand_42 : decode cX1_readCommand 42 = .ok (.aload_n 1, 1) := by decide +kernel
theorem dX1_readCommand_43 : decode cX1_readCommand 43 = .ok (.invokevirtual 37, 3) := by decide +kernel
theorem dX1_readCommand_46 : decode cX1_readCommand 46 = .ok (.ifCond .eq 17, 3) := by decide +kernel
theorem dX1_readCommand_49 : decode cX1_readCommand 49 = .ok (.aload_n 1, 1) := by decide +kernel
theorem dX1_readCommand_50 : decode cX1_readCommand 50 = .ok (.aload_n 0, 1) := by decide +kernel
theorem dX1_readCommand_51 : decode cX1_readCommand 51 = .ok (.getfield 25, 3) := by decide +kernel
theorem dX1_readCommand_54 : decode cX1_readCommand 54 = .ok (.invokevirtual 56, 3) := by decide +kernel
theorem dX1_readCommand_57 : decode cX1_readCommand 57 = .ok (.sipush (-999), 3) := by decide +kernel
theorem dX1_readCommand_60 : decode cX1_readCommand 60 = .ok (.if_icmp .ne 5, 3) := by decide +kernel
theorem dX1_readCommand_63 : decode cX1_readCommand 63 = .ok (.iconst 0, 1) := by decide +kernel
theorem dX1_readCommand_64 : decode cX1_readCommand 64 = .ok (.ireturn, 1) := by decide +kernel
theorem dX1_readCommand_65 : decode cX1_readCommand 65 = .ok (.aload_n 0, 1) := by decide +kernel
theorem dX1_readCommand_66 : decode cX1_readCommand 66 = .ok (.getfield 19, 3) := by decide +kernel
theorem dX1_readCommand_69 : decode cX1_readCommand 69 = .ok (.iload_n 2, 1) := by decide +kernel
theorem dX1_readCommand_70 : decode cX1_readCommand 70 = .ok (.aload_n 0, 1) := by decide +kernel
theorem dX1_readCommand_71 : decode cX1_readCommand 71 = .ok (.aload_n 1, 1) := by decide +kernel
theorem dX1_readCommand_72 : decode cX1_readCommand 72 = .ok (.invokevirtual 59, 3) := by decide +kernel
theorem dX1_readCommand_75 : decode cX1_readCommand 75 = .ok (.iastore, 1) := by decide +kernel
theorem dX1_readCommand_76 : decode cX1_readCommand 76 = .ok (.iload 4, 2) := by decide +kernel
theorem dX1_readCommand_78 : decode cX1_readCommand 78 = .ok (.iconst 1, 1) := by decide +kernel
theorem dX1_readCommand_79 : decode cX1_readCommand 79 = .ok (.if_icmp .le 38, 3) := by decide +kernel
theorem dX1_readCommand_82 : decode cX1_readCommand 82 = .ok (.aload_n 0, 1) := by decide +kernel
theorem dX1_readCommand_83 : decode cX1_readCommand 83 = .ok (.aload_n 1, 1) := by decide +kernel
theorem dX1_readCommand_84 : decode cX1_readCommand 84 = .ok (.invokevirtual 37, 3) := by decide +kernel
theorem dX1_readCommand_87 : decode cX1_readCommand 87 = .ok (.ifCond .eq 17, 3) := by decide +kernel
theorem dX1_readCommand_90 : decode cX1_readCommand 90 = .ok (.aload_n 1, 1) := by decide +kernel
theorem dX1_readCommand_91 : decode cX1_readCommand 91 = .ok (.aload_n 0, 1) := by decide +kernel
theorem dX1_readCommand_92 : decode cX1_readCommand 92 = .ok (.getfield 25, 3) := by decide +kernel
theorem dX1_readCommand_95 : decode cX1_readCommand 95 = .ok (.invokevirtual 56, 3) := by decide +kernel
theorem dX1_readCommand_98 : decode cX1_readCommand 98 = .ok (.sipush (-999), 3) := by decide +kernel
theorem dX1_readCommand_101 : decode cX1_readCommand 101 = .ok (.if_icmp .ne 5, 3) := by decide +kernel
theorem dX1_readCommand_104 : decode cX1_readCommand 104 = .ok (.iconst 0, 1) := by decide +kernel
theorem dX1_readCommand_105 : decode cX1_readCommand 105 = .ok (.ireturn, 1) := by decide +kernel
theorem dX1_readCommand_106 : decode cX1_readCommand 106 = .ok (.aload_n 0, 1) := by decide +kernel
theorem dX1_readCommand_107 : decode cX1_readCommand 107 = .ok (.getfield 22, 3) := by decide +kernel
theorem dX1_readCommand_110 : decode cX1_readCommand 110 = .ok (.iload_n 2, 1) := by decide +kernel
theorem dX1_readCommand_111 : decode cX1_readCommand 111 = .ok (.aload_n 0, 1) := by decide +kernel
theorem dX1_readCommand_112 : decode cX1_readCommand 112 = .ok (.aload_n 1, 1) := by decide +kernel
theorem dX1_readCommand_113 : decode cX1_readCommand 113 = .ok (.invokevirtual 59, 3) := by decide +kernel
theorem dX1_readCommand_116 : decode cX1_readCommand 116 = .ok (.iastore, 1) := by decide +kernel
theorem dX1_readCommand_117 : decode cX1_readCommand 117 = .ok (.aload_n 0, 1) := by decide +kernel
theorem dX1_readCommand_118 : decode cX1_readCommand 118 = .ok (.iload_n 2, 1) := by decide +kernel
theorem dX1_readCommand_119 : decode cX1_readCommand 119 = .ok (.iconst 1, 1) := by decide +kernel
theorem dX1_readCommand_120 : decode cX1_readCommand 120 = .ok (.iadd, 1) := by decide +kernel
theorem dX1_readCommand_121 : decode cX1_readCommand 121 = .ok (.putfield 9, 3) := by decide +kernel
theorem dX1_readCommand_124 : decode cX1_readCommand 124 = .ok (.iconst 1, 1) := by decide +kernel
theorem dX1_readCommand_125 : decode cX1_readCommand 125 = .ok (.ireturn, 1) := by decide +kernel
theorem dX1_readLetters_0 : decode cX1_readLetters 0 = .ok (.iconst 0, 1) := by decide +kernel
theorem dX1_readLetters_1 : decode cX1_readLetters 1 = .ok (.istore_n 3, 1) := by decide +kernel
theorem dX1_readLetters_2 : decode cX1_readLetters 2 = .ok (.iload_n 3, 1) := by decide +kernel
theorem dX1_readLetters_3 : decode cX1_readLetters 3 = .ok (.aload_n 2, 1) := by decide +kernel
theorem dX1_readLetters_4 : decode cX1_readLetters 4 = .ok (.invokevirtual 63, 3) := by decide +kernel
theorem dX1_readLetters_7 : decode cX1_readLetters 7 = .ok (.if_icmp .ge 37, 3) := by decide +kernel
theorem dX1_readLetters_10 : decode cX1_readLetters 10 = .ok (.aload_n 1, 1) := by decide +kernel
theorem dX1_readLetters_11 : decode cX1_readLetters 11 = .ok (.aload_n 0, 1) := by decide +kernel
theorem dX1_readLetters_12 : decode cX1_readLetters 12 = .ok (.getfield 25, 3) := by decide +kernel
theorem dX1_readLetters_15 : decode cX1_readLetters 15 = .ok (.invokevirtual 41, 3) := by decide +kernel
theorem dX1_readLetters_18 : decode cX1_readLetters 18 = .ok (.aload_n 2, 1) := by decide +kernel
theorem dX1_readLetters_19 : decode cX1_readLetters 19 = .ok (.iload_n 3, 1) := by decide +kernel
theorem dX1_readLetters_20 : decode cX1_readLetters 20 = .ok (.invokevirtual 68, 3) := by decide +kernel
theorem dX1_readLetters_23 : decode cX1_readLetters 23 = .ok (.if_icmp .eq 5, 3) := by decide +kernel
theorem dX1_readLetters_26 : decode cX1_readLetters 26 = .ok (.iconst 0, 1) := by decide +kernel
theorem dX1_readLetters_27 : decode cX1_readLetters 27 = .ok (.ireturn, 1) := by decide +kernel
theorem dX1_readLetters_28 : decode cX1_readLetters 28 = .ok (.aload_n 0, 1) := by decide +kernel
theorem dX1_readLetters_29 : decode cX1_readLetters 29 = .ok (.dup, 1) := by decide +kernel
theorem dX1_readLetters_30 : decode cX1_readLetters 30 = .ok (.getfield 25, 3) := by decide +kernel
theorem dX1_readLetters_33 : decode cX1_readLetters 33 = .ok (.iconst 1, 1) := by decide +kernel
theorem dX1_readLetters_34 : decode cX1_readLetters 34 = .ok (.iadd, 1) := by decide +kernel
theorem dX1_readLetters_35 : decode cX1_readLetters 35 = .ok (.putfield 25, 3) := by decide +kernel
theorem dX1_readLetters_38 : decode cX1_readLetters 38 = .ok (.iinc 3 1, 3) := by decide +kernel
theorem dX1_readLetters_41 : decode cX1_readLetters 41 = .ok (.goto (-39), 3) := by decide +kernel
theorem dX1_readLetters_44 : decode cX1_readLetters 44 = .ok (.aload_n 2, 1) := by decide +kernel
theorem dX1_readLetters_45 : decode cX1_readLetters 45 = .ok (.invokevirtual 72, 3) := by decide +kernel
theorem dX1_readLetters_48 : decode cX1_readLetters 48 = .ok (.ifCond .ne 7, 3) := by decide +kernel
theorem dX1_readLetters_51 : decode cX1_readLetters 51 = .ok (.iconst 1, 1) := by decide +kernel
theorem dX1_readLetters_52 : decode cX1_readLetters 52 = .ok (.goto 4, 3) := by decide +kernel
theorem dX1_readLetters_55 : decode cX1_readLetters 55 = .ok (.iconst 0, 1) := by decide +kernel
theorem dX1_readLetters_56 : decode cX1_readLetters 56 = .ok (.ireturn, 1) := by decide +kernel
theorem dX1_readBlank_0 : decode cX1_readBlank 0 = .ok (.aload_n 1, 1) := by decide +kernel
theorem dX1_readBlank_1 : decode cX1_readBlank 1 = .ok (.aload_n 0, 1) := by decide +kernel
theorem dX1_readBlank_2 : decode cX1_readBlank 2 = .ok (.getfield 25, 3) := by decide +kernel
theorem dX1_readBlank_5 : decode cX1_readBlank 5 = .ok (.invokevirtual 41, 3) := by decide +kernel
theorem dX1_readBlank_8 : decode cX1_readBlank 8 = .ok (.bipush 32, 2) := by decide +kernel
theorem dX1_readBlank_10 : decode cX1_readBlank 10 = .ok (.if_icmp .eq 5, 3) := by decide +kernel
theorem dX1_readBlank_13 : decode cX1_readBlank 13 = .ok (.iconst 0, 1) := by decide +kernel
theorem dX1_readBlank_14 : decode cX1_readBlank 14 = .ok (.ireturn, 1) := by decide +kernel
theorem dX1_readBlank_15 : decode cX1_readBlank 15 = .ok (.aload_n 0, 1) := by decide +kernel
theorem dX1_readBlank_16 : decode cX1_readBlank 16 = .ok (.dup, 1) := by decide +kernel
theorem dX1_readBlank_17 : decode cX1_readBlank 17 = .ok (.getfield 25, 3) := by decide +kernel
theorem dX1_readBlank_20 : decode cX1_readBlank 20 = .ok (.iconst 1, 1) := by decide +kernel
theorem dX1_readBlank_21 : decode cX1_readBlank 21 = .ok (.iadd, 1) := by decide +kernel
theorem dX1_readBlank_22 : decode cX1_readBlank 22 = .ok (.putfield 25, 3) := by decide +kernel
theorem dX1_readBlank_25 : decode cX1_readBlank 25 = .ok (.iconst 1, 1) := by decide +kernel
theorem dX1_readBlank_26 : decode cX1_readBlank 26 = .ok (.ireturn, 1) := by decide +kernel
theorem dX1_readNumber_0 : decode cX1_readNumber 0 = .ok (.iconst 0, 1) := by decide +kernel
theorem dX1_readNumber_1 : decode cX1_readNumber 1 = .ok (.istore_n 2, 1) := by decide +kernel
theorem dX1_readNumber_2 : decode cX1_readNumber 2 = .ok (.iconst 0, 1) := by decide +kernel
theorem dX1_readNumber_3 : decode cX1_readNumber 3 = .ok (.istore_n 3, 1) := by decide +kernel
theorem dX1_readNumber_4 : decode cX1_readNumber 4 = .ok (.iload_n 3, 1) := by decide +kernel
theorem dX1_readNumber_5 : decode cX1_readNumber 5 = .ok (.iconst 2, 1) := by decide +kernel
theorem dX1_readNumber_6 : decode cX1_readNumber 6 = .ok (.if_icmp .ge 47, 3) := by decide +kernel
theorem dX1_readNumber_9 : decode cX1_readNumber 9 = .ok (.aload_n 1, 1) := by decide +kernel
theorem dX1_readNumber_10 : decode cX1_readNumber 10 = .ok (.aload_n 0, 1) := by decide +kernel
theorem dX1_readNumber_11 : decode cX1_readNumber 11 = .ok (.getfield 25, 3) := by decide +kernel
theorem dX1_readNumber_14 : decode cX1_readNumber 14 = .ok (.invokevirtual 56, 3) := by decide +kernel
theorem dX1_readNumber_17 : decode cX1_readNumber 17 = .ok (.sipush (-999), 3) := by decide +kernel
theorem dX1_readNumber_20 : decode cX1_readNumber 20 = .ok (.if_icmp .eq 33, 3) := by decide +kernel
theorem dX1_readNumber_23 : decode cX1_readNumber 23 = .ok (.bipush 10, 2) := by decide +kernel
theorem dX1_readNumber_25 : decode cX1_readNumber 25 = .ok (.iload_n 2, 1) := by decide +kernel
theorem dX1_readNumber_26 : decode cX1_readNumber 26 = .ok (.imul, 1) := by decide +kernel
theorem dX1_readNumber_27 : decode cX1_readNumber 27 = .ok (.aload_n 1, 1) := by decide +kernel
theorem dX1_readNumber_28 : decode cX1_readNumber 28 = .ok (.aload_n 0, 1) := by decide +kernel
theorem dX1_readNumber_29 : decode cX1_readNumber 29 = .ok (.getfield 25, 3) := by decide +kernel
theorem dX1_readNumber_32 : decode cX1_readNumber 32 = .ok (.invokevirtual 56, 3) := by decide +kernel
theorem dX1_readNumber_35 : decode cX1_readNumber 35 = .ok (.iadd, 1) := by decide +kernel
theorem dX1_readNumber_36 : decode cX1_readNumber 36 = .ok (.istore_n 2, 1) := by decide +kernel
theorem dX1_readNumber_37 : decode cX1_readNumber 37 = .ok (.aload_n 0, 1) := by decide +kernel
theorem dX1_readNumber_38 : decode cX1_readNumber 38 = .ok (.dup, 1) := by decide +kernel
theorem dX1_readNumber_39 : decode cX1_readNumber 39 = .ok (.getfield 25, 3) := by decide +kernel
theorem dX1_readNumber_42 : decode cX1_readNumber 42 = .ok (.iconst 1, 1) := by decide +kernel
theorem dX1_readNumber_43 : decode cX1_readNumber 43 = .ok (.iadd, 1) := by decide +kernel
theorem dX1_readNumber_44 : decode cX1_readNumber 44 = .ok (.putfield 25, 3) := by decide +kernel
theorem dX1_readNumber_47 : decode cX1_readNumber 47 = .ok (.iinc 3 1, 3) := by decide +kernel
theorem dX1_readNumber_50 : decode cX1_readNumber 50 = .ok (.goto (-46), 3) := by decide +kernel
theorem dX1_readNumber_53 : decode cX1_readNumber 53 = .ok (.iload_n 2, 1) := by decide +kernel
theorem dX1_readNumber_54 : decode cX1_readNumber 54 = .ok (.ireturn, 1) := by decide +kernel
theorem dX1_wordBeginningWith_0 : decode cX1_wordBeginningWith 0 = .ok (.iload_n 0, 1) := by decide +kernel
theorem dX1_wordBeginningWith_1 : decode cX1_wordBeginningWith 1 = .ok (.lookupswitch 66 #[(99, 54), (101, 60), (108, 57), (111, 51), (116, 63)], 51) := by decide +kernel
theorem dX1_wordBeginningWith_52 : decode cX1_wordBeginningWith 52 = .ok (.ldc 76, 2) := by decide +kernel
theorem dX1_wordBeginningWith_54 : decode cX1_wordBeginningWith 54 = .ok (.areturn, 1) := by decide +kernel
theorem dX1_wordBeginningWith_55 : decode cX1_wordBeginningWith 55 = .ok (.ldc 78, 2) := by decide +kernel
theorem dX1_wordBeginningWith_57 : decode cX1_wordBeginningWith 57 = .ok (.areturn, 1) := by decide +kernel
theorem dX1_wordBeginningWith_58 : decode cX1_wordBeginningWith 58 = .ok (.ldc 80, 2) := by decide +kernel
theorem dX1_wordBeginningWith_60 : decode cX1_wordBeginningWith 60 = .ok (.areturn, 1) := by decide +kernel
theorem dX1_wordBeginningWith_61 : decode cX1_wordBeginningWith 61 = .ok (.ldc 82, 2) := by decide +kernel
theorem dX1_wordBeginningWith_63 : decode cX1_wordBeginningWith 63 = .ok (.areturn, 1) := by decide +kernel
theorem dX1_wordBeginningWith_64 : decode cX1_wordBeginningWith 64 = .ok (.ldc 84, 2) := by decide +kernel
theorem dX1_wordBeginningWith_66 : decode cX1_wordBeginningWith 66 = .ok (.areturn, 1) := by decide +kernel
theorem dX1_wordBeginningWith_67 : decode cX1_wordBeginningWith 67 = .ok (.ldc 86, 2) := by decide +kernel
theorem dX1_wordBeginningWith_69 : decode cX1_wordBeginningWith 69 = .ok (.areturn, 1) := by decide +kernel
theorem dX1_numbersBehind_0 : decode cX1_numbersBehind 0 = .ok (.iload_n 0, 1) := by decide +kernel
theorem dX1_numbersBehind_1 : decode cX1_numbersBehind 1 = .ok (.lookupswitch 47 #[(99, 43), (101, 45), (108, 45), (111, 43)], 43) := by decide +kernel
theorem dX1_numbersBehind_44 : decode cX1_numbersBehind 44 = .ok (.iconst 1, 1) := by decide +kernel
theorem dX1_numbersBehind_45 : decode cX1_numbersBehind 45 = .ok (.ireturn, 1) := by decide +kernel
theorem dX1_numbersBehind_46 : decode cX1_numbersBehind 46 = .ok (.iconst 2, 1) := by decide +kernel
theorem dX1_numbersBehind_47 : decode cX1_numbersBehind 47 = .ok (.ireturn, 1) := by decide +kernel
theorem dX1_numbersBehind_48 : decode cX1_numbersBehind 48 = .ok (.iconst 0, 1) := by decide +kernel
theorem dX1_numbersBehind_49 : decode cX1_numbersBehind 49 = .ok (.ireturn, 1) := by decide +kernel
theorem dX2_init_0 : decode cX2_init 0 = .ok (.aload_n 0, 1) := by decide +kernel
theorem dX2_init_1 : decode cX2_init 1 = .ok (.invokespecial 3, 3) := by decide +kernel
theorem dX2_init_4 : decode cX2_init 4 = .ok (.aload_n 0, 1) := by decide +kernel
theorem dX2_init_5 : decode cX2_init 5 = .ok (.bipush 9, 2) := by decide +kernel
theorem dX2_init_7 : decode cX2_init 7 = .ok (.newarray .int, 2) := by decide +kernel
theorem dX2_init_9 : decode cX2_init 9 = .ok (.putfield 9, 3) := by decide +kernel
theorem dX2_init_12 : decode cX2_init 12 = .ok (.aload_n 0, 1) := by decide +kernel
theorem dX2_init_13 : decode cX2_init 13 = .ok (.bipush 9, 2) := by decide +kernel
theorem dX2_init_15 : decode cX2_init 15 = .ok (.newarray .int, 2) := by decide +kernel
theorem dX2_init_17 : decode cX2_init 17 = .ok (.putfield 15, 3) := by decide +kernel
theorem dX2_init_20 : decode cX2_init 20 = .ok (.aload_n 0, 1) := by decide +kernel
theorem dX2_init_21 : decode cX2_init 21 = .ok (.bipush 9, 2) := by decide +kernel
theorem dX2_init_23 : decode cX2_init 23 = .ok (.newarray .int, 2) := by decide +kernel
theorem dX2_init_25 : decode cX2_init 25 = .ok (.putfield 18, 3) := by decide +kernel
theorem dX2_init_28 : decode cX2_init 28 = .ok (.aload_n 0, 1) := by decide +kernel
theorem dX2_init_29 : decode cX2_init 29 = .ok (.iconst 0, 1) := by decide +kernel
theorem dX2_init_30 : decode cX2_init 30 = .ok (.putfield 21, 3) := by decide +kernel
theorem dX2_init_33 : decode cX2_init 33 = .ok (.return_, 1) := by decide +kernel
theorem dX2_weigh_0 : decode cX2_weigh 0 = .ok (.iconst 0, 1) := by decide +kernel
theorem dX2_weigh_1 : decode cX2_weigh 1 = .ok (.istore_n 3, 1) := by decide +kernel
theorem dX2_weigh_2 : decode cX2_weigh 2 = .ok (.iload_n 3, 1) := by decide +kernel
theorem dX2_weigh_3 : decode cX2_weigh 3 = .ok (.bipush 9, 2) := by decide +kernel
theorem dX2_weigh_5 : decode cX2_weigh 5 = .ok (.if_icmp .ge 26, 3) := by decide +kernel
theorem dX2_weigh_8 : decode cX2_weigh 8 = .ok (.aload_n 0, 1) := by decide +kernel
theorem dX2_weigh_9 : decode cX2_weigh 9 = .ok (.getfield 9, 3) := by decide +kernel
theorem dX2_weigh_12 : decode cX2_weigh 12 = .ok (.iload_n 3, 1) := by decide +kernel
theorem dX2_weigh_13 : decode cX2_weigh 13 = .ok (.iload_n 3, 1) := by decide +kernel
theorem dX2_weigh_14 : decode cX2_weigh 14 = .ok (.iload_n 2, 1) := by decide +kernel
theorem dX2_weigh_15 : decode cX2_weigh 15 = .ok (.if_icmp .ne 7, 3) := by decide +kernel
theorem dX2_weigh_18 : decode cX2_weigh 18 = .ok (.iconst 0, 1) := by decide +kernel
theorem dX2_weigh_19 : decode cX2_weigh 19 = .ok (.goto 5, 3) := by decide +kernel
theorem dX2_weigh_22 : decode cX2_weigh 22 = .ok (.ldc 25, 2) := by decide +kernel
theorem dX2_weigh_24 : decode cX2_weigh 24 = .ok (.iastore, 1) := by decide +kernel
theorem dX2_weigh_25 : decode cX2_weigh 25 = .ok (.iinc 3 1, 3) := by decide +kernel
theorem dX2_weigh_28 : decode cX2_weigh 28 = .ok (.goto (-26), 3) := by decide +kernel
theorem dX2_weigh_31 : decode cX2_weigh 31 = .ok (.iconst 1, 1) := by decide +kernel
theorem dX2_weigh_32 : decode cX2_weigh 32 = .ok (.istore_n 3, 1) := by decide +kernel
theorem dX2_weigh_33 : decode cX2_weigh 33 = .ok (.iconst 0, 1) := by decide +kernel
theorem dX2_weigh_34 : decode cX2_weigh 34 = .ok (.istore 4, 2) := by decide +kernel
theorem dX2_weigh_36 : decode cX2_weigh 36 = .ok (.iload_n 3, 1) := by decide +kernel
theorem dX2_weigh_37 : decode cX2_weigh 37 = .ok (.ifCond .eq 58, 3) := by decide +kernel
theorem dX2_weigh_40 : decode cX2_weigh 40 = .ok (.iload 4, 2) := by decide +kernel
theorem dX2_weigh_42 : decode cX2_weigh 42 = .ok (.bipush 9, 2) := by decide +kernel
theorem dX2_weigh_44 : decode cX2_weigh 44 = .ok (.if_icmp .ge 51, 3) := by decide +kernel
theorem dX2_weigh_47 : decode cX2_weigh 47 = .ok (.iconst 0, 1) := by decide +kernel
theorem dX2_weigh_48 : decode cX2_weigh 48 = .ok (.istore_n 3, 1) := by decide +kernel
theorem dX2_weigh_49 : decode cX2_weigh 49 = .ok (.iconst 0, 1) := by decide +kernel
theorem dX2_weigh_50 : decode cX2_weigh 50 = .ok (.istore 5, 2) := by decide +kernel
theorem dX2_weigh_52 : decode cX2_weigh 52 = .ok (.iload 5, 2) := by decide +kernel
theorem dX2_weigh_54 : decode cX2_weigh 54 = .ok (.aload_n 1, 1) := by decide +kernel
theorem dX2_weigh_55 : decode cX2_weigh 55 = .ok (.getfield 26, 3) := by decide +kernel
theorem dX2_weigh_58 : decode cX2_weigh 58 = .ok (.if_icmp .ge 31, 3) := by decide +kernel
theorem dX2_weigh_61 : decode cX2_weigh 61 = .ok (.aload_n 1, 1) := by decide +kernel
theorem dX2_weigh_62 : decode cX2_weigh 62 = .ok (.getfield 31, 3) := by decide +kernel
theorem dX2_weigh_65 : decode cX2_weigh 65 = .ok (.iload 5, 2) := by decide +kernel
theorem dX2_weigh_67 : decode cX2_weigh 67 = .ok (.baload, 1) := by decide +kernel
theorem dX2_weigh_68 : decode cX2_weigh 68 = .ok (.ifCond .ne 15, 3) := by decide +kernel
theorem dX2_weigh_71 : decode cX2_weigh 71 = .ok (.aload_n 0, 1) := by decide +kernel
theorem dX2_weigh_72 : decode cX2_weigh 72 = .ok (.aload_n 1, 1) := by decide +kernel
theorem dX2_weigh_73 : decode cX2_weigh 73 = .ok (.iload 5, 2) := by decide +kernel
theorem dX2_weigh_75 : decode cX2_weigh 75 = .ok (.invokevirtual 35, 3) := by decide +kernel
theorem dX2_weigh_78 : decode cX2_weigh 78 = .ok (.ifCond .eq 5, 3) := by decide +kernel
theorem dX2_weigh_81 : decode cX2_weigh 81 = .ok (.iconst 1, 1) := by decide +kernel
theorem dX2_weigh_82 : decode cX2_weigh 82 = .ok (.istore_n 3, 1) := by decide +kernel
theorem dX2_weigh_83 : decode cX2_weigh 83 = .ok (.iinc 5 1, 3) := by decide +kernel
theorem dX2_weigh_86 : decode cX2_weigh 86 = .ok (.goto (-34), 3) := by decide +kernel
theorem dX2_weigh_89 : decode cX2_weigh 89 = .ok (.iinc 4 1, 3) := by decide +kernel
theorem dX2_weigh_92 : decode cX2_weigh 92 = .ok (.goto (-56), 3) := by decide +kernel
theorem dX2_weigh_95 : decode cX2_weigh 95 = .ok (.return_, 1) := by decide +kernel
theorem dX2_improves_0 : decode cX2_improves 0 = .ok (.aload_n 1, 1) := by decide +kernel
theorem dX2_improves_1 : decode cX2_improves 1 = .ok (.getfield 39, 3) := by decide +kernel
theorem dX2_improves_4 : decode cX2_improves 4 = .ok (.iload_n 2, 1) := by decide +kernel
theorem dX2_improves_5 : decode cX2_improves 5 = .ok (.iaload, 1) := by decide +kernel
theorem dX2_improves_6 : decode cX2_improves 6 = .ok (.istore_n 3, 1) := by decide +kernel
theorem dX2_improves_7 : decode cX2_improves 7 = .ok (.aload_n 1, 1) := by decide +kernel
theorem dX2_improves_8 : decode cX2_improves 8 = .ok (.getfield 42, 3) := by decide +kernel
theorem dX2_improves_11 : decode cX2_improves 11 = .ok (.iload_n 2, 1) := by decide +kernel
theorem dX2_improves_12 : decode cX2_improves 12 = .ok (.iaload, 1) := by decide +kernel
theorem dX2_improves_13 : decode cX2_improves 13 = .ok (.istore 4, 2) := by decide +kernel
theorem dX2_improves_15 : decode cX2_improves 15 = .ok (.aload_n 1, 1) := by decide +kernel
theorem dX2_improves_16 : decode cX2_improves 16 = .ok (.iload_n 2, 1) := by decide +kernel
theorem dX2_improves_17 : decode cX2_improves 17 = .ok (.invokestatic 45, 3) := by decide +kernel
theorem dX2_improves_20 : decode cX2_improves 20 = .ok (.istore 5, 2) := by decide +kernel
theorem dX2_improves_22 : decode cX2_improves 22 = .ok (.aload_n 0, 1) := by decide +kernel
theorem dX2_improves_23 : decode cX2_improves 23 = .ok (.getfield 9, 3) := by decide +kernel
theorem dX2_improves_26 : decode cX2_improves 26 = .ok (.iload_n 3, 1) := by decide +kernel
theorem dX2_improves_27 : decode cX2_improves 27 = .ok (.iaload, 1) := by decide +kernel
theorem dX2_improves_28 : decode cX2_improves 28 = .ok (.iload 5, 2) := by decide +kernel
theorem dX2_improves_30 : decode cX2_improves 30 = .ok (.iadd, 1) := by decide +kernel
theorem dX2_improves_31 : decode cX2_improves 31 = .ok (.aload_n 0, 1) := by decide +kernel
theorem dX2_improves_32 : decode cX2_improves 32 = .ok (.getfield 9, 3) := by decide +kernel
theorem dX2_improves_35 : decode cX2_improves 35 = .ok (.iload 4, 2) := by decide +kernel
theorem dX2_improves_37 : decode cX2_improves 37 = .ok (.iaload, 1) := by decide +kernel
theorem dX2_improves_38 : decode cX2_improves 38 = .ok (.if_icmp .ge 21, 3) := by decide +kernel
theorem dX2_improves_41 : decode cX2_improves 41 = .ok (.aload_n 0, 1) := by decide +kernel
theorem dX2_improves_42 : decode cX2_improves 42 = .ok (.getfield 9, 3) := by decide +kernel
theorem dX2_improves_45 : decode cX2_improves 45 = .ok (.iload 4, 2) := by decide +kernel
theorem dX2_improves_47 : decode cX2_improves 47 = .ok (.aload_n 0, 1) := by decide +kernel
theorem dX2_improves_48 : decode cX2_improves 48 = .ok (.getfield 9, 3) := by decide +kernel
theorem dX2_improves_51 : decode cX2_improves 51 = .ok (.iload_n 3, 1) := by decide +kernel
theorem dX2_improves_52 : decode cX2_improves 52 = .ok (.iaload, 1) := by decide +kernel
theorem dX2_improves_53 : decode cX2_improves 53 = .ok (.iload 5, 2) := by decide +kernel
theorem dX2_improves_55 : decode cX2_improves 55 = .ok (.iadd, 1) := by decide +kernel
theorem dX2_improves_56 : decode cX2_improves 56 = .ok (.iastore, 1) := by decide +kernel
theorem dX2_improves_57 : decode cX2_improves 57 = .ok (.iconst 1, 1) := by decide +kernel
theorem dX2_improves_58 : decode cX2_improves 58 = .ok (.ireturn, 1) := by decide +kernel
theorem dX2_improves_59 : decode cX2_improves 59 = .ok (.aload_n 0, 1) := by decide +kernel
theorem dX2_improves_60 : decode cX2_improves 60 = .ok (.getfield 9, 3) := by decide +kernel
theorem dX2_improves_63 : decode cX2_improves 63 = .ok (.iload 4, 2) := by decide +kernel
theorem dX2_improves_65 : decode cX2_improves 65 = .ok (.iaload, 1) := by decide +kernel
theorem dX2_improves_66 : decode cX2_improves 66 = .ok (.iload 5, 2) := by decide +kernel
theorem dX2_improves_68 : decode cX2_improves 68 = .ok (.iadd, 1) := by decide +kernel
theorem dX2_improves_69 : decode cX2_improves 69 = .ok (.aload_n 0, 1) := by decide +kernel
theorem dX2_improves_70 : decode cX2_improves 70 = .ok (.getfield 9, 3) := by decide +kernel
theorem dX2_improves_73 : decode cX2_improves 73 = .ok (.iload_n 3, 1) := by decide +kernel
theorem dX2_improves_74 : decode cX2_improves 74 = .ok (.iaload, 1) := by decide +kernel
theorem dX2_improves_75 : decode cX2_improves 75 = .ok (.if_icmp .ge 21, 3) := by decide +kernel
theorem dX2_improves_78 : decode cX2_improves 78 = .ok (.aload_n 0, 1) := by decide +kernel
theorem dX2_improves_79 : decode cX2_improves 79 = .ok (.getfield 9, 3) := by decide +kernel
theorem dX2_improves_82 : decode cX2_improves 82 = .ok (.iload_n 3, 1) := by decide +kernel
theorem dX2_improves_83 : decode cX2_improves 83 = .ok (.aload_n 0, 1) := by decide +kernel
theorem dX2_improves_84 : decode cX2_improves 84 = .ok (.getfield 9, 3) := by decide +kernel
theorem dX2_improves_87 : decode cX2_improves 87 = .ok (.iload 4, 2) := by decide +kernel
theorem dX2_improves_89 : decode cX2_improves 89 = .ok (.iaload, 1) := by decide +kernel
theorem dX2_improves_90 : decode cX2_improves 90 = .ok (.iload 5, 2) := by decide +kernel
theorem dX2_improves_92 : decode cX2_improves 92 = .ok (.iadd, 1) := by decide +kernel
theorem dX2_improves_93 : decode cX2_improves 93 = .ok (.iastore, 1) := by decide +kernel
theorem dX2_improves_94 : decode cX2_improves 94 = .ok (.iconst 1, 1) := by decide +kernel
theorem dX2_improves_95 : decode cX2_improves 95 = .ok (.ireturn, 1) := by decide +kernel
theorem dX2_improves_96 : decode cX2_improves 96 = .ok (.iconst 0, 1) := by decide +kernel
theorem dX2_improves_97 : decode cX2_improves 97 = .ok (.ireturn, 1) := by decide +kernel
theorem dX2_weightOf_0 : decode cX2_weightOf 0 = .ok (.aload_n 0, 1) := by decide +kernel
theorem dX2_weightOf_1 : decode cX2_weightOf 1 = .ok (.getfield 49, 3) := by decide +kernel
theorem dX2_weightOf_4 : decode cX2_weightOf 4 = .ok (.iload_n 1, 1) := by decide +kernel
theorem dX2_weightOf_5 : decode cX2_weightOf 5 = .ok (.iaload, 1) := by decide +kernel
theorem dX2_weightOf_6 : decode cX2_weightOf 6 = .ok (.bipush 16, 2) := by decide +kernel
theorem dX2_weightOf_8 : decode cX2_weightOf 8 = .ok (.imul, 1) := by decide +kernel
theorem dX2_weightOf_9 : decode cX2_weightOf 9 = .ok (.iconst 1, 1) := by decide +kernel
theorem dX2_weightOf_10 : decode cX2_weightOf 10 = .ok (.iadd, 1) := by decide +kernel
theorem dX2_weightOf_11 : decode cX2_weightOf 11 = .ok (.ireturn, 1) := by decide +kernel
theorem dX2_find_0 : decode cX2_find 0 = .ok (.iconst 0, 1) := by decide +kernel
theorem dX2_find_1 : decode cX2_find 1 = .ok (.istore_n 2, 1) := by decide +kernel
theorem dX2_find_2 : decode cX2_find 2 = .ok (.iload_n 2, 1) := by decide +kernel
theorem dX2_find_3 : decode cX2_find 3 = .ok (.bipush 9, 2) := by decide +kernel
theorem dX2_find_5 : decode cX2_find 5 = .ok (.if_icmp .ge 18, 3) := by decide +kernel
theorem dX2_find_8 : decode cX2_find 8 = .ok (.aload_n 0, 1) := by decide +kernel
theorem dX2_find_9 : decode cX2_find 9 = .ok (.getfield 18, 3) := by decide +kernel
theorem dX2_find_12 : decode cX2_find 12 = .ok (.iload_n 2, 1) := by decide +kernel
theorem dX2_find_13 : decode cX2_find 13 = .ok (.sipush (-999), 3) := by decide +kernel
theorem dX2_find_16 : decode cX2_find 16 = .ok (.iastore, 1) := by decide +kernel
theorem dX2_find_17 : decode cX2_find 17 = .ok (.iinc 2 1, 3) := by decide +kernel
theorem dX2_find_20 : decode cX2_find 20 = .ok (.goto (-18), 3) := by decide +kernel
theorem dX2_find_23 : decode cX2_find 23 = .ok (.aload_n 0, 1) := by decide +kernel
theorem dX2_find_24 : decode cX2_find 24 = .ok (.iconst 0, 1) := by decide +kernel
theorem dX2_find_25 : decode cX2_find 25 = .ok (.putfield 21, 3) := by decide +kernel
theorem dX2_find_28 : decode cX2_find 28 = .ok (.aload_n 0, 1) := by decide +kernel
theorem dX2_find_29 : decode cX2_find 29 = .ok (.aload_n 1, 1) := by decide +kernel
theorem dX2_find_30 : decode cX2_find 30 = .ok (.aload_n 1, 1) := by decide +kernel
theorem dX2_find_31 : decode cX2_find 31 = .ok (.getfield 52, 3) := by decide +kernel
theorem dX2_find_34 : decode cX2_find 34 = .ok (.invokevirtual 55, 3) := by decide +kernel
theorem dX2_find_37 : decode cX2_find 37 = .ok (.aload_n 0, 1) := by decide +kernel
theorem dX2_find_38 : decode cX2_find 38 = .ok (.getfield 9, 3) := by decide +kernel
theorem dX2_find_41 : decode cX2_find 41 = .ok (.aload_n 1, 1) := by decide +kernel
theorem dX2_find_42 : decode cX2_find 42 = .ok (.getfield 59, 3) := by decide +kernel
theorem dX2_find_45 : decode cX2_find 45 = .ok (.iaload, 1) := by decide +kernel
theorem dX2_find_46 : decode cX2_find 46 = .ok (.ldc 25, 2) := by decide +kernel
theorem dX2_find_48 : decode cX2_find 48 = .ok (.if_icmp .ne 9, 3) := by decide +kernel
theorem dX2_find_51 : decode cX2_find 51 = .ok (.sipush (-999), 3) := by decide +kernel
theorem dX2_find_54 : decode cX2_find 54 = .ok (.goto 7, 3) := by decide +kernel
theorem dX2_find_57 : decode cX2_find 57 = .ok (.aload_n 1, 1) := by decide +kernel
theorem dX2_find_58 : decode cX2_find 58 = .ok (.getfield 59, 3) := by decide +kernel
theorem dX2_find_61 : decode cX2_find 61 = .ok (.istore_n 2, 1) := by decide +kernel
theorem dX2_find_62 : decode cX2_find 62 = .ok (.iload_n 2, 1) := by decide +kernel
theorem dX2_find_63 : decode cX2_find 63 = .ok (.sipush (-999), 3) := by decide +kernel
theorem dX2_find_66 : decode cX2_find 66 = .ok (.if_icmp .eq 52, 3) := by decide +kernel
theorem dX2_find_69 : decode cX2_find 69 = .ok (.aload_n 0, 1) := by decide +kernel
theorem dX2_find_70 : decode cX2_find 70 = .ok (.getfield 21, 3) := by decide +kernel
theorem dX2_find_73 : decode cX2_find 73 = .ok (.bipush 9, 2) := by decide +kernel
theorem dX2_find_75 : decode cX2_find 75 = .ok (.if_icmp .ge 43, 3) := by decide +kernel
theorem dX2_find_78 : decode cX2_find 78 = .ok (.aload_n 0, 1) := by decide +kernel
theorem dX2_find_79 : decode cX2_find 79 = .ok (.getfield 15, 3) := by decide +kernel
theorem dX2_find_82 : decode cX2_find 82 = .ok (.aload_n 0, 1) := by decide +kernel
theorem dX2_find_83 : decode cX2_find 83 = .ok (.getfield 21, 3) := by decide +kernel
theorem dX2_find_86 : decode cX2_find 86 = .ok (.iload_n 2, 1) := by decide +kernel
theorem dX2_find_87 : decode cX2_find 87 = .ok (.iastore, 1) := by decide +kernel
theorem dX2_find_88 : decode cX2_find 88 = .ok (.aload_n 0, 1) := by decide +kernel
theorem dX2_find_89 : decode cX2_find 89 = .ok (.getfield 18, 3) := by decide +kernel
theorem dX2_find_92 : decode cX2_find 92 = .ok (.iload_n 2, 1) := by decide +kernel
theorem dX2_find_93 : decode cX2_find 93 = .ok (.aload_n 0, 1) := by decide +kernel
theorem dX2_find_94 : decode cX2_find 94 = .ok (.getfield 21, 3) := by decide +kernel
theorem dX2_find_97 : decode cX2_find 97 = .ok (.iastore, 1) := by decide +kernel
theorem dX2_find_98 : decode cX2_find 98 = .ok (.aload_n 0, 1) := by decide +kernel
theorem dX2_find_99 : decode cX2_find 99 = .ok (.dup, 1) := by decide +kernel
theorem dX2_find_100 : decode cX2_find 100 = .ok (.getfield 21, 3) := by decide +kernel
theorem dX2_find_103 : decode cX2_find 103 = .ok (.iconst 1, 1) := by decide +kernel
theorem dX2_find_104 : decode cX2_find 104 = .ok (.iadd, 1) := by decide +kernel
theorem dX2_find_105 : decode cX2_find 105 = .ok (.putfield 21, 3) := by decide +kernel
theorem dX2_find_108 : decode cX2_find 108 = .ok (.aload_n 0, 1) := by decide +kernel
theorem dX2_find_109 : decode cX2_find 109 = .ok (.aload_n 1, 1) := by decide +kernel
theorem dX2_find_110 : decode cX2_find 110 = .ok (.iload_n 2, 1) := by decide +kernel
theorem dX2_find_111 : decode cX2_find 111 = .ok (.invokevirtual 62, 3) := by decide +kernel
theorem dX2_find_114 : decode cX2_find 114 = .ok (.istore_n 2, 1) := by decide +kernel
theorem dX2_find_115 : decode cX2_find 115 = .ok (.goto (-53), 3) := by decide +kernel
theorem dX2_find_118 : decode cX2_find 118 = .ok (.return_, 1) := by decide +kernel
theorem dX2_nextBehind_0 : decode cX2_nextBehind 0 = .ok (.sipush (-999), 3) := by decide +kernel
theorem dX2_nextBehind_3 : decode cX2_nextBehind 3 = .ok (.istore_n 3, 1) := by decide +kernel
theorem dX2_nextBehind_4 : decode cX2_nextBehind 4 = .ok (.iconst 0, 1) := by decide +kernel
theorem dX2_nextBehind_5 : decode cX2_nextBehind 5 = .ok (.istore 4, 2) := by decide +kernel
theorem dX2_nextBehind_7 : decode cX2_nextBehind 7 = .ok (.iload 4, 2) := by decide +kernel
theorem dX2_nextBehind_9 : decode cX2_nextBehind 9 = .ok (.aload_n 1, 1) := by decide +kernel
theorem dX2_nextBehind_10 : decode cX2_nextBehind 10 = .ok (.getfield 26, 3) := by decide +kernel
theorem dX2_nextBehind_13 : decode cX2_nextBehind 13 = .ok (.if_icmp .ge 65, 3) := by decide +kernel
theorem dX2_nextBehind_16 : decode cX2_nextBehind 16 = .ok (.aload_n 1, 1) := by decide +kernel
theorem dX2_nextBehind_17 : decode cX2_nextBehind 17 = .ok (.iload 4, 2) := by decide +kernel
theorem dX2_nextBehind_19 : decode cX2_nextBehind 19 = .ok (.iload_n 2, 1) := by decide +kernel
theorem dX2_nextBehind_20 : decode cX2_nextBehind 20 = .ok (.invokevirtual 65, 3) := by decide +kernel
theorem dX2_nextBehind_23 : decode cX2_nextBehind 23 = .ok (.istore 5, 2) := by decide +kernel
theorem dX2_nextBehind_25 : decode cX2_nextBehind 25 = .ok (.iload 5, 2) := by decide +kernel
theorem dX2_nextBehind_27 : decode cX2_nextBehind 27 = .ok (.sipush (-999), 3) := by decide +kernel
theorem dX2_nextBehind_30 : decode cX2_nextBehind 30 = .ok (.if_icmp .eq 42, 3) := by decide +kernel
theorem dX2_nextBehind_33 : decode cX2_nextBehind 33 = .ok (.aload_n 0, 1) := by decide +kernel
theorem dX2_nextBehind_34 : decode cX2_nextBehind 34 = .ok (.getfield 9, 3) := by decide +kernel
theorem dX2_nextBehind_37 : decode cX2_nextBehind 37 = .ok (.iload 5, 2) := by decide +kernel
theorem dX2_nextBehind_39 : decode cX2_nextBehind 39 = .ok (.iaload, 1) := by decide +kernel
theorem dX2_nextBehind_40 : decode cX2_nextBehind 40 = .ok (.aload_n 1, 1) := by decide +kernel
theorem dX2_nextBehind_41 : decode cX2_nextBehind 41 = .ok (.iload 4, 2) := by decide +kernel
theorem dX2_nextBehind_43 : decode cX2_nextBehind 43 = .ok (.invokestatic 45, 3) := by decide +kernel
theorem dX2_nextBehind_46 : decode cX2_nextBehind 46 = .ok (.iadd, 1) := by decide +kernel
theorem dX2_nextBehind_47 : decode cX2_nextBehind 47 = .ok (.aload_n 0, 1) := by decide +kernel
theorem dX2_nextBehind_48 : decode cX2_nextBehind 48 = .ok (.getfield 9, 3) := by decide +kernel
theorem dX2_nextBehind_51 : decode cX2_nextBehind 51 = .ok (.iload_n 2, 1) := by decide +kernel
theorem dX2_nextBehind_52 : decode cX2_nextBehind 52 = .ok (.iaload, 1) := by decide +kernel
theorem dX2_nextBehind_53 : decode cX2_nextBehind 53 = .ok (.if_icmp .ne 19, 3) := by decide +kernel
theorem dX2_nextBehind_56 : decode cX2_nextBehind 56 = .ok (.iload_n 3, 1) := by decide +kernel
theorem dX2_nextBehind_57 : decode cX2_nextBehind 57 = .ok (.sipush (-999), 3) := by decide +kernel
theorem dX2_nextBehind_60 : decode cX2_nextBehind 60 = .ok (.if_icmp .eq 9, 3) := by decide +kernel
theorem dX2_nextBehind_63 : decode cX2_nextBehind 63 = .ok (.iload 5, 2) := by decide +kernel
theorem dX2_nextBehind_65 : decode cX2_nextBehind 65 = .ok (.iload_n 3, 1) := by decide +kernel
theorem dX2_nextBehind_66 : decode cX2_nextBehind 66 = .ok (.if_icmp .ge 6, 3) := by decide +kernel
theorem dX2_nextBehind_69 : decode cX2_nextBehind 69 = .ok (.iload 5, 2) := by decide +kernel
theorem dX2_nextBehind_71 : decode cX2_nextBehind 71 = .ok (.istore_n 3, 1) := by decide +kernel
theorem dX2_nextBehind_72 : decode cX2_nextBehind 72 = .ok (.iinc 4 1, 3) := by decide +kernel
theorem dX2_nextBehind_75 : decode cX2_nextBehind 75 = .ok (.goto (-68), 3) := by decide +kernel
theorem dX2_nextBehind_78 : decode cX2_nextBehind 78 = .ok (.iload_n 3, 1) := by decide +kernel
theorem dX2_nextBehind_79 : decode cX2_nextBehind 79 = .ok (.ireturn, 1) := by decide +kernel
theorem dX2_lengthFrom_0 : decode cX2_lengthFrom 0 = .ok (.iload_n 1, 1) := by decide +kernel
theorem dX2_lengthFrom_1 : decode cX2_lengthFrom 1 = .ok (.ifCond .lt 20, 3) := by decide +kernel
theorem dX2_lengthFrom_4 : decode cX2_lengthFrom 4 = .ok (.iload_n 1, 1) := by decide +kernel
theorem dX2_lengthFrom_5 : decode cX2_lengthFrom 5 = .ok (.bipush 9, 2) := by decide +kernel
theorem dX2_lengthFrom_7 : decode cX2_lengthFrom 7 = .ok (.if_icmp .ge 14, 3) := by decide +kernel
theorem dX2_lengthFrom_10 : decode cX2_lengthFrom 10 = .ok (.aload_n 0, 1) := by decide +kernel
theorem dX2_lengthFrom_11 : decode cX2_lengthFrom 11 = .ok (.getfield 9, 3) := by decide +kernel
theorem dX2_lengthFrom_14 : decode cX2_lengthFrom 14 = .ok (.iload_n 1, 1) := by decide +kernel
theorem dX2_lengthFrom_15 : decode cX2_lengthFrom 15 = .ok (.iaload, 1) := by decide +kernel
theorem dX2_lengthFrom_16 : decode cX2_lengthFrom 16 = .ok (.ldc 25, 2) := by decide +kernel
theorem dX2_lengthFrom_18 : decode cX2_lengthFrom 18 = .ok (.if_icmp .ne 7, 3) := by decide +kernel
theorem dX2_lengthFrom_21 : decode cX2_lengthFrom 21 = .ok (.sipush (-999), 3) := by decide +kernel
theorem dX2_lengthFrom_24 : decode cX2_lengthFrom 24 = .ok (.ireturn, 1) := by decide +kernel
theorem dX2_lengthFrom_25 : decode cX2_lengthFrom 25 = .ok (.aload_n 0, 1) := by decide +kernel
theorem dX2_lengthFrom_26 : decode cX2_lengthFrom 26 = .ok (.getfield 9, 3) := by decide +kernel
theorem dX2_lengthFrom_29 : decode cX2_lengthFrom 29 = .ok (.iload_n 1, 1) := by decide +kernel
theorem dX2_lengthFrom_30 : decode cX2_lengthFrom 30 = .ok (.iaload, 1) := by decide +kernel
theorem dX2_lengthFrom_31 : decode cX2_lengthFrom 31 = .ok (.bipush 16, 2) := by decide +kernel
theorem dX2_lengthFrom_33 : decode cX2_lengthFrom 33 = .ok (.idiv, 1) := by decide +kernel
theorem dX2_lengthFrom_34 : decode cX2_lengthFrom 34 = .ok (.ireturn, 1) := by decide +kernel
theorem dX2_farthest_0 : decode cX2_farthest 0 = .ok (.iconst 0, 1) := by decide +kernel
theorem dX2_farthest_1 : decode cX2_farthest 1 = .ok (.istore_n 2, 1) := by decide +kernel
theorem dX2_farthest_2 : decode cX2_farthest 2 = .ok (.iconst 0, 1) := by decide +kernel
theorem dX2_farthest_3 : decode cX2_farthest 3 = .ok (.istore_n 3, 1) := by decide +kernel
theorem dX2_farthest_4 : decode cX2_farthest 4 = .ok (.iload_n 3, 1) := by decide +kernel
theorem dX2_farthest_5 : decode cX2_farthest 5 = .ok (.aload_n 1, 1) := by decide +kernel
theorem dX2_farthest_6 : decode cX2_farthest 6 = .ok (.getfield 69, 3) := by decide +kernel
theorem dX2_farthest_9 : decode cX2_farthest 9 = .ok (.if_icmp .ge 35, 3) := by decide +kernel
theorem dX2_farthest_12 : decode cX2_farthest 12 = .ok (.aload_n 0, 1) := by decide +kernel
theorem dX2_farthest_13 : decode cX2_farthest 13 = .ok (.iload_n 3, 1) := by decide +kernel
theorem dX2_farthest_14 : decode cX2_farthest 14 = .ok (.invokevirtual 72, 3) := by decide +kernel
theorem dX2_farthest_17 : decode cX2_farthest 17 = .ok (.istore 4, 2) := by decide +kernel
theorem dX2_farthest_19 : decode cX2_farthest 19 = .ok (.iload 4, 2) := by decide +kernel
theorem dX2_farthest_21 : decode cX2_farthest 21 = .ok (.sipush (-999), 3) := by decide +kernel
theorem dX2_farthest_24 : decode cX2_farthest 24 = .ok (.if_icmp .ne 7, 3) := by decide +kernel
theorem dX2_farthest_27 : decode cX2_farthest 27 = .ok (.sipush (-999), 3) := by decide +kernel
theorem dX2_farthest_30 : decode cX2_farthest 30 = .ok (.ireturn, 1) := by decide +kernel
theorem dX2_farthest_31 : decode cX2_farthest 31 = .ok (.iload_n 2, 1) := by decide +kernel
theorem dX2_farthest_32 : decode cX2_farthest 32 = .ok (.iload 4, 2) := by decide +kernel
theorem dX2_farthest_34 : decode cX2_farthest 34 = .ok (.invokestatic 76, 3) := by decide +kernel
theorem dX2_farthest_37 : decode cX2_farthest 37 = .ok (.istore_n 2, 1) := by decide +kernel
theorem dX2_farthest_38 : decode cX2_farthest 38 = .ok (.iinc 3 1, 3) := by decide +kernel
theorem dX2_farthest_41 : decode cX2_farthest 41 = .ok (.goto (-37), 3) := by decide +kernel
theorem dX2_farthest_44 : decode cX2_farthest 44 = .ok (.iload_n 2, 1) := by decide +kernel
theorem dX2_farthest_45 : decode cX2_farthest 45 = .ok (.ireturn, 1) := by decide +kernel
theorem dX2_streets_0 : decode cX2_streets 0 = .ok (.aload_n 0, 1) := by decide +kernel
theorem dX2_streets_1 : decode cX2_streets 1 = .ok (.getfield 21, 3) := by decide +kernel
theorem dX2_streets_4 : decode cX2_streets 4 = .ok (.ifCond .ne 9, 3) := by decide +kernel
theorem dX2_streets_7 : decode cX2_streets 7 = .ok (.sipush (-999), 3) := by decide +kernel
theorem dX2_streets_10 : decode cX2_streets 10 = .ok (.goto 9, 3) := by decide +kernel
theorem dX2_streets_13 : decode cX2_streets 13 = .ok (.aload_n 0, 1) := by decide +kernel
theorem dX2_streets_14 : decode cX2_streets 14 = .ok (.getfield 21, 3) := by decide +kernel
theorem dX2_streets_17 : decode cX2_streets 17 = .ok (.iconst 1, 1) := by decide +kernel
theorem dX2_streets_18 : decode cX2_streets 18 = .ok (.isub, 1) := by decide +kernel
theorem dX2_streets_19 : decode cX2_streets 19 = .ok (.ireturn, 1) := by decide +kernel
theorem dX2_crossingAt_0 : decode cX2_crossingAt 0 = .ok (.iload_n 1, 1) := by decide +kernel
theorem dX2_crossingAt_1 : decode cX2_crossingAt 1 = .ok (.ifCond .lt 20, 3) := by decide +kernel
theorem dX2_crossingAt_4 : decode cX2_crossingAt 4 = .ok (.iload_n 1, 1) := by decide +kernel
theorem dX2_crossingAt_5 : decode cX2_crossingAt 5 = .ok (.aload_n 0, 1) := by decide +kernel
theorem dX2_crossingAt_6 : decode cX2_crossingAt 6 = .ok (.getfield 21, 3) := by decide +kernel
theorem dX2_crossingAt_9 : decode cX2_crossingAt 9 = .ok (.if_icmp .ge 12, 3) := by decide +kernel
theorem dX2_crossingAt_12 : decode cX2_crossingAt 12 = .ok (.aload_n 0, 1) := by decide +kernel
theorem dX2_crossingAt_13 : decode cX2_crossingAt 13 = .ok (.getfield 15, 3) := by decide +kernel
theorem dX2_crossingAt_16 : decode cX2_crossingAt 16 = .ok (.iload_n 1, 1) := by decide +kernel
theorem dX2_crossingAt_17 : decode cX2_crossingAt 17 = .ok (.iaload, 1) := by decide +kernel
theorem dX2_crossingAt_18 : decode cX2_crossingAt 18 = .ok (.goto 6, 3) := by decide +kernel
theorem dX2_crossingAt_21 : decode cX2_crossingAt 21 = .ok (.sipush (-999), 3) := by decide +kernel
theorem dX2_crossingAt_24 : decode cX2_crossingAt 24 = .ok (.ireturn, 1) := by decide +kernel
theorem dX2_placeOf_0 : decode cX2_placeOf 0 = .ok (.iload_n 1, 1) := by decide +kernel
theorem dX2_placeOf_1 : decode cX2_placeOf 1 = .ok (.ifCond .lt 18, 3) := by decide +kernel
theorem dX2_placeOf_4 : decode cX2_placeOf 4 = .ok (.iload_n 1, 1) := by decide +kernel
theorem dX2_placeOf_5 : decode cX2_placeOf 5 = .ok (.bipush 9, 2) := by decide +kernel
theorem dX2_placeOf_7 : decode cX2_placeOf 7 = .ok (.if_icmp .ge 12, 3) := by decide +kernel
theorem dX2_placeOf_10 : decode cX2_placeOf 10 = .ok (.aload_n 0, 1) := by decide +kernel
theorem dX2_placeOf_11 : decode cX2_placeOf 11 = .ok (.getfield 18, 3) := by decide +kernel
theorem dX2_placeOf_14 : decode cX2_placeOf 14 = .ok (.iload_n 1, 1) := by decide +kernel
theorem dX2_placeOf_15 : decode cX2_placeOf 15 = .ok (.iaload, 1) := by decide +kernel
theorem dX2_placeOf_16 : decode cX2_placeOf 16 = .ok (.goto 6, 3) := by decide +kernel
theorem dX2_placeOf_19 : decode cX2_placeOf 19 = .ok (.sipush (-999), 3) := by decide +kernel
theorem dX2_placeOf_22 : decode cX2_placeOf 22 = .ok (.ireturn, 1) := by decide +kernel
theorem dX2_uses_0 : decode cX2_uses 0 = .ok (.aload_n 0, 1) := by decide +kernel
theorem dX2_uses_1 : decode cX2_uses 1 = .ok (.aload_n 1, 1) := by decide +kernel
theorem dX2_uses_2 : decode cX2_uses 2 = .ok (.getfield 39, 3) := by decide +kernel
theorem dX2_uses_5 : decode cX2_uses 5 = .ok (.iload_n 2, 1) := by decide +kernel
theorem dX2_uses_6 : decode cX2_uses 6 = .ok (.iaload, 1) := by decide +kernel
theorem dX2_uses_7 : decode cX2_uses 7 = .ok (.invokevirtual 81, 3) := by decide +kernel
theorem dX2_uses_10 : decode cX2_uses 10 = .ok (.istore_n 3, 1) := by decide +kernel
theorem dX2_uses_11 : decode cX2_uses 11 = .ok (.aload_n 0, 1) := by decide +kernel
theorem dX2_uses_12 : decode cX2_uses 12 = .ok (.aload_n 1, 1) := by decide +kernel
theorem dX2_uses_13 : decode cX2_uses 13 = .ok (.getfield 42, 3) := by decide +kernel
theorem dX2_uses_16 : decode cX2_uses 16 = .ok (.iload_n 2, 1) := by decide +kernel
theorem dX2_uses_17 : decode cX2_uses 17 = .ok (.iaload, 1) := by decide +kernel
theorem dX2_uses_18 : decode cX2_uses 18 = .ok (.invokevirtual 81, 3) := by decide +kernel
theorem dX2_uses_21 : decode cX2_uses 21 = .ok (.istore 4, 2) := by decide +kernel
theorem dX2_uses_23 : decode cX2_uses 23 = .ok (.iload_n 3, 1) := by decide +kernel
theorem dX2_uses_24 : decode cX2_uses 24 = .ok (.sipush (-999), 3) := by decide +kernel
theorem dX2_uses_27 : decode cX2_uses 27 = .ok (.if_icmp .eq 31, 3) := by decide +kernel
theorem dX2_uses_30 : decode cX2_uses 30 = .ok (.iload 4, 2) := by decide +kernel
theorem dX2_uses_32 : decode cX2_uses 32 = .ok (.sipush (-999), 3) := by decide +kernel
theorem dX2_uses_35 : decode cX2_uses 35 = .ok (.if_icmp .eq 23, 3) := by decide +kernel
theorem dX2_uses_38 : decode cX2_uses 38 = .ok (.iload_n 3, 1) := by decide +kernel
theorem dX2_uses_39 : decode cX2_uses 39 = .ok (.iload 4, 2) := by decide +kernel
theorem dX2_uses_41 : decode cX2_uses 41 = .ok (.isub, 1) := by decide +kernel
theorem dX2_uses_42 : decode cX2_uses 42 = .ok (.iconst 1, 1) := by decide +kernel
theorem dX2_uses_43 : decode cX2_uses 43 = .ok (.if_icmp .eq 11, 3) := by decide +kernel
theorem dX2_uses_46 : decode cX2_uses 46 = .ok (.iload 4, 2) := by decide +kernel
theorem dX2_uses_48 : decode cX2_uses 48 = .ok (.iload_n 3, 1) := by decide +kernel
theorem dX2_uses_49 : decode cX2_uses 49 = .ok (.isub, 1) := by decide +kernel
theorem dX2_uses_50 : decode cX2_uses 50 = .ok (.iconst 1, 1) := by decide +kernel
theorem dX2_uses_51 : decode cX2_uses 51 = .ok (.if_icmp .ne 7, 3) := by decide +kernel
theorem dX2_uses_54 : decode cX2_uses 54 = .ok (.iconst 1, 1) := by decide +kernel
theorem dX2_uses_55 : decode cX2_uses 55 = .ok (.goto 4, 3) := by decide +kernel
theorem dX2_uses_58 : decode cX2_uses 58 = .ok (.iconst 0, 1) := by decide +kernel
theorem dX2_uses_59 : decode cX2_uses 59 = .ok (.ireturn, 1) := by decide +kernel
theorem dX3_init_0 : decode cX3_init 0 = .ok (.aload_n 0, 1) := by decide +kernel
theorem dX3_init_1 : decode cX3_init 1 = .ok (.invokespecial 3, 3) := by decide +kernel
theorem dX3_init_4 : decode cX3_init 4 = .ok (.aload_n 0, 1) := by decide +kernel
theorem dX3_init_5 : decode cX3_init 5 = .ok (.iconst 2, 1) := by decide +kernel
theorem dX3_init_6 : decode cX3_init 6 = .ok (.anewarray 9, 3) := by decide +kernel
theorem dX3_init_9 : decode cX3_init 9 = .ok (.putfield 11, 3) := by decide +kernel
theorem dX3_init_12 : decode cX3_init 12 = .ok (.aload_n 0, 1) := by decide +kernel
theorem dX3_init_13 : decode cX3_init 13 = .ok (.iconst 2, 1) := by decide +kernel
theorem dX3_init_14 : decode cX3_init 14 = .ok (.newarray .boolean, 2) := by decide +kernel
theorem dX3_init_16 : decode cX3_init 16 = .ok (.putfield 17, 3) := by decide +kernel
theorem dX3_init_19 : decode cX3_init 19 = .ok (.iconst 0, 1) := by decide +kernel
theorem dX3_init_20 : decode cX3_init 20 = .ok (.istore_n 1, 1) := by decide +kernel
theorem dX3_init_21 : decode cX3_init 21 = .ok (.iload_n 1, 1) := by decide +kernel
theorem dX3_init_22 : decode cX3_init 22 = .ok (.iconst 2, 1) := by decide +kernel
theorem dX3_init_23 : decode cX3_init 23 = .ok (.if_icmp .ge 22, 3) := by decide +kernel
theorem dX3_init_26 : decode cX3_init 26 = .ok (.aload_n 0, 1) := by decide +kernel
theorem dX3_init_27 : decode cX3_init 27 = .ok (.getfield 11, 3) := by decide +kernel
theorem dX3_init_30 : decode cX3_init 30 = .ok (.iload_n 1, 1) := by decide +kernel
theorem dX3_init_31 : decode cX3_init 31 = .ok (.new 9, 3) := by decide +kernel
theorem dX3_init_34 : decode cX3_init 34 = .ok (.dup, 1) := by decide +kernel
theorem dX3_init_35 : decode cX3_init 35 = .ok (.invokespecial 21, 3) := by decide +kernel
theorem dX3_init_38 : decode cX3_init 38 = .ok (.aastore, 1) := by decide +kernel
theorem dX3_init_39 : decode cX3_init 39 = .ok (.iinc 1 1, 3) := by decide +kernel
theorem dX3_init_42 : decode cX3_init 42 = .ok (.goto (-21), 3) := by decide +kernel
theorem dX3_init_45 : decode cX3_init 45 = .ok (.return_, 1) := by decide +kernel
theorem dX3_keep_0 : decode cX3_keep 0 = .ok (.aload_n 0, 1) := by decide +kernel
theorem dX3_keep_1 : decode cX3_keep 1 = .ok (.getfield 11, 3) := by decide +kernel
theorem dX3_keep_4 : decode cX3_keep 4 = .ok (.iload_n 1, 1) := by decide +kernel
theorem dX3_keep_5 : decode cX3_keep 5 = .ok (.aaload, 1) := by decide +kernel
theorem dX3_keep_6 : decode cX3_keep 6 = .ok (.aload_n 2, 1) := by decide +kernel
theorem dX3_keep_7 : decode cX3_keep 7 = .ok (.invokevirtual 22, 3) := by decide +kernel
theorem dX3_keep_10 : decode cX3_keep 10 = .ok (.aload_n 0, 1) := by decide +kernel
theorem dX3_keep_11 : decode cX3_keep 11 = .ok (.getfield 17, 3) := by decide +kernel
theorem dX3_keep_14 : decode cX3_keep 14 = .ok (.iload_n 1, 1) := by decide +kernel
theorem dX3_keep_15 : decode cX3_keep 15 = .ok (.iconst 1, 1) := by decide +kernel
theorem dX3_keep_16 : decode cX3_keep 16 = .ok (.bastore, 1) := by decide +kernel
theorem dX3_keep_17 : decode cX3_keep 17 = .ok (.return_, 1) := by decide +kernel
theorem dX3_giveBack_0 : decode cX3_giveBack 0 = .ok (.aload_n 2, 1) := by decide +kernel
theorem dX3_giveBack_1 : decode cX3_giveBack 1 = .ok (.aload_n 0, 1) := by decide +kernel
theorem dX3_giveBack_2 : decode cX3_giveBack 2 = .ok (.getfield 11, 3) := by decide +kernel
theorem dX3_giveBack_5 : decode cX3_giveBack 5 = .ok (.iload_n 1, 1) := by decide +kernel
theorem dX3_giveBack_6 : decode cX3_giveBack 6 = .ok (.aaload, 1) := by decide +kernel
theorem dX3_giveBack_7 : decode cX3_giveBack 7 = .ok (.invokevirtual 22, 3) := by decide +kernel
theorem dX3_giveBack_10 : decode cX3_giveBack 10 = .ok (.return_, 1) := by decide +kernel
theorem dX3_emptyAll_0 : decode cX3_emptyAll 0 = .ok (.iconst 0, 1) := by decide +kernel
theorem dX3_emptyAll_1 : decode cX3_emptyAll 1 = .ok (.istore_n 1, 1) := by decide +kernel
theorem dX3_emptyAll_2 : decode cX3_emptyAll 2 = .ok (.iload_n 1, 1) := by decide +kernel
theorem dX3_emptyAll_3 : decode cX3_emptyAll 3 = .ok (.iconst 2, 1) := by decide +kernel
theorem dX3_emptyAll_4 : decode cX3_emptyAll 4 = .ok (.if_icmp .ge 16, 3) := by decide +kernel
theorem dX3_emptyAll_7 : decode cX3_emptyAll 7 = .ok (.aload_n 0, 1) := by decide +kernel
theorem dX3_emptyAll_8 : decode cX3_emptyAll 8 = .ok (.getfield 17, 3) := by decide +kernel
theorem dX3_emptyAll_11 : decode cX3_emptyAll 11 = .ok (.iload_n 1, 1) := by decide +kernel
theorem dX3_emptyAll_12 : decode cX3_emptyAll 12 = .ok (.iconst 0, 1) := by decide +kernel
theorem dX3_emptyAll_13 : decode cX3_emptyAll 13 = .ok (.bastore, 1) := by decide +kernel
theorem dX3_emptyAll_14 : decode cX3_emptyAll 14 = .ok (.iinc 1 1, 3) := by decide +kernel
theorem dX3_emptyAll_17 : decode cX3_emptyAll 17 = .ok (.goto (-15), 3) := by decide +kernel
theorem dX3_emptyAll_20 : decode cX3_emptyAll 20 = .ok (.return_, 1) := by decide +kernel
theorem dX4_init_0 : decode cX4_init 0 = .ok (.aload_n 0, 1) := by decide +kernel
theorem dX4_init_1 : decode cX4_init 1 = .ok (.invokespecial 3, 3) := by decide +kernel
theorem dX4_init_4 : decode cX4_init 4 = .ok (.aload_n 0, 1) := by decide +kernel
theorem dX4_init_5 : decode cX4_init 5 = .ok (.sipush 140, 3) := by decide +kernel
theorem dX4_init_8 : decode cX4_init 8 = .ok (.newarray .char, 2) := by decide +kernel
theorem dX4_init_10 : decode cX4_init 10 = .ok (.putfield 9, 3) := by decide +kernel
theorem dX4_init_13 : decode cX4_init 13 = .ok (.aload_n 0, 1) := by decide +kernel
theorem dX4_init_14 : decode cX4_init 14 = .ok (.iconst 0, 1) := by decide +kernel
theorem dX4_init_15 : decode cX4_init 15 = .ok (.putfield 15, 3) := by decide +kernel
theorem dX4_init_18 : decode cX4_init 18 = .ok (.return_, 1) := by decide +kernel
theorem dX4_put_0 : decode cX4_put 0 = .ok (.aload_n 0, 1) := by decide +kernel
theorem dX4_put_1 : decode cX4_put 1 = .ok (.getfield 15, 3) := by decide +kernel
theorem dX4_put_4 : decode cX4_put 4 = .ok (.sipush 140, 3) := by decide +kernel
theorem dX4_put_7 : decode cX4_put 7 = .ok (.if_icmp .ge 23, 3) := by decide +kernel
theorem dX4_put_10 : decode cX4_put 10 = .ok (.aload_n 0, 1) := by decide +kernel
theorem dX4_put_11 : decode cX4_put 11 = .ok (.getfield 9, 3) := by decide +kernel
theorem dX4_put_14 : decode cX4_put 14 = .ok (.aload_n 0, 1) := by decide +kernel
theorem dX4_put_15 : decode cX4_put 15 = .ok (.getfield 15, 3) := by decide +kernel
theorem dX4_put_18 : decode cX4_put 18 = .ok (.iload_n 1, 1) := by decide +kernel
theorem dX4_put_19 : decode cX4_put 19 = .ok (.castore, 1) := by decide +kernel
theorem dX4_put_20 : decode cX4_put 20 = .ok (.aload_n 0, 1) := by decide +kernel
theorem dX4_put_21 : decode cX4_put 21 = .ok (.dup, 1) := by decide +kernel
theorem dX4_put_22 : decode cX4_put 22 = .ok (.getfield 15, 3) := by decide +kernel
theorem dX4_put_25 : decode cX4_put 25 = .ok (.iconst 1, 1) := by decide +kernel
theorem dX4_put_26 : decode cX4_put 26 = .ok (.iadd, 1) := by decide +kernel
theorem dX4_put_27 : decode cX4_put 27 = .ok (.putfield 15, 3) := by decide +kernel
theorem dX4_put_30 : decode cX4_put 30 = .ok (.return_, 1) := by decide +kernel
theorem dX4_codeAt_0 : decode cX4_codeAt 0 = .ok (.iload_n 1, 1) := by decide +kernel
theorem dX4_codeAt_1 : decode cX4_codeAt 1 = .ok (.ifCond .lt 20, 3) := by decide +kernel
theorem dX4_codeAt_4 : decode cX4_codeAt 4 = .ok (.iload_n 1, 1) := by decide +kernel
theorem dX4_codeAt_5 : decode cX4_codeAt 5 = .ok (.aload_n 0, 1) := by decide +kernel
theorem dX4_codeAt_6 : decode cX4_codeAt 6 = .ok (.getfield 15, 3) := by decide +kernel
theorem dX4_codeAt_9 : decode cX4_codeAt 9 = .ok (.if_icmp .ge 12, 3) := by decide +kernel
theorem dX4_codeAt_12 : decode cX4_codeAt 12 = .ok (.aload_n 0, 1) := by decide +kernel
theorem dX4_codeAt_13 : decode cX4_codeAt 13 = .ok (.getfield 9, 3) := by decide +kernel
theorem dX4_codeAt_16 : decode cX4_codeAt 16 = .ok (.iload_n 1, 1) := by decide +kernel
theorem dX4_codeAt_17 : decode cX4_codeAt 17 = .ok (.caload, 1) := by decide +kernel
theorem dX4_codeAt_18 : decode cX4_codeAt 18 = .ok (.goto 4, 3) := by decide +kernel
theorem dX4_codeAt_21 : decode cX4_codeAt 21 = .ok (.iconst (-1), 1) := by decide +kernel
theorem dX4_codeAt_22 : decode cX4_codeAt 22 = .ok (.ireturn, 1) := by decide +kernel
theorem dX4_digitAt_0 : decode cX4_digitAt 0 = .ok (.aload_n 0, 1) := by decide +kernel
theorem dX4_digitAt_1 : decode cX4_digitAt 1 = .ok (.iload_n 1, 1) := by decide +kernel
theorem dX4_digitAt_2 : decode cX4_digitAt 2 = .ok (.invokevirtual 19, 3) := by decide +kernel
theorem dX4_digitAt_5 : decode cX4_digitAt 5 = .ok (.istore_n 2, 1) := by decide +kernel
theorem dX4_digitAt_6 : decode cX4_digitAt 6 = .ok (.iload_n 2, 1) := by decide +kernel
theorem dX4_digitAt_7 : decode cX4_digitAt 7 = .ok (.bipush 48, 2) := by decide +kernel
theorem dX4_digitAt_9 : decode cX4_digitAt 9 = .ok (.if_icmp .lt 16, 3) := by decide +kernel
theorem dX4_digitAt_12 : decode cX4_digitAt 12 = .ok (.iload_n 2, 1) := by decide +kernel
theorem dX4_digitAt_13 : decode cX4_digitAt 13 = .ok (.bipush 57, 2) := by decide +kernel
theorem dX4_digitAt_15 : decode cX4_digitAt 15 = .ok (.if_icmp .gt 10, 3) := by decide +kernel
theorem dX4_digitAt_18 : decode cX4_digitAt 18 = .ok (.iload_n 2, 1) := by decide +kernel
theorem dX4_digitAt_19 : decode cX4_digitAt 19 = .ok (.bipush 48, 2) := by decide +kernel
theorem dX4_digitAt_21 : decode cX4_digitAt 21 = .ok (.isub, 1) := by decide +kernel
theorem dX4_digitAt_22 : decode cX4_digitAt 22 = .ok (.goto 6, 3) := by decide +kernel
theorem dX4_digitAt_25 : decode cX4_digitAt 25 = .ok (.sipush (-999), 3) := by decide +kernel
theorem dX4_digitAt_28 : decode cX4_digitAt 28 = .ok (.ireturn, 1) := by decide +kernel
theorem dX5_init_0 : decode cX5_init 0 = .ok (.aload_n 0, 1) := by decide +kernel
theorem dX5_init_1 : decode cX5_init 1 = .ok (.invokespecial 3, 3) := by decide +kernel
theorem dX5_init_4 : decode cX5_init 4 = .ok (.aload_n 0, 1) := by decide +kernel
theorem dX5_init_5 : decode cX5_init 5 = .ok (.iconst 2, 1) := by decide +kernel
theorem dX5_init_6 : decode cX5_init 6 = .ok (.putfield 9, 3) := by decide +kernel
theorem dX5_init_9 : decode cX5_init 9 = .ok (.aload_n 0, 1) := by decide +kernel
theorem dX5_init_10 : decode cX5_init 10 = .ok (.iconst 0, 1) := by decide +kernel
theorem dX5_init_11 : decode cX5_init 11 = .ok (.putfield 15, 3) := by decide +kernel
theorem dX5_init_14 : decode cX5_init 14 = .ok (.aload_n 0, 1) := by decide +kernel
theorem dX5_init_15 : decode cX5_init 15 = .ok (.iconst 0, 1) := by decide +kernel
theorem dX5_init_16 : decode cX5_init 16 = .ok (.putfield 18, 3) := by decide +kernel
theorem dX5_init_19 : decode cX5_init 19 = .ok (.aload_n 0, 1) := by decide +kernel
theorem dX5_init_20 : decode cX5_init 20 = .ok (.iconst 1, 1) := by decide +kernel
theorem dX5_init_21 : decode cX5_init 21 = .ok (.putfield 21, 3) := by decide +kernel
theorem dX5_init_24 : decode cX5_init 24 = .ok (.aload_n 0, 1) := by decide +kernel
theorem dX5_init_25 : decode cX5_init 25 = .ok (.bipush 21, 2) := by decide +kernel
theorem dX5_init_27 : decode cX5_init 27 = .ok (.newarray .int, 2) := by decide +kernel
theorem dX5_init_29 : decode cX5_init 29 = .ok (.putfield 24, 3) := by decide +kernel
theorem dX5_init_32 : decode cX5_init 32 = .ok (.aload_n 0, 1) := by decide +kernel
theorem dX5_init_33 : decode cX5_init 33 = .ok (.bipush 21, 2) := by decide +kernel
theorem dX5_init_35 : decode cX5_init 35 = .ok (.newarray .int, 2) := by decide +kernel
theorem dX5_init_37 : decode cX5_init 37 = .ok (.putfield 28, 3) := by decide +kernel
theorem dX5_init_40 : decode cX5_init 40 = .ok (.aload_n 0, 1) := by decide +kernel
theorem dX5_init_41 : decode cX5_init 41 = .ok (.bipush 21, 2) := by decide +kernel
theorem dX5_init_43 : decode cX5_init 43 = .ok (.newarray .int, 2) := by decide +kernel
theorem dX5_init_45 : decode cX5_init 45 = .ok (.putfield 31, 3) := by decide +kernel
theorem dX5_init_48 : decode cX5_init 48 = .ok (.aload_n 0, 1) := by decide +kernel
theorem dX5_init_49 : decode cX5_init 49 = .ok (.bipush 21, 2) := by decide +kernel
theorem dX5_init_51 : decode cX5_init 51 = .ok (.newarray .boolean, 2) := by decide +kernel
theorem dX5_init_53 : decode cX5_init 53 = .ok (.putfield 34, 3) := by decide +kernel
theorem dX5_init_56 : decode cX5_init 56 = .ok (.return_, 1) := by decide +kernel
theorem dX5_beginWith_0 : decode cX5_beginWith 0 = .ok (.aload_n 0, 1) := by decide +kernel
theorem dX5_beginWith_1 : decode cX5_beginWith 1 = .ok (.iload_n 1, 1) := by decide +kernel
theorem dX5_beginWith_2 : decode cX5_beginWith 2 = .ok (.putfield 9, 3) := by decide +kernel
theorem dX5_beginWith_5 : decode cX5_beginWith 5 = .ok (.aload_n 0, 1) := by decide +kernel
theorem dX5_beginWith_6 : decode cX5_beginWith 6 = .ok (.iload_n 2, 1) := by decide +kernel
theorem dX5_beginWith_7 : decode cX5_beginWith 7 = .ok (.putfield 18, 3) := by decide +kernel
theorem dX5_beginWith_10 : decode cX5_beginWith 10 = .ok (.aload_n 0, 1) := by decide +kernel
theorem dX5_beginWith_11 : decode cX5_beginWith 11 = .ok (.iload_n 3, 1) := by decide +kernel
theorem dX5_beginWith_12 : decode cX5_beginWith 12 = .ok (.putfield 21, 3) := by decide +kernel
theorem dX5_beginWith_15 : decode cX5_beginWith 15 = .ok (.aload_n 0, 1) := by decide +kernel
theorem dX5_beginWith_16 : decode cX5_beginWith 16 = .ok (.iconst 0, 1) := by decide +kernel
theorem dX5_beginWith_17 : decode cX5_beginWith 17 = .ok (.putfield 15, 3) := by decide +kernel
theorem dX5_beginWith_20 : decode cX5_beginWith 20 = .ok (.return_, 1) := by decide +kernel
theorem dX5_copyFrom_0 : decode cX5_copyFrom 0 = .ok (.aload_n 0, 1) := by decide +kernel
theorem dX5_copyFrom_1 : decode cX5_copyFrom 1 = .ok (.aload_n 1, 1) := by decide +kernel
theorem dX5_copyFrom_2 : decode cX5_copyFrom 2 = .ok (.getfield 9, 3) := by decide +kernel
theorem dX5_copyFrom_5 : decode cX5_copyFrom 5 = .ok (.putfield 9, 3) := by decide +kernel
theorem dX5_copyFrom_8 : decode cX5_copyFrom 8 = .ok (.aload_n 0, 1) := by decide +kernel
theorem dX5_copyFrom_9 : decode cX5_copyFrom 9 = .ok (.aload_n 1, 1) := by decide +kernel
theorem dX5_copyFrom_10 : decode cX5_copyFrom 10 = .ok (.getfield 15, 3) := by decide +kernel
theorem dX5_copyFrom_13 : decode cX5_copyFrom 13 = .ok (.putfield 15, 3) := by decide +kernel
theorem dX5_copyFrom_16 : decode cX5_copyFrom 16 = .ok (.aload_n 0, 1) := by decide +kernel
theorem dX5_copyFrom_17 : decode cX5_copyFrom 17 = .ok (.aload_n 1, 1) := by decide +kernel
theorem dX5_copyFrom_18 : decode cX5_copyFrom 18 = .ok (.getfield 18, 3) := by decide +kernel
theorem dX5_copyFrom_21 : decode cX5_copyFrom 21 = .ok (.putfield 18, 3) := by decide +kernel
theorem dX5_copyFrom_24 : decode cX5_copyFrom 24 = .ok (.aload_n 0, 1) := by decide +kernel
theorem dX5_copyFrom_25 : decode cX5_copyFrom 25 = .ok (.aload_n 1, 1) := by decide +kernel
theorem dX5_copyFrom_26 : decode cX5_copyFrom 26 = .ok (.getfield 21, 3) := by decide +kernel
theorem dX5_copyFrom_29 : decode cX5_copyFrom 29 = .ok (.putfield 21, 3) := by decide +kernel
theorem dX5_copyFrom_32 : decode cX5_copyFrom 32 = .ok (.iconst 0, 1) := by decide +kernel
theorem dX5_copyFrom_33 : decode cX5_copyFrom 33 = .ok (.istore_n 2, 1) := by decide +kernel
theorem dX5_copyFrom_34 : decode cX5_copyFrom 34 = .ok (.iload_n 2, 1) := by decide +kernel
theorem dX5_copyFrom_35 : decode cX5_copyFrom 35 = .ok (.aload_n 0, 1) := by decide +kernel
theorem dX5_copyFrom_36 : decode cX5_copyFrom 36 = .ok (.getfield 15, 3) := by decide +kernel
theorem dX5_copyFrom_39 : decode cX5_copyFrom 39 = .ok (.if_icmp .ge 16, 3) := by decide +kernel
theorem dX5_copyFrom_42 : decode cX5_copyFrom 42 = .ok (.aload_n 0, 1) := by decide +kernel
theorem dX5_copyFrom_43 : decode cX5_copyFrom 43 = .ok (.aload_n 1, 1) := by decide +kernel
theorem dX5_copyFrom_44 : decode cX5_copyFrom 44 = .ok (.iload_n 2, 1) := by decide +kernel
theorem dX5_copyFrom_45 : decode cX5_copyFrom 45 = .ok (.iload_n 2, 1) := by decide +kernel
theorem dX5_copyFrom_46 : decode cX5_copyFrom 46 = .ok (.invokevirtual 38, 3) := by decide +kernel
theorem dX5_copyFrom_49 : decode cX5_copyFrom 49 = .ok (.iinc 2 1, 3) := by decide +kernel
theorem dX5_copyFrom_52 : decode cX5_copyFrom 52 = .ok (.goto (-18), 3) := by decide +kernel
theorem dX5_copyFrom_55 : decode cX5_copyFrom 55 = .ok (.return_, 1) := by decide +kernel
theorem dX5_copyStreet_0 : decode cX5_copyStreet 0 = .ok (.aload_n 0, 1) := by decide +kernel
theorem dX5_copyStreet_1 : decode cX5_copyStreet 1 = .ok (.getfield 24, 3) := by decide +kernel
theorem dX5_copyStreet_4 : decode cX5_copyStreet 4 = .ok (.iload_n 3, 1) := by decide +kernel
theorem dX5_copyStreet_5 : decode cX5_copyStreet 5 = .ok (.aload_n 1, 1) := by decide +kernel
theorem dX5_copyStreet_6 : decode cX5_copyStreet 6 = .ok (.getfield 24, 3) := by decide +kernel
theorem dX5_copyStreet_9 : decode cX5_copyStreet 9 = .ok (.iload_n 2, 1) := by decide +kernel
theorem dX5_copyStreet_10 : decode cX5_copyStreet 10 = .ok (.iaload, 1) := by decide +kernel
theorem dX5_copyStreet_11 : decode cX5_copyStreet 11 = .ok (.iastore, 1) := by decide +kernel
theorem dX5_copyStreet_12 : decode cX5_copyStreet 12 = .ok (.aload_n 0, 1) := by decide +kernel
theorem dX5_copyStreet_13 : decode cX5_copyStreet 13 = .ok (.getfield 28, 3) := by decide +kernel
theorem dX5_copyStreet_16 : decode cX5_copyStreet 16 = .ok (.iload_n 3, 1) := by decide +kernel
theorem dX5_copyStreet_17 : decode cX5_copyStreet 17 = .ok (.aload_n 1, 1) := by decide +kernel
theorem dX5_copyStreet_18 : decode cX5_copyStreet 18 = .ok (.getfield 28, 3) := by decide +kernel
theorem dX5_copyStreet_21 : decode cX5_copyStreet 21 = .ok (.iload_n 2, 1) := by decide +kernel
theorem dX5_copyStreet_22 : decode cX5_copyStreet 22 = .ok (.iaload, 1) := by decide +kernel
theorem dX5_copyStreet_23 : decode cX5_copyStreet 23 = .ok (.iastore, 1) := by decide +kernel
theorem dX5_copyStreet_24 : decode cX5_copyStreet 24 = .ok (.aload_n 0, 1) := by decide +kernel
theorem dX5_copyStreet_25 : decode cX5_copyStreet 25 = .ok (.getfield 31, 3) := by decide +kernel
theorem dX5_copyStreet_28 : decode cX5_copyStreet 28 = .ok (.iload_n 3, 1) := by decide +kernel
theorem dX5_copyStreet_29 : decode cX5_copyStreet 29 = .ok (.aload_n 1, 1) := by decide +kernel
theorem dX5_copyStreet_30 : decode cX5_copyStreet 30 = .ok (.getfield 31, 3) := by decide +kernel
theorem dX5_copyStreet_33 : decode cX5_copyStreet 33 = .ok (.iload_n 2, 1) := by decide +kernel
theorem dX5_copyStreet_34 : decode cX5_copyStreet 34 = .ok (.iaload, 1) := by decide +kernel
theorem dX5_copyStreet_35 : decode cX5_copyStreet 35 = .ok (.iastore, 1) := by decide +kernel
theorem dX5_copyStreet_36 : decode cX5_copyStreet 36 = .ok (.aload_n 0, 1) := by decide +kernel
theorem dX5_copyStreet_37 : decode cX5_copyStreet 37 = .ok (.getfield 34, 3) := by decide +kernel
theorem dX5_copyStreet_40 : decode cX5_copyStreet 40 = .ok (.iload_n 3, 1) := by decide +kernel
theorem dX5_copyStreet_41 : decode cX5_copyStreet 41 = .ok (.aload_n 1, 1) := by decide +kernel
theorem dX5_copyStreet_42 : decode cX5_copyStreet 42 = .ok (.getfield 34, 3) := by decide +kernel
theorem dX5_copyStreet_45 : decode cX5_copyStreet 45 = .ok (.iload_n 2, 1) := by decide +kernel
theorem dX5_copyStreet_46 : decode cX5_copyStreet 46 = .ok (.baload, 1) := by decide +kernel
theorem dX5_copyStreet_47 : decode cX5_copyStreet 47 = .ok (.bastore, 1) := by decide +kernel
theorem dX5_copyStreet_48 : decode cX5_copyStreet 48 = .ok (.return_, 1) := by decide +kernel
end
section
theorem dX5_hasCrossing_0 : decode cX5_hasCrossing 0 = .ok (.iload_n 1, 1) := by decide +kernel
theorem dX5_hasCrossing_1 : decode cX5_hasCrossing 1 = .ok (.ifCond .lt 15, 3) := by decide +kernel
theorem dX5_hasCrossing_4 : decode cX5_hasCrossing 4 = .ok (.iload_n 1, 1) := by decide +kernel
theorem dX5_hasCrossing_5 : decode cX5_hasCrossing 5 = .ok (.aload_n 0, 1) := by decide +kernel
theorem dX5_hasCrossing_6 : decode cX5_hasCrossing 6 = .ok (.getfield 9, 3) := by decide +kernel
theorem dX5_hasCrossing_9 : decode cX5_hasCrossing 9 = .ok (.if_icmp .ge 7, 3) := by decide +kernel
theorem dX5_hasCrossing_12 : decode cX5_hasCrossing 12 = .ok (.iconst 1, 1) := by decide +kernel
theorem dX5_hasCrossing_13 : decode cX5_hasCrossing 13 = .ok (.goto 4, 3) := by decide +kernel
theorem dX5_hasCrossing_16 : decode cX5_hasCrossing 16 = .ok (.iconst 0, 1) := by decide +kernel
theorem dX5_hasCrossing_17 : decode cX5_hasCrossing 17 = .ok (.ireturn, 1) := by decide +kernel
theorem dX5_hasStreet_0 : decode cX5_hasStreet 0 = .ok (.iload_n 1, 1) := by decide +kernel
theorem dX5_hasStreet_1 : decode cX5_hasStreet 1 = .ok (.ifCond .lt 15, 3) := by decide +kernel
theorem dX5_hasStreet_4 : decode cX5_hasStreet 4 = .ok (.iload_n 1, 1) := by decide +kernel
theorem dX5_hasStreet_5 : decode cX5_hasStreet 5 = .ok (.aload_n 0, 1) := by decide +kernel
theorem dX5_hasStreet_6 : decode cX5_hasStreet 6 = .ok (.getfield 15, 3) := by decide +kernel
theorem dX5_hasStreet_9 : decode cX5_hasStreet 9 = .ok (.if_icmp .ge 7, 3) := by decide +kernel
theorem dX5_hasStreet_12 : decode cX5_hasStreet 12 = .ok (.iconst 1, 1) := by decide +kernel
theorem dX5_hasStreet_13 : decode cX5_hasStreet 13 = .ok (.goto 4, 3) := by decide +kernel
theorem dX5_hasStreet_16 : decode cX5_hasStreet 16 = .ok (.iconst 0, 1) := by decide +kernel
theorem dX5_hasStreet_17 : decode cX5_hasStreet 17 = .ok (.ireturn, 1) := by decide +kernel
theorem dX5_lengthOf_0 : decode cX5_lengthOf 0 = .ok (.aload_n 0, 1) := by decide +kernel
theorem dX5_lengthOf_1 : decode cX5_lengthOf 1 = .ok (.iload_n 1, 1) := by decide +kernel
theorem dX5_lengthOf_2 : decode cX5_lengthOf 2 = .ok (.invokevirtual 42, 3) := by decide +kernel
theorem dX5_lengthOf_5 : decode cX5_lengthOf 5 = .ok (.ifCond .eq 12, 3) := by decide +kernel
theorem dX5_lengthOf_8 : decode cX5_lengthOf 8 = .ok (.aload_n 0, 1) := by decide +kernel
theorem dX5_lengthOf_9 : decode cX5_lengthOf 9 = .ok (.getfield 31, 3) := by decide +kernel
theorem dX5_lengthOf_12 : decode cX5_lengthOf 12 = .ok (.iload_n 1, 1) := by decide +kernel
theorem dX5_lengthOf_13 : decode cX5_lengthOf 13 = .ok (.iaload, 1) := by decide +kernel
theorem dX5_lengthOf_14 : decode cX5_lengthOf 14 = .ok (.goto 6, 3) := by decide +kernel
theorem dX5_lengthOf_17 : decode cX5_lengthOf 17 = .ok (.sipush (-999), 3) := by decide +kernel
theorem dX5_lengthOf_20 : decode cX5_lengthOf 20 = .ok (.ireturn, 1) := by decide +kernel
theorem dX5_closedStreets_0 : decode cX5_closedStreets 0 = .ok (.iconst 0, 1) := by decide +kernel
theorem dX5_closedStreets_1 : decode cX5_closedStreets 1 = .ok (.istore_n 1, 1) := by decide +kernel
theorem dX5_closedStreets_2 : decode cX5_closedStreets 2 = .ok (.iconst 0, 1) := by decide +kernel
theorem dX5_closedStreets_3 : decode cX5_closedStreets 3 = .ok (.istore_n 2, 1) := by decide +kernel
theorem dX5_closedStreets_4 : decode cX5_closedStreets 4 = .ok (.iload_n 2, 1) := by decide +kernel
theorem dX5_closedStreets_5 : decode cX5_closedStreets 5 = .ok (.aload_n 0, 1) := by decide +kernel
theorem dX5_closedStreets_6 : decode cX5_closedStreets 6 = .ok (.getfield 15, 3) := by decide +kernel
theorem dX5_closedStreets_9 : decode cX5_closedStreets 9 = .ok (.if_icmp .ge 21, 3) := by decide +kernel
theorem dX5_closedStreets_12 : decode cX5_closedStreets 12 = .ok (.aload_n 0, 1) := by decide +kernel
theorem dX5_closedStreets_13 : decode cX5_closedStreets 13 = .ok (.getfield 34, 3) := by decide +kernel
theorem dX5_closedStreets_16 : decode cX5_closedStreets 16 = .ok (.iload_n 2, 1) := by decide +kernel
theorem dX5_closedStreets_17 : decode cX5_closedStreets 17 = .ok (.baload, 1) := by decide +kernel
theorem dX5_closedStreets_18 : decode cX5_closedStreets 18 = .ok (.ifCond .eq 6, 3) := by decide +kernel
theorem dX5_closedStreets_21 : decode cX5_closedStreets 21 = .ok (.iinc 1 1, 3) := by decide +kernel
theorem dX5_closedStreets_24 : decode cX5_closedStreets 24 = .ok (.iinc 2 1, 3) := by decide +kernel
theorem dX5_closedStreets_27 : decode cX5_closedStreets 27 = .ok (.goto (-23), 3) := by decide +kernel
theorem dX5_closedStreets_30 : decode cX5_closedStreets 30 = .ok (.iload_n 1, 1) := by decide +kernel
theorem dX5_closedStreets_31 : decode cX5_closedStreets 31 = .ok (.ireturn, 1) := by decide +kernel
theorem dX5_openStreetsAt_0 : decode cX5_openStreetsAt 0 = .ok (.iconst 0, 1) := by decide +kernel
theorem dX5_openStreetsAt_1 : decode cX5_openStreetsAt 1 = .ok (.istore_n 2, 1) := by decide +kernel
theorem dX5_openStreetsAt_2 : decode cX5_openStreetsAt 2 = .ok (.iconst 0, 1) := by decide +kernel
theorem dX5_openStreetsAt_3 : decode cX5_openStreetsAt 3 = .ok (.istore_n 3, 1) := by decide +kernel
theorem dX5_openStreetsAt_4 : decode cX5_openStreetsAt 4 = .ok (.iload_n 3, 1) := by decide +kernel
theorem dX5_openStreetsAt_5 : decode cX5_openStreetsAt 5 = .ok (.aload_n 0, 1) := by decide +kernel
theorem dX5_openStreetsAt_6 : decode cX5_openStreetsAt 6 = .ok (.getfield 15, 3) := by decide +kernel
theorem dX5_openStreetsAt_9 : decode cX5_openStreetsAt 9 = .ok (.if_icmp .ge 24, 3) := by decide +kernel
theorem dX5_openStreetsAt_12 : decode cX5_openStreetsAt 12 = .ok (.aload_n 0, 1) := by decide +kernel
theorem dX5_openStreetsAt_13 : decode cX5_openStreetsAt 13 = .ok (.iload_n 3, 1) := by decide +kernel
theorem dX5_openStreetsAt_14 : decode cX5_openStreetsAt 14 = .ok (.iload_n 1, 1) := by decide +kernel
theorem dX5_openStreetsAt_15 : decode cX5_openStreetsAt 15 = .ok (.invokevirtual 46, 3) := by decide +kernel
theorem dX5_openStreetsAt_18 : decode cX5_openStreetsAt 18 = .ok (.sipush (-999), 3) := by decide +kernel
theorem dX5_openStreetsAt_21 : decode cX5_openStreetsAt 21 = .ok (.if_icmp .eq 6, 3) := by decide +kernel
theorem dX5_openStreetsAt_24 : decode cX5_openStreetsAt 24 = .ok (.iinc 2 1, 3) := by decide +kernel
theorem dX5_openStreetsAt_27 : decode cX5_openStreetsAt 27 = .ok (.iinc 3 1, 3) := by decide +kernel
theorem dX5_openStreetsAt_30 : decode cX5_openStreetsAt 30 = .ok (.goto (-26), 3) := by decide +kernel
theorem dX5_openStreetsAt_33 : decode cX5_openStreetsAt 33 = .ok (.iload_n 2, 1) := by decide +kernel
theorem dX5_openStreetsAt_34 : decode cX5_openStreetsAt 34 = .ok (.ireturn, 1) := by decide +kernel
theorem dX5_streetJoining_0 : decode cX5_streetJoining 0 = .ok (.iconst 0, 1) := by decide +kernel
theorem dX5_streetJoining_1 : decode cX5_streetJoining 1 = .ok (.istore_n 3, 1) := by decide +kernel
theorem dX5_streetJoining_2 : decode cX5_streetJoining 2 = .ok (.iload_n 3, 1) := by decide +kernel
theorem dX5_streetJoining_3 : decode cX5_streetJoining 3 = .ok (.aload_n 0, 1) := by decide +kernel
theorem dX5_streetJoining_4 : decode cX5_streetJoining 4 = .ok (.getfield 15, 3) := by decide +kernel
theorem dX5_streetJoining_7 : decode cX5_streetJoining 7 = .ok (.if_icmp .ge 39, 3) := by decide +kernel
theorem dX5_streetJoining_10 : decode cX5_streetJoining 10 = .ok (.aload_n 0, 1) := by decide +kernel
theorem dX5_streetJoining_11 : decode cX5_streetJoining 11 = .ok (.getfield 24, 3) := by decide +kernel
theorem dX5_streetJoining_14 : decode cX5_streetJoining 14 = .ok (.iload_n 3, 1) := by decide +kernel
theorem dX5_streetJoining_15 : decode cX5_streetJoining 15 = .ok (.iaload, 1) := by decide +kernel
theorem dX5_streetJoining_16 : decode cX5_streetJoining 16 = .ok (.iload_n 1, 1) := by decide +kernel
theorem dX5_streetJoining_17 : decode cX5_streetJoining 17 = .ok (.iload_n 2, 1) := by decide +kernel
theorem dX5_streetJoining_18 : decode cX5_streetJoining 18 = .ok (.invokestatic 50, 3) := by decide +kernel
theorem dX5_streetJoining_21 : decode cX5_streetJoining 21 = .ok (.if_icmp .ne 19, 3) := by decide +kernel
theorem dX5_streetJoining_24 : decode cX5_streetJoining 24 = .ok (.aload_n 0, 1) := by decide +kernel
theorem dX5_streetJoining_25 : decode cX5_streetJoining 25 = .ok (.getfield 28, 3) := by decide +kernel
theorem dX5_streetJoining_28 : decode cX5_streetJoining 28 = .ok (.iload_n 3, 1) := by decide +kernel
theorem dX5_streetJoining_29 : decode cX5_streetJoining 29 = .ok (.iaload, 1) := by decide +kernel
theorem dX5_streetJoining_30 : decode cX5_streetJoining 30 = .ok (.iload_n 1, 1) := by decide +kernel
theorem dX5_streetJoining_31 : decode cX5_streetJoining 31 = .ok (.iload_n 2, 1) := by decide +kernel
theorem dX5_streetJoining_32 : decode cX5_streetJoining 32 = .ok (.invokestatic 55, 3) := by decide +kernel
theorem dX5_streetJoining_35 : decode cX5_streetJoining 35 = .ok (.if_icmp .ne 5, 3) := by decide +kernel
theorem dX5_streetJoining_38 : decode cX5_streetJoining 38 = .ok (.iload_n 3, 1) := by decide +kernel
theorem dX5_streetJoining_39 : decode cX5_streetJoining 39 = .ok (.ireturn, 1) := by decide +kernel
theorem dX5_streetJoining_40 : decode cX5_streetJoining 40 = .ok (.iinc 3 1, 3) := by decide +kernel
theorem dX5_streetJoining_43 : decode cX5_streetJoining 43 = .ok (.goto (-41), 3) := by decide +kernel
theorem dX5_streetJoining_46 : decode cX5_streetJoining 46 = .ok (.sipush (-999), 3) := by decide +kernel
theorem dX5_streetJoining_49 : decode cX5_streetJoining 49 = .ok (.ireturn, 1) := by decide +kernel
theorem dX5_reachedThrough_0 : decode cX5_reachedThrough 0 = .ok (.aload_n 0, 1) := by decide +kernel
theorem dX5_reachedThrough_1 : decode cX5_reachedThrough 1 = .ok (.iload_n 1, 1) := by decide +kernel
theorem dX5_reachedThrough_2 : decode cX5_reachedThrough 2 = .ok (.invokevirtual 42, 3) := by decide +kernel
theorem dX5_reachedThrough_5 : decode cX5_reachedThrough 5 = .ok (.ifCond .eq 12, 3) := by decide +kernel
theorem dX5_reachedThrough_8 : decode cX5_reachedThrough 8 = .ok (.aload_n 0, 1) := by decide +kernel
theorem dX5_reachedThrough_9 : decode cX5_reachedThrough 9 = .ok (.getfield 34, 3) := by decide +kernel
theorem dX5_reachedThrough_12 : decode cX5_reachedThrough 12 = .ok (.iload_n 1, 1) := by decide +kernel
theorem dX5_reachedThrough_13 : decode cX5_reachedThrough 13 = .ok (.baload, 1) := by decide +kernel
theorem dX5_reachedThrough_14 : decode cX5_reachedThrough 14 = .ok (.ifCond .eq 7, 3) := by decide +kernel
theorem dX5_reachedThrough_17 : decode cX5_reachedThrough 17 = .ok (.sipush (-999), 3) := by decide +kernel
theorem dX5_reachedThrough_20 : decode cX5_reachedThrough 20 = .ok (.ireturn, 1) := by decide +kernel
theorem dX5_reachedThrough_21 : decode cX5_reachedThrough 21 = .ok (.aload_n 0, 1) := by decide +kernel
theorem dX5_reachedThrough_22 : decode cX5_reachedThrough 22 = .ok (.getfield 24, 3) := by decide +kernel
theorem dX5_reachedThrough_25 : decode cX5_reachedThrough 25 = .ok (.iload_n 1, 1) := by decide +kernel
theorem dX5_reachedThrough_26 : decode cX5_reachedThrough 26 = .ok (.iaload, 1) := by decide +kernel
theorem dX5_reachedThrough_27 : decode cX5_reachedThrough 27 = .ok (.iload_n 2, 1) := by decide +kernel
theorem dX5_reachedThrough_28 : decode cX5_reachedThrough 28 = .ok (.if_icmp .ne 10, 3) := by decide +kernel
theorem dX5_reachedThrough_31 : decode cX5_reachedThrough 31 = .ok (.aload_n 0, 1) := by decide +kernel
theorem dX5_reachedThrough_32 : decode cX5_reachedThrough 32 = .ok (.getfield 28, 3) := by decide +kernel
theorem dX5_reachedThrough_35 : decode cX5_reachedThrough 35 = .ok (.iload_n 1, 1) := by decide +kernel
theorem dX5_reachedThrough_36 : decode cX5_reachedThrough 36 = .ok (.iaload, 1) := by decide +kernel
theorem dX5_reachedThrough_37 : decode cX5_reachedThrough 37 = .ok (.ireturn, 1) := by decide +kernel
theorem dX5_reachedThrough_38 : decode cX5_reachedThrough 38 = .ok (.aload_n 0, 1) := by decide +kernel
theorem dX5_reachedThrough_39 : decode cX5_reachedThrough 39 = .ok (.getfield 28, 3) := by decide +kernel
theorem dX5_reachedThrough_42 : decode cX5_reachedThrough 42 = .ok (.iload_n 1, 1) := by decide +kernel
theorem dX5_reachedThrough_43 : decode cX5_reachedThrough 43 = .ok (.iaload, 1) := by decide +kernel
theorem dX5_reachedThrough_44 : decode cX5_reachedThrough 44 = .ok (.iload_n 2, 1) := by decide +kernel
theorem dX5_reachedThrough_45 : decode cX5_reachedThrough 45 = .ok (.if_icmp .ne 12, 3) := by decide +kernel
theorem dX5_reachedThrough_48 : decode cX5_reachedThrough 48 = .ok (.aload_n 0, 1) := by decide +kernel
theorem dX5_reachedThrough_49 : decode cX5_reachedThrough 49 = .ok (.getfield 24, 3) := by decide +kernel
theorem dX5_reachedThrough_52 : decode cX5_reachedThrough 52 = .ok (.iload_n 1, 1) := by decide +kernel
theorem dX5_reachedThrough_53 : decode cX5_reachedThrough 53 = .ok (.iaload, 1) := by decide +kernel
theorem dX5_reachedThrough_54 : decode cX5_reachedThrough 54 = .ok (.goto 6, 3) := by decide +kernel
theorem dX5_reachedThrough_57 : decode cX5_reachedThrough 57 = .ok (.sipush (-999), 3) := by decide +kernel
theorem dX5_reachedThrough_60 : decode cX5_reachedThrough 60 = .ok (.ireturn, 1) := by decide +kernel
theorem dX5_isJoinedWithAllOthers_0 : decode cX5_isJoinedWithAllOthers 0 = .ok (.iconst 0, 1) := by decide +kernel
theorem dX5_isJoinedWithAllOthers_1 : decode cX5_isJoinedWithAllOthers 1 = .ok (.istore_n 2, 1) := by decide +kernel
theorem dX5_isJoinedWithAllOthers_2 : decode cX5_isJoinedWithAllOthers 2 = .ok (.iconst 0, 1) := by decide +kernel
theorem dX5_isJoinedWithAllOthers_3 : decode cX5_isJoinedWithAllOthers 3 = .ok (.istore_n 3, 1) := by decide +kernel
theorem dX5_isJoinedWithAllOthers_4 : decode cX5_isJoinedWithAllOthers 4 = .ok (.iload_n 3, 1) := by decide +kernel
theorem dX5_isJoinedWithAllOthers_5 : decode cX5_isJoinedWithAllOthers 5 = .ok (.aload_n 0, 1) := by decide +kernel
theorem dX5_isJoinedWithAllOthers_6 : decode cX5_isJoinedWithAllOthers 6 = .ok (.getfield 15, 3) := by decide +kernel
theorem dX5_isJoinedWithAllOthers_9 : decode cX5_isJoinedWithAllOthers 9 = .ok (.if_icmp .ge 32, 3) := by decide +kernel
theorem dX5_isJoinedWithAllOthers_12 : decode cX5_isJoinedWithAllOthers 12 = .ok (.aload_n 0, 1) := by decide +kernel
theorem dX5_isJoinedWithAllOthers_13 : decode cX5_isJoinedWithAllOthers 13 = .ok (.getfield 24, 3) := by decide +kernel
theorem dX5_isJoinedWithAllOthers_16 : decode cX5_isJoinedWithAllOthers 16 = .ok (.iload_n 3, 1) := by decide +kernel
theorem dX5_isJoinedWithAllOthers_17 : decode cX5_isJoinedWithAllOthers 17 = .ok (.iaload, 1) := by decide +kernel
theorem dX5_isJoinedWithAllOthers_18 : decode cX5_isJoinedWithAllOthers 18 = .ok (.iload_n 1, 1) := by decide +kernel
theorem dX5_isJoinedWithAllOthers_19 : decode cX5_isJoinedWithAllOthers 19 = .ok (.if_icmp .eq 13, 3) := by decide +kernel
theorem dX5_isJoinedWithAllOthers_22 : decode cX5_isJoinedWithAllOthers 22 = .ok (.aload_n 0, 1) := by decide +kernel
theorem dX5_isJoinedWithAllOthers_23 : decode cX5_isJoinedWithAllOthers 23 = .ok (.getfield 28, 3) := by decide +kernel
theorem dX5_isJoinedWithAllOthers_26 : decode cX5_isJoinedWithAllOthers 26 = .ok (.iload_n 3, 1) := by decide +kernel
theorem dX5_isJoinedWithAllOthers_27 : decode cX5_isJoinedWithAllOthers 27 = .ok (.iaload, 1) := by decide +kernel
theorem dX5_isJoinedWithAllOthers_28 : decode cX5_isJoinedWithAllOthers 28 = .ok (.iload_n 1, 1) := by decide +kernel
theorem dX5_isJoinedWithAllOthers_29 : decode cX5_isJoinedWithAllOthers 29 = .ok (.if_icmp .ne 6, 3) := by decide +kernel
theorem dX5_isJoinedWithAllOthers_32 : decode cX5_isJoinedWithAllOthers 32 = .ok (.iinc 2 1, 3) := by decide +kernel
theorem dX5_isJoinedWithAllOthers_35 : decode cX5_isJoinedWithAllOthers 35 = .ok (.iinc 3 1, 3) := by decide +kernel
theorem dX5_isJoinedWithAllOthers_38 : decode cX5_isJoinedWithAllOthers 38 = .ok (.goto (-34), 3) := by decide +kernel
theorem dX5_isJoinedWithAllOthers_41 : decode cX5_isJoinedWithAllOthers 41 = .ok (.iload_n 2, 1) := by decide +kernel
theorem dX5_isJoinedWithAllOthers_42 : decode cX5_isJoinedWithAllOthers 42 = .ok (.aload_n 0, 1) := by decide +kernel
theorem dX5_isJoinedWithAllOthers_43 : decode cX5_isJoinedWithAllOthers 43 = .ok (.getfield 9, 3) := by decide +kernel
theorem dX5_isJoinedWithAllOthers_46 : decode cX5_isJoinedWithAllOthers 46 = .ok (.iconst 1, 1) := by decide +kernel
theorem dX5_isJoinedWithAllOthers_47 : decode cX5_isJoinedWithAllOthers 47 = .ok (.isub, 1) := by decide +kernel
theorem dX5_isJoinedWithAllOthers_48 : decode cX5_isJoinedWithAllOthers 48 = .ok (.if_icmp .lt 7, 3) := by decide +kernel
theorem dX5_isJoinedWithAllOthers_51 : decode cX5_isJoinedWithAllOthers 51 = .ok (.iconst 1, 1) := by decide +kernel
theorem dX5_isJoinedWithAllOthers_52 : decode cX5_isJoinedWithAllOthers 52 = .ok (.goto 4, 3) := by decide +kernel
theorem dX5_isJoinedWithAllOthers_55 : decode cX5_isJoinedWithAllOthers 55 = .ok (.iconst 0, 1) := by decide +kernel
theorem dX5_isJoinedWithAllOthers_56 : decode cX5_isJoinedWithAllOthers 56 = .ok (.ireturn, 1) := by decide +kernel
theorem dX5_takesNoStreet_0 : decode cX5_takesNoStreet 0 = .ok (.aload_n 0, 1) := by decide +kernel
theorem dX5_takesNoStreet_1 : decode cX5_takesNoStreet 1 = .ok (.getfield 15, 3) := by decide +kernel
theorem dX5_takesNoStreet_4 : decode cX5_takesNoStreet 4 = .ok (.bipush 20, 2) := by decide +kernel
theorem dX5_takesNoStreet_6 : decode cX5_takesNoStreet 6 = .ok (.if_icmp .ge 23, 3) := by decide +kernel
theorem dX5_takesNoStreet_9 : decode cX5_takesNoStreet 9 = .ok (.aload_n 0, 1) := by decide +kernel
theorem dX5_takesNoStreet_10 : decode cX5_takesNoStreet 10 = .ok (.getfield 15, 3) := by decide +kernel
theorem dX5_takesNoStreet_13 : decode cX5_takesNoStreet 13 = .ok (.aload_n 0, 1) := by decide +kernel
theorem dX5_takesNoStreet_14 : decode cX5_takesNoStreet 14 = .ok (.getfield 9, 3) := by decide +kernel
theorem dX5_takesNoStreet_17 : decode cX5_takesNoStreet 17 = .ok (.aload_n 0, 1) := by decide +kernel
theorem dX5_takesNoStreet_18 : decode cX5_takesNoStreet 18 = .ok (.getfield 9, 3) := by decide +kernel
theorem dX5_takesNoStreet_21 : decode cX5_takesNoStreet 21 = .ok (.iconst 1, 1) := by decide +kernel
theorem dX5_takesNoStreet_22 : decode cX5_takesNoStreet 22 = .ok (.isub, 1) := by decide +kernel
theorem dX5_takesNoStreet_23 : decode cX5_takesNoStreet 23 = .ok (.imul, 1) := by decide +kernel
theorem dX5_takesNoStreet_24 : decode cX5_takesNoStreet 24 = .ok (.iconst 2, 1) := by decide +kernel
theorem dX5_takesNoStreet_25 : decode cX5_takesNoStreet 25 = .ok (.idiv, 1) := by decide +kernel
theorem dX5_takesNoStreet_26 : decode cX5_takesNoStreet 26 = .ok (.if_icmp .lt 7, 3) := by decide +kernel
theorem dX5_takesNoStreet_29 : decode cX5_takesNoStreet 29 = .ok (.iconst 1, 1) := by decide +kernel
theorem dX5_takesNoStreet_30 : decode cX5_takesNoStreet 30 = .ok (.goto 4, 3) := by decide +kernel
theorem dX5_takesNoStreet_33 : decode cX5_takesNoStreet 33 = .ok (.iconst 0, 1) := by decide +kernel
theorem dX5_takesNoStreet_34 : decode cX5_takesNoStreet 34 = .ok (.ireturn, 1) := by decide +kernel
theorem dX5_refusalOfPair_0 : decode cX5_refusalOfPair 0 = .ok (.aload_n 0, 1) := by decide +kernel
theorem dX5_refusalOfPair_1 : decode cX5_refusalOfPair 1 = .ok (.iload_n 1, 1) := by decide +kernel
theorem dX5_refusalOfPair_2 : decode cX5_refusalOfPair 2 = .ok (.invokevirtual 58, 3) := by decide +kernel
theorem dX5_refusalOfPair_5 : decode cX5_refusalOfPair 5 = .ok (.ifCond .eq 11, 3) := by decide +kernel
theorem dX5_refusalOfPair_8 : decode cX5_refusalOfPair 8 = .ok (.aload_n 0, 1) := by decide +kernel
theorem dX5_refusalOfPair_9 : decode cX5_refusalOfPair 9 = .ok (.iload_n 2, 1) := by decide +kernel
theorem dX5_refusalOfPair_10 : decode cX5_refusalOfPair 10 = .ok (.invokevirtual 58, 3) := by decide +kernel
theorem dX5_refusalOfPair_13 : decode cX5_refusalOfPair 13 = .ok (.ifCond .ne 5, 3) := by decide +kernel
theorem dX5_refusalOfPair_16 : decode cX5_refusalOfPair 16 = .ok (.iconst 1, 1) := by decide +kernel
theorem dX5_refusalOfPair_17 : decode cX5_refusalOfPair 17 = .ok (.ireturn, 1) := by decide +kernel
theorem dX5_refusalOfPair_18 : decode cX5_refusalOfPair 18 = .ok (.iload_n 1, 1) := by decide +kernel
theorem dX5_refusalOfPair_19 : decode cX5_refusalOfPair 19 = .ok (.iload_n 2, 1) := by decide +kernel
theorem dX5_refusalOfPair_20 : decode cX5_refusalOfPair 20 = .ok (.if_icmp .ne 7, 3) := by decide +kernel
theorem dX5_refusalOfPair_23 : decode cX5_refusalOfPair 23 = .ok (.iconst 2, 1) := by decide +kernel
theorem dX5_refusalOfPair_24 : decode cX5_refusalOfPair 24 = .ok (.goto 4, 3) := by decide +kernel
theorem dX5_refusalOfPair_27 : decode cX5_refusalOfPair 27 = .ok (.iconst 0, 1) := by decide +kernel
theorem dX5_refusalOfPair_28 : decode cX5_refusalOfPair 28 = .ok (.ireturn, 1) := by decide +kernel
theorem dX5_grow_0 : decode cX5_grow 0 = .ok (.aload_n 0, 1) := by decide +kernel
theorem dX5_grow_1 : decode cX5_grow 1 = .ok (.getfield 9, 3) := by decide +kernel
theorem dX5_grow_4 : decode cX5_grow 4 = .ok (.bipush 9, 2) := by decide +kernel
theorem dX5_grow_6 : decode cX5_grow 6 = .ok (.if_icmp .lt 5, 3) := by decide +kernel
theorem dX5_grow_9 : decode cX5_grow 9 = .ok (.iconst 3, 1) := by decide +kernel
theorem dX5_grow_10 : decode cX5_grow 10 = .ok (.ireturn, 1) := by decide +kernel
theorem dX5_grow_11 : decode cX5_grow 11 = .ok (.aload_n 0, 1) := by decide +kernel
theorem dX5_grow_12 : decode cX5_grow 12 = .ok (.dup, 1) := by decide +kernel
theorem dX5_grow_13 : decode cX5_grow 13 = .ok (.getfield 9, 3) := by decide +kernel
theorem dX5_grow_16 : decode cX5_grow 16 = .ok (.iconst 1, 1) := by decide +kernel
theorem dX5_grow_17 : decode cX5_grow 17 = .ok (.iadd, 1) := by decide +kernel
theorem dX5_grow_18 : decode cX5_grow 18 = .ok (.putfield 9, 3) := by decide +kernel
theorem dX5_grow_21 : decode cX5_grow 21 = .ok (.iconst 0, 1) := by decide +kernel
theorem dX5_grow_22 : decode cX5_grow 22 = .ok (.ireturn, 1) := by decide +kernel
theorem dX5_join_0 : decode cX5_join 0 = .ok (.aload_n 0, 1) := by decide +kernel
theorem dX5_join_1 : decode cX5_join 1 = .ok (.iload_n 1, 1) := by decide +kernel
theorem dX5_join_2 : decode cX5_join 2 = .ok (.iload_n 2, 1) := by decide +kernel
theorem dX5_join_3 : decode cX5_join 3 = .ok (.invokevirtual 61, 3) := by decide +kernel
theorem dX5_join_6 : decode cX5_join 6 = .ok (.istore 4, 2) := by decide +kernel
theorem dX5_join_8 : decode cX5_join 8 = .ok (.iload 4, 2) := by decide +kernel
theorem dX5_join_10 : decode cX5_join 10 = .ok (.ifCond .ne 9, 3) := by decide +kernel
theorem dX5_join_13 : decode cX5_join 13 = .ok (.iload_n 3, 1) := by decide +kernel
theorem dX5_join_14 : decode cX5_join 14 = .ok (.invokestatic 64, 3) := by decide +kernel
theorem dX5_join_17 : decode cX5_join 17 = .ok (.istore 4, 2) := by decide +kernel
theorem dX5_join_19 : decode cX5_join 19 = .ok (.iload 4, 2) := by decide +kernel
theorem dX5_join_21 : decode cX5_join 21 = .ok (.ifCond .ne 27, 3) := by decide +kernel
theorem dX5_join_24 : decode cX5_join 24 = .ok (.aload_n 0, 1) := by decide +kernel
theorem dX5_join_25 : decode cX5_join 25 = .ok (.getfield 15, 3) := by decide +kernel
theorem dX5_join_28 : decode cX5_join 28 = .ok (.bipush 20, 2) := by decide +kernel
theorem dX5_join_30 : decode cX5_join 30 = .ok (.if_icmp .ge 15, 3) := by decide +kernel
theorem dX5_join_33 : decode cX5_join 33 = .ok (.aload_n 0, 1) := by decide +kernel
theorem dX5_join_34 : decode cX5_join 34 = .ok (.iload_n 1, 1) := by decide +kernel
theorem dX5_join_35 : decode cX5_join 35 = .ok (.iload_n 2, 1) := by decide +kernel
theorem dX5_join_36 : decode cX5_join 36 = .ok (.invokevirtual 68, 3) := by decide +kernel
theorem dX5_join_39 : decode cX5_join 39 = .ok (.sipush (-999), 3) := by decide +kernel
theorem dX5_join_42 : decode cX5_join 42 = .ok (.if_icmp .eq 6, 3) := by decide +kernel
theorem dX5_join_45 : decode cX5_join 45 = .ok (.iconst 3, 1) := by decide +kernel
theorem dX5_join_46 : decode cX5_join 46 = .ok (.istore 4, 2) := by decide +kernel
theorem dX5_join_48 : decode cX5_join 48 = .ok (.iload 4, 2) := by decide +kernel
theorem dX5_join_50 : decode cX5_join 50 = .ok (.ifCond .ne 10, 3) := by decide +kernel
theorem dX5_join_53 : decode cX5_join 53 = .ok (.aload_n 0, 1) := by decide +kernel
theorem dX5_join_54 : decode cX5_join 54 = .ok (.iload_n 1, 1) := by decide +kernel
theorem dX5_join_55 : decode cX5_join 55 = .ok (.iload_n 2, 1) := by decide +kernel
theorem dX5_join_56 : decode cX5_join 56 = .ok (.iload_n 3, 1) := by decide +kernel
theorem dX5_join_57 : decode cX5_join 57 = .ok (.invokevirtual 71, 3) := by decide +kernel
theorem dX5_join_60 : decode cX5_join 60 = .ok (.iload 4, 2) := by decide +kernel
theorem dX5_join_62 : decode cX5_join 62 = .ok (.ireturn, 1) := by decide +kernel
theorem dX5_replace_0 : decode cX5_replace 0 = .ok (.aload_n 0, 1) := by decide +kernel
theorem dX5_replace_1 : decode cX5_replace 1 = .ok (.iload_n 1, 1) := by decide +kernel
theorem dX5_replace_2 : decode cX5_replace 2 = .ok (.iload_n 2, 1) := by decide +kernel
theorem dX5_replace_3 : decode cX5_replace 3 = .ok (.invokevirtual 68, 3) := by decide +kernel
theorem dX5_replace_6 : decode cX5_replace 6 = .ok (.istore 4, 2) := by decide +kernel
theorem dX5_replace_8 : decode cX5_replace 8 = .ok (.iload 4, 2) := by decide +kernel
theorem dX5_replace_10 : decode cX5_replace 10 = .ok (.sipush (-999), 3) := by decide +kernel
theorem dX5_replace_13 : decode cX5_replace 13 = .ok (.if_icmp .ne 28, 3) := by decide +kernel
theorem dX5_replace_16 : decode cX5_replace 16 = .ok (.aload_n 0, 1) := by decide +kernel
theorem dX5_replace_17 : decode cX5_replace 17 = .ok (.getfield 15, 3) := by decide +kernel
theorem dX5_replace_20 : decode cX5_replace 20 = .ok (.bipush 21, 2) := by decide +kernel
theorem dX5_replace_22 : decode cX5_replace 22 = .ok (.if_icmp .ge 19, 3) := by decide +kernel
theorem dX5_replace_25 : decode cX5_replace 25 = .ok (.aload_n 0, 1) := by decide +kernel
theorem dX5_replace_26 : decode cX5_replace 26 = .ok (.getfield 15, 3) := by decide +kernel
theorem dX5_replace_29 : decode cX5_replace 29 = .ok (.istore 4, 2) := by decide +kernel
theorem dX5_replace_31 : decode cX5_replace 31 = .ok (.aload_n 0, 1) := by decide +kernel
theorem dX5_replace_32 : decode cX5_replace 32 = .ok (.dup, 1) := by decide +kernel
theorem dX5_replace_33 : decode cX5_replace 33 = .ok (.getfield 15, 3) := by decide +kernel
theorem dX5_replace_36 : decode cX5_replace 36 = .ok (.iconst 1, 1) := by decide +kernel
theorem dX5_replace_37 : decode cX5_replace 37 = .ok (.iadd, 1) := by decide +kernel
theorem dX5_replace_38 : decode cX5_replace 38 = .ok (.putfield 15, 3) := by decide +kernel
theorem dX5_replace_41 : decode cX5_replace 41 = .ok (.aload_n 0, 1) := by decide +kernel
theorem dX5_replace_42 : decode cX5_replace 42 = .ok (.iload 4, 2) := by decide +kernel
theorem dX5_replace_44 : decode cX5_replace 44 = .ok (.invokevirtual 42, 3) := by decide +kernel
theorem dX5_replace_47 : decode cX5_replace 47 = .ok (.ifCond .eq 43, 3) := by decide +kernel
theorem dX5_replace_50 : decode cX5_replace 50 = .ok (.aload_n 0, 1) := by decide +kernel
theorem dX5_replace_51 : decode cX5_replace 51 = .ok (.getfield 24, 3) := by decide +kernel
theorem dX5_replace_54 : decode cX5_replace 54 = .ok (.iload 4, 2) := by decide +kernel
theorem dX5_replace_56 : decode cX5_replace 56 = .ok (.iload_n 1, 1) := by decide +kernel
theorem dX5_replace_57 : decode cX5_replace 57 = .ok (.iload_n 2, 1) := by decide +kernel
theorem dX5_replace_58 : decode cX5_replace 58 = .ok (.invokestatic 50, 3) := by decide +kernel
theorem dX5_replace_61 : decode cX5_replace 61 = .ok (.iastore, 1) := by decide +kernel
theorem dX5_replace_62 : decode cX5_replace 62 = .ok (.aload_n 0, 1) := by decide +kernel
theorem dX5_replace_63 : decode cX5_replace 63 = .ok (.getfield 28, 3) := by decide +kernel
theorem dX5_replace_66 : decode cX5_replace 66 = .ok (.iload 4, 2) := by decide +kernel
theorem dX5_replace_68 : decode cX5_replace 68 = .ok (.iload_n 1, 1) := by decide +kernel
theorem dX5_replace_69 : decode cX5_replace 69 = .ok (.iload_n 2, 1) := by decide +kernel
theorem dX5_replace_70 : decode cX5_replace 70 = .ok (.invokestatic 55, 3) := by decide +kernel
theorem dX5_replace_73 : decode cX5_replace 73 = .ok (.iastore, 1) := by decide +kernel
theorem dX5_replace_74 : decode cX5_replace 74 = .ok (.aload_n 0, 1) := by decide +kernel
theorem dX5_replace_75 : decode cX5_replace 75 = .ok (.getfield 31, 3) := by decide +kernel
theorem dX5_replace_78 : decode cX5_replace 78 = .ok (.iload 4, 2) := by decide +kernel
theorem dX5_replace_80 : decode cX5_replace 80 = .ok (.iload_n 3, 1) := by decide +kernel
theorem dX5_replace_81 : decode cX5_replace 81 = .ok (.iastore, 1) := by decide +kernel
theorem dX5_replace_82 : decode cX5_replace 82 = .ok (.aload_n 0, 1) := by decide +kernel
theorem dX5_replace_83 : decode cX5_replace 83 = .ok (.getfield 34, 3) := by decide +kernel
theorem dX5_replace_86 : decode cX5_replace 86 = .ok (.iload 4, 2) := by decide +kernel
theorem dX5_replace_88 : decode cX5_replace 88 = .ok (.iconst 0, 1) := by decide +kernel
theorem dX5_replace_89 : decode cX5_replace 89 = .ok (.bastore, 1) := by decide +kernel
theorem dX5_replace_90 : decode cX5_replace 90 = .ok (.return_, 1) := by decide +kernel
theorem dX5_takeAway_0 : decode cX5_takeAway 0 = .ok (.aload_n 0, 1) := by decide +kernel
theorem dX5_takeAway_1 : decode cX5_takeAway 1 = .ok (.iload_n 1, 1) := by decide +kernel
theorem dX5_takeAway_2 : decode cX5_takeAway 2 = .ok (.invokevirtual 42, 3) := by decide +kernel
theorem dX5_takeAway_5 : decode cX5_takeAway 5 = .ok (.ifCond .ne 5, 3) := by decide +kernel
theorem dX5_takeAway_8 : decode cX5_takeAway 8 = .ok (.iconst 1, 1) := by decide +kernel
theorem dX5_takeAway_9 : decode cX5_takeAway 9 = .ok (.ireturn, 1) := by decide +kernel
theorem dX5_takeAway_10 : decode cX5_takeAway 10 = .ok (.aload_n 0, 1) := by decide +kernel
theorem dX5_takeAway_11 : decode cX5_takeAway 11 = .ok (.dup, 1) := by decide +kernel
theorem dX5_takeAway_12 : decode cX5_takeAway 12 = .ok (.getfield 15, 3) := by decide +kernel
theorem dX5_takeAway_15 : decode cX5_takeAway 15 = .ok (.iconst 1, 1) := by decide +kernel
theorem dX5_takeAway_16 : decode cX5_takeAway 16 = .ok (.isub, 1) := by decide +kernel
theorem dX5_takeAway_17 : decode cX5_takeAway 17 = .ok (.putfield 15, 3) := by decide +kernel
theorem dX5_takeAway_20 : decode cX5_takeAway 20 = .ok (.iload_n 1, 1) := by decide +kernel
theorem dX5_takeAway_21 : decode cX5_takeAway 21 = .ok (.istore_n 2, 1) := by decide +kernel
theorem dX5_takeAway_22 : decode cX5_takeAway 22 = .ok (.iload_n 2, 1) := by decide +kernel
theorem dX5_takeAway_23 : decode cX5_takeAway 23 = .ok (.aload_n 0, 1) := by decide +kernel
theorem dX5_takeAway_24 : decode cX5_takeAway 24 = .ok (.getfield 15, 3) := by decide +kernel
theorem dX5_takeAway_27 : decode cX5_takeAway 27 = .ok (.if_icmp .ge 18, 3) := by decide +kernel
theorem dX5_takeAway_30 : decode cX5_takeAway 30 = .ok (.aload_n 0, 1) := by decide +kernel
theorem dX5_takeAway_31 : decode cX5_takeAway 31 = .ok (.aload_n 0, 1) := by decide +kernel
theorem dX5_takeAway_32 : decode cX5_takeAway 32 = .ok (.iload_n 2, 1) := by decide +kernel
theorem dX5_takeAway_33 : decode cX5_takeAway 33 = .ok (.iconst 1, 1) := by decide +kernel
theorem dX5_takeAway_34 : decode cX5_takeAway 34 = .ok (.iadd, 1) := by decide +kernel
theorem dX5_takeAway_35 : decode cX5_takeAway 35 = .ok (.iload_n 2, 1) := by decide +kernel
theorem dX5_takeAway_36 : decode cX5_takeAway 36 = .ok (.invokevirtual 38, 3) := by decide +kernel
theorem dX5_takeAway_39 : decode cX5_takeAway 39 = .ok (.iinc 2 1, 3) := by decide +kernel
theorem dX5_takeAway_42 : decode cX5_takeAway 42 = .ok (.goto (-20), 3) := by decide +kernel
theorem dX5_takeAway_45 : decode cX5_takeAway 45 = .ok (.iconst 0, 1) := by decide +kernel
theorem dX5_takeAway_46 : decode cX5_takeAway 46 = .ok (.ireturn, 1) := by decide +kernel
theorem dX5_stretch_0 : decode cX5_stretch 0 = .ok (.aload_n 0, 1) := by decide +kernel
theorem dX5_stretch_1 : decode cX5_stretch 1 = .ok (.iload_n 1, 1) := by decide +kernel
theorem dX5_stretch_2 : decode cX5_stretch 2 = .ok (.invokevirtual 42, 3) := by decide +kernel
theorem dX5_stretch_5 : decode cX5_stretch 5 = .ok (.ifCond .ne 5, 3) := by decide +kernel
theorem dX5_stretch_8 : decode cX5_stretch 8 = .ok (.iconst 1, 1) := by decide +kernel
theorem dX5_stretch_9 : decode cX5_stretch 9 = .ok (.ireturn, 1) := by decide +kernel
theorem dX5_stretch_10 : decode cX5_stretch 10 = .ok (.iload_n 2, 1) := by decide +kernel
theorem dX5_stretch_11 : decode cX5_stretch 11 = .ok (.invokestatic 64, 3) := by decide +kernel
theorem dX5_stretch_14 : decode cX5_stretch 14 = .ok (.istore_n 3, 1) := by decide +kernel
theorem dX5_stretch_15 : decode cX5_stretch 15 = .ok (.iload_n 3, 1) := by decide +kernel
theorem dX5_stretch_16 : decode cX5_stretch 16 = .ok (.ifCond .ne 10, 3) := by decide +kernel
theorem dX5_stretch_19 : decode cX5_stretch 19 = .ok (.aload_n 0, 1) := by decide +kernel
theorem dX5_stretch_20 : decode cX5_stretch 20 = .ok (.getfield 31, 3) := by decide +kernel
theorem dX5_stretch_23 : decode cX5_stretch 23 = .ok (.iload_n 1, 1) := by decide +kernel
theorem dX5_stretch_24 : decode cX5_stretch 24 = .ok (.iload_n 2, 1) := by decide +kernel
theorem dX5_stretch_25 : decode cX5_stretch 25 = .ok (.iastore, 1) := by decide +kernel
theorem dX5_stretch_26 : decode cX5_stretch 26 = .ok (.iload_n 3, 1) := by decide +kernel
theorem dX5_stretch_27 : decode cX5_stretch 27 = .ok (.ireturn, 1) := by decide +kernel
theorem dX5_shut_0 : decode cX5_shut 0 = .ok (.aload_n 0, 1) := by decide +kernel
theorem dX5_shut_1 : decode cX5_shut 1 = .ok (.iload_n 1, 1) := by decide +kernel
theorem dX5_shut_2 : decode cX5_shut 2 = .ok (.invokevirtual 42, 3) := by decide +kernel
theorem dX5_shut_5 : decode cX5_shut 5 = .ok (.ifCond .ne 5, 3) := by decide +kernel
theorem dX5_shut_8 : decode cX5_shut 8 = .ok (.iconst 1, 1) := by decide +kernel
theorem dX5_shut_9 : decode cX5_shut 9 = .ok (.ireturn, 1) := by decide +kernel
theorem dX5_shut_10 : decode cX5_shut 10 = .ok (.aload_n 0, 1) := by decide +kernel
theorem dX5_shut_11 : decode cX5_shut 11 = .ok (.getfield 34, 3) := by decide +kernel
theorem dX5_shut_14 : decode cX5_shut 14 = .ok (.iload_n 1, 1) := by decide +kernel
theorem dX5_shut_15 : decode cX5_shut 15 = .ok (.iload_n 2, 1) := by decide +kernel
theorem dX5_shut_16 : decode cX5_shut 16 = .ok (.bastore, 1) := by decide +kernel
theorem dX5_shut_17 : decode cX5_shut 17 = .ok (.iconst 0, 1) := by decide +kernel
theorem dX5_shut_18 : decode cX5_shut 18 = .ok (.ireturn, 1) := by decide +kernel
theorem dX5_direct_0 : decode cX5_direct 0 = .ok (.aload_n 0, 1) := by decide +kernel
theorem dX5_direct_1 : decode cX5_direct 1 = .ok (.iload_n 1, 1) := by decide +kernel
theorem dX5_direct_2 : decode cX5_direct 2 = .ok (.iload_n 2, 1) := by decide +kernel
theorem dX5_direct_3 : decode cX5_direct 3 = .ok (.invokevirtual 61, 3) := by decide +kernel
theorem dX5_direct_6 : decode cX5_direct 6 = .ok (.istore_n 3, 1) := by decide +kernel
theorem dX5_direct_7 : decode cX5_direct 7 = .ok (.iload_n 3, 1) := by decide +kernel
theorem dX5_direct_8 : decode cX5_direct 8 = .ok (.ifCond .ne 13, 3) := by decide +kernel
theorem dX5_direct_11 : decode cX5_direct 11 = .ok (.aload_n 0, 1) := by decide +kernel
theorem dX5_direct_12 : decode cX5_direct 12 = .ok (.iload_n 1, 1) := by decide +kernel
theorem dX5_direct_13 : decode cX5_direct 13 = .ok (.putfield 18, 3) := by decide +kernel
theorem dX5_direct_16 : decode cX5_direct 16 = .ok (.aload_n 0, 1) := by decide +kernel
theorem dX5_direct_17 : decode cX5_direct 17 = .ok (.iload_n 2, 1) := by decide +kernel
theorem dX5_direct_18 : decode cX5_direct 18 = .ok (.putfield 21, 3) := by decide +kernel
theorem dX5_direct_21 : decode cX5_direct 21 = .ok (.iload_n 3, 1) := by decide +kernel
theorem dX5_direct_22 : decode cX5_direct 22 = .ok (.ireturn, 1) := by decide +kernel
theorem dX6_init_0 : decode cX6_init 0 = .ok (.aload_n 0, 1) := by decide +kernel
theorem dX6_init_1 : decode cX6_init 1 = .ok (.invokespecial 3, 3) := by decide +kernel
theorem dX6_init_4 : decode cX6_init 4 = .ok (.aload_n 0, 1) := by decide +kernel
theorem dX6_init_5 : decode cX6_init 5 = .ok (.iconst 0, 1) := by decide +kernel
theorem dX6_init_6 : decode cX6_init 6 = .ok (.putfield 9, 3) := by decide +kernel
theorem dX6_init_9 : decode cX6_init 9 = .ok (.return_, 1) := by decide +kernel
theorem dX6_errorIn_0 : decode cX6_errorIn 0 = .ok (.aload_n 0, 1) := by decide +kernel
theorem dX6_errorIn_1 : decode cX6_errorIn 1 = .ok (.iconst 0, 1) := by decide +kernel
theorem dX6_errorIn_2 : decode cX6_errorIn 2 = .ok (.putfield 9, 3) := by decide +kernel
theorem dX6_errorIn_5 : decode cX6_errorIn 5 = .ok (.aload_n 0, 1) := by decide +kernel
theorem dX6_errorIn_6 : decode cX6_errorIn 6 = .ok (.aload_n 1, 1) := by decide +kernel
theorem dX6_errorIn_7 : decode cX6_errorIn 7 = .ok (.aload_n 2, 1) := by decide +kernel
theorem dX6_errorIn_8 : decode cX6_errorIn 8 = .ok (.invokevirtual 15, 3) := by decide +kernel
theorem dX6_errorIn_11 : decode cX6_errorIn 11 = .ok (.ifCond .ne 8, 3) := by decide +kernel
theorem dX6_errorIn_14 : decode cX6_errorIn 14 = .ok (.aload_n 0, 1) := by decide +kernel
theorem dX6_errorIn_15 : decode cX6_errorIn 15 = .ok (.getfield 9, 3) := by decide +kernel
theorem dX6_errorIn_18 : decode cX6_errorIn 18 = .ok (.ireturn, 1) := by decide +kernel
theorem dX6_errorIn_19 : decode cX6_errorIn 19 = .ok (.iconst 0, 1) := by decide +kernel
theorem dX6_errorIn_20 : decode cX6_errorIn 20 = .ok (.istore_n 3, 1) := by decide +kernel
theorem dX6_errorIn_21 : decode cX6_errorIn 21 = .ok (.iload_n 3, 1) := by decide +kernel
theorem dX6_errorIn_22 : decode cX6_errorIn 22 = .ok (.bipush 20, 2) := by decide +kernel
theorem dX6_errorIn_24 : decode cX6_errorIn 24 = .ok (.if_icmp .gt 34, 3) := by decide +kernel
theorem dX6_errorIn_27 : decode cX6_errorIn 27 = .ok (.aload_n 0, 1) := by decide +kernel
theorem dX6_errorIn_28 : decode cX6_errorIn 28 = .ok (.getfield 9, 3) := by decide +kernel
theorem dX6_errorIn_31 : decode cX6_errorIn 31 = .ok (.aload_n 1, 1) := by decide +kernel
theorem dX6_errorIn_32 : decode cX6_errorIn 32 = .ok (.getfield 19, 3) := by decide +kernel
theorem dX6_errorIn_35 : decode cX6_errorIn 35 = .ok (.if_icmp .ge 23, 3) := by decide +kernel
theorem dX6_errorIn_38 : decode cX6_errorIn 38 = .ok (.aload_n 0, 1) := by decide +kernel
theorem dX6_errorIn_39 : decode cX6_errorIn 39 = .ok (.aload_n 1, 1) := by decide +kernel
theorem dX6_errorIn_40 : decode cX6_errorIn 40 = .ok (.aload_n 2, 1) := by decide +kernel
theorem dX6_errorIn_41 : decode cX6_errorIn 41 = .ok (.invokevirtual 24, 3) := by decide +kernel
theorem dX6_errorIn_44 : decode cX6_errorIn 44 = .ok (.ifCond .ne 8, 3) := by decide +kernel
theorem dX6_errorIn_47 : decode cX6_errorIn 47 = .ok (.aload_n 0, 1) := by decide +kernel
theorem dX6_errorIn_48 : decode cX6_errorIn 48 = .ok (.getfield 9, 3) := by decide +kernel
theorem dX6_errorIn_51 : decode cX6_errorIn 51 = .ok (.ireturn, 1) := by decide +kernel
theorem dX6_errorIn_52 : decode cX6_errorIn 52 = .ok (.iinc 3 1, 3) := by decide +kernel
theorem dX6_errorIn_55 : decode cX6_errorIn 55 = .ok (.goto (-34), 3) := by decide +kernel
theorem dX6_errorIn_58 : decode cX6_errorIn 58 = .ok (.sipush (-999), 3) := by decide +kernel
theorem dX6_errorIn_61 : decode cX6_errorIn 61 = .ok (.ireturn, 1) := by decide +kernel
theorem dX6_readHead_0 : decode cX6_readHead 0 = .ok (.aload_n 1, 1) := by decide +kernel
theorem dX6_readHead_1 : decode cX6_readHead 1 = .ok (.aload_n 0, 1) := by decide +kernel
theorem dX6_readHead_2 : decode cX6_readHead 2 = .ok (.getfield 9, 3) := by decide +kernel
theorem dX6_readHead_5 : decode cX6_readHead 5 = .ok (.invokevirtual 27, 3) := by decide +kernel
theorem dX6_readHead_8 : decode cX6_readHead 8 = .ok (.bipush 84, 2) := by decide +kernel
theorem dX6_readHead_10 : decode cX6_readHead 10 = .ok (.if_icmp .eq 5, 3) := by decide +kernel
theorem dX6_readHead_13 : decode cX6_readHead 13 = .ok (.iconst 0, 1) := by decide +kernel
theorem dX6_readHead_14 : decode cX6_readHead 14 = .ok (.ireturn, 1) := by decide +kernel
theorem dX6_readHead_15 : decode cX6_readHead 15 = .ok (.aload_n 0, 1) := by decide +kernel
theorem dX6_readHead_16 : decode cX6_readHead 16 = .ok (.dup, 1) := by decide +kernel
theorem dX6_readHead_17 : decode cX6_readHead 17 = .ok (.getfield 9, 3) := by decide +kernel
theorem dX6_readHead_20 : decode cX6_readHead 20 = .ok (.iconst 1, 1) := by decide +kernel
theorem dX6_readHead_21 : decode cX6_readHead 21 = .ok (.iadd, 1) := by decide +kernel
theorem dX6_readHead_22 : decode cX6_readHead 22 = .ok (.putfield 9, 3) := by decide +kernel
theorem dX6_readHead_25 : decode cX6_readHead 25 = .ok (.aload_n 1, 1) := by decide +kernel
theorem dX6_readHead_26 : decode cX6_readHead 26 = .ok (.aload_n 0, 1) := by decide +kernel
theorem dX6_readHead_27 : decode cX6_readHead 27 = .ok (.getfield 9, 3) := by decide +kernel
theorem dX6_readHead_30 : decode cX6_readHead 30 = .ok (.invokevirtual 31, 3) := by decide +kernel
theorem dX6_readHead_33 : decode cX6_readHead 33 = .ok (.istore_n 3, 1) := by decide +kernel
theorem dX6_readHead_34 : decode cX6_readHead 34 = .ok (.iload_n 3, 1) := by decide +kernel
theorem dX6_readHead_35 : decode cX6_readHead 35 = .ok (.iconst 2, 1) := by decide +kernel
theorem dX6_readHead_36 : decode cX6_readHead 36 = .ok (.if_icmp .lt 9, 3) := by decide +kernel
theorem dX6_readHead_39 : decode cX6_readHead 39 = .ok (.iload_n 3, 1) := by decide +kernel
theorem dX6_readHead_40 : decode cX6_readHead 40 = .ok (.bipush 9, 2) := by decide +kernel
theorem dX6_readHead_42 : decode cX6_readHead 42 = .ok (.if_icmp .le 5, 3) := by decide +kernel
theorem dX6_readHead_45 : decode cX6_readHead 45 = .ok (.iconst 0, 1) := by decide +kernel
theorem dX6_readHead_46 : decode cX6_readHead 46 = .ok (.ireturn, 1) := by decide +kernel
theorem dX6_readHead_47 : decode cX6_readHead 47 = .ok (.aload_n 0, 1) := by decide +kernel
theorem dX6_readHead_48 : decode cX6_readHead 48 = .ok (.dup, 1) := by decide +kernel
theorem dX6_readHead_49 : decode cX6_readHead 49 = .ok (.getfield 9, 3) := by decide +kernel
theorem dX6_readHead_52 : decode cX6_readHead 52 = .ok (.iconst 1, 1) := by decide +kernel
theorem dX6_readHead_53 : decode cX6_readHead 53 = .ok (.iadd, 1) := by decide +kernel
theorem dX6_readHead_54 : decode cX6_readHead 54 = .ok (.putfield 9, 3) := by decide +kernel
theorem dX6_readHead_57 : decode cX6_readHead 57 = .ok (.aload_n 1, 1) := by decide +kernel
theorem dX6_readHead_58 : decode cX6_readHead 58 = .ok (.aload_n 0, 1) := by decide +kernel
theorem dX6_readHead_59 : decode cX6_readHead 59 = .ok (.getfield 9, 3) := by decide +kernel
theorem dX6_readHead_62 : decode cX6_readHead 62 = .ok (.invokevirtual 31, 3) := by decide +kernel
theorem dX6_readHead_65 : decode cX6_readHead 65 = .ok (.istore 4, 2) := by decide +kernel
theorem dX6_readHead_67 : decode cX6_readHead 67 = .ok (.iload 4, 2) := by decide +kernel
theorem dX6_readHead_69 : decode cX6_readHead 69 = .ok (.ifCond .lt 9, 3) := by decide +kernel
theorem dX6_readHead_72 : decode cX6_readHead 72 = .ok (.iload 4, 2) := by decide +kernel
theorem dX6_readHead_74 : decode cX6_readHead 74 = .ok (.iload_n 3, 1) := by decide +kernel
theorem dX6_readHead_75 : decode cX6_readHead 75 = .ok (.if_icmp .lt 5, 3) := by decide +kernel
theorem dX6_readHead_78 : decode cX6_readHead 78 = .ok (.iconst 0, 1) := by decide +kernel
theorem dX6_readHead_79 : decode cX6_readHead 79 = .ok (.ireturn, 1) := by decide +kernel
theorem dX6_readHead_80 : decode cX6_readHead 80 = .ok (.aload_n 0, 1) := by decide +kernel
theorem dX6_readHead_81 : decode cX6_readHead 81 = .ok (.dup, 1) := by decide +kernel
theorem dX6_readHead_82 : decode cX6_readHead 82 = .ok (.getfield 9, 3) := by decide +kernel
theorem dX6_readHead_85 : decode cX6_readHead 85 = .ok (.iconst 1, 1) := by decide +kernel
theorem dX6_readHead_86 : decode cX6_readHead 86 = .ok (.iadd, 1) := by decide +kernel
theorem dX6_readHead_87 : decode cX6_readHead 87 = .ok (.putfield 9, 3) := by decide +kernel
theorem dX6_readHead_90 : decode cX6_readHead 90 = .ok (.aload_n 1, 1) := by decide +kernel
theorem dX6_readHead_91 : decode cX6_readHead 91 = .ok (.aload_n 0, 1) := by decide +kernel
theorem dX6_readHead_92 : decode cX6_readHead 92 = .ok (.getfield 9, 3) := by decide +kernel
theorem dX6_readHead_95 : decode cX6_readHead 95 = .ok (.invokevirtual 31, 3) := by decide +kernel
theorem dX6_readHead_98 : decode cX6_readHead 98 = .ok (.istore 5, 2) := by decide +kernel
theorem dX6_readHead_100 : decode cX6_readHead 100 = .ok (.iload 5, 2) := by decide +kernel
theorem dX6_readHead_102 : decode cX6_readHead 102 = .ok (.ifCond .lt 16, 3) := by decide +kernel
theorem dX6_readHead_105 : decode cX6_readHead 105 = .ok (.iload 5, 2) := by decide +kernel
theorem dX6_readHead_107 : decode cX6_readHead 107 = .ok (.iload_n 3, 1) := by decide +kernel
theorem dX6_readHead_108 : decode cX6_readHead 108 = .ok (.if_icmp .ge 10, 3) := by decide +kernel
theorem dX6_readHead_111 : decode cX6_readHead 111 = .ok (.iload 5, 2) := by decide +kernel
theorem dX6_readHead_113 : decode cX6_readHead 113 = .ok (.iload 4, 2) := by decide +kernel
theorem dX6_readHead_115 : decode cX6_readHead 115 = .ok (.if_icmp .ne 5, 3) := by decide +kernel
theorem dX6_readHead_118 : decode cX6_readHead 118 = .ok (.iconst 0, 1) := by decide +kernel
theorem dX6_readHead_119 : decode cX6_readHead 119 = .ok (.ireturn, 1) := by decide +kernel
theorem dX6_readHead_120 : decode cX6_readHead 120 = .ok (.aload_n 0, 1) := by decide +kernel
theorem dX6_readHead_121 : decode cX6_readHead 121 = .ok (.dup, 1) := by decide +kernel
theorem dX6_readHead_122 : decode cX6_readHead 122 = .ok (.getfield 9, 3) := by decide +kernel
theorem dX6_readHead_125 : decode cX6_readHead 125 = .ok (.iconst 1, 1) := by decide +kernel
theorem dX6_readHead_126 : decode cX6_readHead 126 = .ok (.iadd, 1) := by decide +kernel
theorem dX6_readHead_127 : decode cX6_readHead 127 = .ok (.putfield 9, 3) := by decide +kernel
theorem dX6_readHead_130 : decode cX6_readHead 130 = .ok (.aload_n 2, 1) := by decide +kernel
theorem dX6_readHead_131 : decode cX6_readHead 131 = .ok (.iload_n 3, 1) := by decide +kernel
theorem dX6_readHead_132 : decode cX6_readHead 132 = .ok (.iload 4, 2) := by decide +kernel
theorem dX6_readHead_134 : decode cX6_readHead 134 = .ok (.iload 5, 2) := by decide +kernel
theorem dX6_readHead_136 : decode cX6_readHead 136 = .ok (.invokevirtual 34, 3) := by decide +kernel
theorem dX6_readHead_139 : decode cX6_readHead 139 = .ok (.iconst 1, 1) := by decide +kernel
theorem dX6_readHead_140 : decode cX6_readHead 140 = .ok (.ireturn, 1) := by decide +kernel
theorem dX6_readStreet_0 : decode cX6_readStreet 0 = .ok (.aload_n 1, 1) := by decide +kernel
theorem dX6_readStreet_1 : decode cX6_readStreet 1 = .ok (.aload_n 0, 1) := by decide +kernel
theorem dX6_readStreet_2 : decode cX6_readStreet 2 = .ok (.getfield 9, 3) := by decide +kernel
theorem dX6_readStreet_5 : decode cX6_readStreet 5 = .ok (.invokevirtual 27, 3) := by decide +kernel
theorem dX6_readStreet_8 : decode cX6_readStreet 8 = .ok (.bipush 115, 2) := by decide +kernel
theorem dX6_readStreet_10 : decode cX6_readStreet 10 = .ok (.if_icmp .ne 10, 3) := by decide +kernel
theorem dX6_readStreet_13 : decode cX6_readStreet 13 = .ok (.aload_n 2, 1) := by decide +kernel
theorem dX6_readStreet_14 : decode cX6_readStreet 14 = .ok (.invokevirtual 40, 3) := by decide +kernel
theorem dX6_readStreet_17 : decode cX6_readStreet 17 = .ok (.ifCond .eq 5, 3) := by decide +kernel
theorem dX6_readStreet_20 : decode cX6_readStreet 20 = .ok (.iconst 0, 1) := by decide +kernel
theorem dX6_readStreet_21 : decode cX6_readStreet 21 = .ok (.ireturn, 1) := by decide +kernel
theorem dX6_readStreet_22 : decode cX6_readStreet 22 = .ok (.aload_n 0, 1) := by decide +kernel
theorem dX6_readStreet_23 : decode cX6_readStreet 23 = .ok (.dup, 1) := by decide +kernel
theorem dX6_readStreet_24 : decode cX6_readStreet 24 = .ok (.getfield 9, 3) := by decide +kernel
theorem dX6_readStreet_27 : decode cX6_readStreet 27 = .ok (.iconst 1, 1) := by decide +kernel
theorem dX6_readStreet_28 : decode cX6_readStreet 28 = .ok (.iadd, 1) := by decide +kernel
theorem dX6_readStreet_29 : decode cX6_readStreet 29 = .ok (.putfield 9, 3) := by decide +kernel
theorem dX6_readStreet_32 : decode cX6_readStreet 32 = .ok (.aload_n 1, 1) := by decide +kernel
theorem dX6_readStreet_33 : decode cX6_readStreet 33 = .ok (.aload_n 0, 1) := by decide +kernel
theorem dX6_readStreet_34 : decode cX6_readStreet 34 = .ok (.getfield 9, 3) := by decide +kernel
theorem dX6_readStreet_37 : decode cX6_readStreet 37 = .ok (.invokevirtual 31, 3) := by decide +kernel
theorem dX6_readStreet_40 : decode cX6_readStreet 40 = .ok (.istore_n 3, 1) := by decide +kernel
theorem dX6_readStreet_41 : decode cX6_readStreet 41 = .ok (.aload_n 2, 1) := by decide +kernel
theorem dX6_readStreet_42 : decode cX6_readStreet 42 = .ok (.iload_n 3, 1) := by decide +kernel
theorem dX6_readStreet_43 : decode cX6_readStreet 43 = .ok (.invokevirtual 44, 3) := by decide +kernel
theorem dX6_readStreet_46 : decode cX6_readStreet 46 = .ok (.ifCond .eq 11, 3) := by decide +kernel
theorem dX6_readStreet_49 : decode cX6_readStreet 49 = .ok (.aload_n 2, 1) := by decide +kernel
theorem dX6_readStreet_50 : decode cX6_readStreet 50 = .ok (.iload_n 3, 1) := by decide +kernel
theorem dX6_readStreet_51 : decode cX6_readStreet 51 = .ok (.invokevirtual 48, 3) := by decide +kernel
theorem dX6_readStreet_54 : decode cX6_readStreet 54 = .ok (.ifCond .eq 5, 3) := by decide +kernel
theorem dX6_readStreet_57 : decode cX6_readStreet 57 = .ok (.iconst 0, 1) := by decide +kernel
theorem dX6_readStreet_58 : decode cX6_readStreet 58 = .ok (.ireturn, 1) := by decide +kernel
theorem dX6_readStreet_59 : decode cX6_readStreet 59 = .ok (.aload_n 0, 1) := by decide +kernel
theorem dX6_readStreet_60 : decode cX6_readStreet 60 = .ok (.dup, 1) := by decide +kernel
theorem dX6_readStreet_61 : decode cX6_readStreet 61 = .ok (.getfield 9, 3) := by decide +kernel
theorem dX6_readStreet_64 : decode cX6_readStreet 64 = .ok (.iconst 1, 1) := by decide +kernel
theorem dX6_readStreet_65 : decode cX6_readStreet 65 = .ok (.iadd, 1) := by decide +kernel
theorem dX6_readStreet_66 : decode cX6_readStreet 66 = .ok (.putfield 9, 3) := by decide +kernel
theorem dX6_readStreet_69 : decode cX6_readStreet 69 = .ok (.aload_n 1, 1) := by decide +kernel
theorem dX6_readStreet_70 : decode cX6_readStreet 70 = .ok (.aload_n 0, 1) := by decide +kernel
theorem dX6_readStreet_71 : decode cX6_readStreet 71 = .ok (.getfield 9, 3) := by decide +kernel
theorem dX6_readStreet_74 : decode cX6_readStreet 74 = .ok (.invokevirtual 31, 3) := by decide +kernel
theorem dX6_readStreet_77 : decode cX6_readStreet 77 = .ok (.istore 4, 2) := by decide +kernel
theorem dX6_readStreet_79 : decode cX6_readStreet 79 = .ok (.aload_n 2, 1) := by decide +kernel
theorem dX6_readStreet_80 : decode cX6_readStreet 80 = .ok (.iload 4, 2) := by decide +kernel
theorem dX6_readStreet_82 : decode cX6_readStreet 82 = .ok (.invokevirtual 44, 3) := by decide +kernel
theorem dX6_readStreet_85 : decode cX6_readStreet 85 = .ok (.ifCond .eq 22, 3) := by decide +kernel
theorem dX6_readStreet_88 : decode cX6_readStreet 88 = .ok (.iload_n 3, 1) := by decide +kernel
theorem dX6_readStreet_89 : decode cX6_readStreet 89 = .ok (.iload 4, 2) := by decide +kernel
theorem dX6_readStreet_91 : decode cX6_readStreet 91 = .ok (.if_icmp .eq 16, 3) := by decide +kernel
theorem dX6_readStreet_94 : decode cX6_readStreet 94 = .ok (.aload_n 2, 1) := by decide +kernel
theorem dX6_readStreet_95 : decode cX6_readStreet 95 = .ok (.iload_n 3, 1) := by decide +kernel
theorem dX6_readStreet_96 : decode cX6_readStreet 96 = .ok (.iload 4, 2) := by decide +kernel
theorem dX6_readStreet_98 : decode cX6_readStreet 98 = .ok (.invokevirtual 51, 3) := by decide +kernel
theorem dX6_readStreet_101 : decode cX6_readStreet 101 = .ok (.sipush (-999), 3) := by decide +kernel
theorem dX6_readStreet_104 : decode cX6_readStreet 104 = .ok (.if_icmp .eq 5, 3) := by decide +kernel
theorem dX6_readStreet_107 : decode cX6_readStreet 107 = .ok (.iconst 0, 1) := by decide +kernel
theorem dX6_readStreet_108 : decode cX6_readStreet 108 = .ok (.ireturn, 1) := by decide +kernel
theorem dX6_readStreet_109 : decode cX6_readStreet 109 = .ok (.aload_n 0, 1) := by decide +kernel
theorem dX6_readStreet_110 : decode cX6_readStreet 110 = .ok (.dup, 1) := by decide +kernel
theorem dX6_readStreet_111 : decode cX6_readStreet 111 = .ok (.getfield 9, 3) := by decide +kernel
theorem dX6_readStreet_114 : decode cX6_readStreet 114 = .ok (.iconst 1, 1) := by decide +kernel
theorem dX6_readStreet_115 : decode cX6_readStreet 115 = .ok (.iadd, 1) := by decide +kernel
theorem dX6_readStreet_116 : decode cX6_readStreet 116 = .ok (.putfield 9, 3) := by decide +kernel
theorem dX6_readStreet_119 : decode cX6_readStreet 119 = .ok (.aload_n 1, 1) := by decide +kernel
theorem dX6_readStreet_120 : decode cX6_readStreet 120 = .ok (.aload_n 0, 1) := by decide +kernel
theorem dX6_readStreet_121 : decode cX6_readStreet 121 = .ok (.getfield 9, 3) := by decide +kernel
theorem dX6_readStreet_124 : decode cX6_readStreet 124 = .ok (.invokevirtual 31, 3) := by decide +kernel
theorem dX6_readStreet_127 : decode cX6_readStreet 127 = .ok (.istore 5, 2) := by decide +kernel
theorem dX6_readStreet_129 : decode cX6_readStreet 129 = .ok (.iload 5, 2) := by decide +kernel
theorem dX6_readStreet_131 : decode cX6_readStreet 131 = .ok (.sipush (-999), 3) := by decide +kernel
theorem dX6_readStreet_134 : decode cX6_readStreet 134 = .ok (.if_icmp .ne 5, 3) := by decide +kernel
theorem dX6_readStreet_137 : decode cX6_readStreet 137 = .ok (.iconst 0, 1) := by decide +kernel
theorem dX6_readStreet_138 : decode cX6_readStreet 138 = .ok (.ireturn, 1) := by decide +kernel
theorem dX6_readStreet_139 : decode cX6_readStreet 139 = .ok (.aload_n 0, 1) := by decide +kernel
theorem dX6_readStreet_140 : decode cX6_readStreet 140 = .ok (.dup, 1) := by decide +kernel
theorem dX6_readStreet_141 : decode cX6_readStreet 141 = .ok (.getfield 9, 3) := by decide +kernel
theorem dX6_readStreet_144 : decode cX6_readStreet 144 = .ok (.iconst 1, 1) := by decide +kernel
theorem dX6_readStreet_145 : decode cX6_readStreet 145 = .ok (.iadd, 1) := by decide +kernel
theorem dX6_readStreet_146 : decode cX6_readStreet 146 = .ok (.putfield 9, 3) := by decide +kernel
theorem dX6_readStreet_149 : decode cX6_readStreet 149 = .ok (.aload_n 1, 1) := by decide +kernel
theorem dX6_readStreet_150 : decode cX6_readStreet 150 = .ok (.aload_n 0, 1) := by decide +kernel
theorem dX6_readStreet_151 : decode cX6_readStreet 151 = .ok (.getfield 9, 3) := by decide +kernel
theorem dX6_readStreet_154 : decode cX6_readStreet 154 = .ok (.invokevirtual 31, 3) := by decide +kernel
theorem dX6_readStreet_157 : decode cX6_readStreet 157 = .ok (.istore 6, 2) := by decide +kernel
theorem dX6_readStreet_159 : decode cX6_readStreet 159 = .ok (.iload 6, 2) := by decide +kernel
theorem dX6_readStreet_161 : decode cX6_readStreet 161 = .ok (.sipush (-999), 3) := by decide +kernel
theorem dX6_readStreet_164 : decode cX6_readStreet 164 = .ok (.if_icmp .eq 11, 3) := by decide +kernel
theorem dX6_readStreet_167 : decode cX6_readStreet 167 = .ok (.iload 5, 2) := by decide +kernel
theorem dX6_readStreet_169 : decode cX6_readStreet 169 = .ok (.iload 6, 2) := by decide +kernel
theorem dX6_readStreet_171 : decode cX6_readStreet 171 = .ok (.iadd, 1) := by decide +kernel
theorem dX6_readStreet_172 : decode cX6_readStreet 172 = .ok (.ifCond .ne 5, 3) := by decide +kernel
theorem dX6_readStreet_175 : decode cX6_readStreet 175 = .ok (.iconst 0, 1) := by decide +kernel
theorem dX6_readStreet_176 : decode cX6_readStreet 176 = .ok (.ireturn, 1) := by decide +kernel
theorem dX6_readStreet_177 : decode cX6_readStreet 177 = .ok (.aload_n 0, 1) := by decide +kernel
theorem dX6_readStreet_178 : decode cX6_readStreet 178 = .ok (.dup, 1) := by decide +kernel
theorem dX6_readStreet_179 : decode cX6_readStreet 179 = .ok (.getfield 9, 3) := by decide +kernel
theorem dX6_readStreet_182 : decode cX6_readStreet 182 = .ok (.iconst 1, 1) := by decide +kernel
theorem dX6_readStreet_183 : decode cX6_readStreet 183 = .ok (.iadd, 1) := by decide +kernel
theorem dX6_readStreet_184 : decode cX6_readStreet 184 = .ok (.putfield 9, 3) := by decide +kernel
theorem dX6_readStreet_187 : decode cX6_readStreet 187 = .ok (.aload_n 2, 1) := by decide +kernel
theorem dX6_readStreet_188 : decode cX6_readStreet 188 = .ok (.iload_n 3, 1) := by decide +kernel
theorem dX6_readStreet_189 : decode cX6_readStreet 189 = .ok (.iload 4, 2) := by decide +kernel
theorem dX6_readStreet_191 : decode cX6_readStreet 191 = .ok (.bipush 10, 2) := by decide +kernel
theorem dX6_readStreet_193 : decode cX6_readStreet 193 = .ok (.iload 5, 2) := by decide +kernel
theorem dX6_readStreet_195 : decode cX6_readStreet 195 = .ok (.imul, 1) := by decide +kernel
theorem dX6_readStreet_196 : decode cX6_readStreet 196 = .ok (.iload 6, 2) := by decide +kernel
theorem dX6_readStreet_198 : decode cX6_readStreet 198 = .ok (.iadd, 1) := by decide +kernel
theorem dX6_readStreet_199 : decode cX6_readStreet 199 = .ok (.invokevirtual 55, 3) := by decide +kernel
theorem dX6_readStreet_202 : decode cX6_readStreet 202 = .ok (.pop, 1) := by decide +kernel
theorem dX6_readStreet_203 : decode cX6_readStreet 203 = .ok (.aload_n 1, 1) := by decide +kernel
theorem dX6_readStreet_204 : decode cX6_readStreet 204 = .ok (.aload_n 0, 1) := by decide +kernel
theorem dX6_readStreet_205 : decode cX6_readStreet 205 = .ok (.getfield 9, 3) := by decide +kernel
theorem dX6_readStreet_208 : decode cX6_readStreet 208 = .ok (.invokevirtual 27, 3) := by decide +kernel
theorem dX6_readStreet_211 : decode cX6_readStreet 211 = .ok (.bipush 120, 2) := by decide +kernel
theorem dX6_readStreet_213 : decode cX6_readStreet 213 = .ok (.if_icmp .ne 25, 3) := by decide +kernel
theorem dX6_readStreet_216 : decode cX6_readStreet 216 = .ok (.aload_n 0, 1) := by decide +kernel
theorem dX6_readStreet_217 : decode cX6_readStreet 217 = .ok (.dup, 1) := by decide +kernel
theorem dX6_readStreet_218 : decode cX6_readStreet 218 = .ok (.getfield 9, 3) := by decide +kernel
theorem dX6_readStreet_221 : decode cX6_readStreet 221 = .ok (.iconst 1, 1) := by decide +kernel
theorem dX6_readStreet_222 : decode cX6_readStreet 222 = .ok (.iadd, 1) := by decide +kernel
theorem dX6_readStreet_223 : decode cX6_readStreet 223 = .ok (.putfield 9, 3) := by decide +kernel
theorem dX6_readStreet_226 : decode cX6_readStreet 226 = .ok (.aload_n 2, 1) := by decide +kernel
theorem dX6_readStreet_227 : decode cX6_readStreet 227 = .ok (.aload_n 2, 1) := by decide +kernel
theorem dX6_readStreet_228 : decode cX6_readStreet 228 = .ok (.getfield 59, 3) := by decide +kernel
theorem dX6_readStreet_231 : decode cX6_readStreet 231 = .ok (.iconst 1, 1) := by decide +kernel
theorem dX6_readStreet_232 : decode cX6_readStreet 232 = .ok (.isub, 1) := by decide +kernel
theorem dX6_readStreet_233 : decode cX6_readStreet 233 = .ok (.iconst 1, 1) := by decide +kernel
theorem dX6_readStreet_234 : decode cX6_readStreet 234 = .ok (.invokevirtual 62, 3) := by decide +kernel
theorem dX6_readStreet_237 : decode cX6_readStreet 237 = .ok (.pop, 1) := by decide +kernel
theorem dX6_readStreet_238 : decode cX6_readStreet 238 = .ok (.iconst 1, 1) := by decide +kernel
theorem dX6_readStreet_239 : decode cX6_readStreet 239 = .ok (.ireturn, 1) := by decide +kernel
theorem dX7_init_0 : decode cX7_init 0 = .ok (.aload_n 0, 1) := by decide +kernel
theorem dX7_init_1 : decode cX7_init 1 = .ok (.invokespecial 1, 3) := by decide +kernel
theorem dX7_init_4 : decode cX7_init 4 = .ok (.aload_n 0, 1) := by decide +kernel
theorem dX7_init_5 : decode cX7_init 5 = .ok (.new 7, 3) := by decide +kernel
theorem dX7_init_8 : decode cX7_init 8 = .ok (.dup, 1) := by decide +kernel
theorem dX7_init_9 : decode cX7_init 9 = .ok (.invokespecial 9, 3) := by decide +kernel
theorem dX7_init_12 : decode cX7_init 12 = .ok (.putfield 10, 3) := by decide +kernel
theorem dX7_init_15 : decode cX7_init 15 = .ok (.aload_n 0, 1) := by decide +kernel
theorem dX7_init_16 : decode cX7_init 16 = .ok (.new 16, 3) := by decide +kernel
theorem dX7_init_19 : decode cX7_init 19 = .ok (.dup, 1) := by decide +kernel
theorem dX7_init_20 : decode cX7_init 20 = .ok (.invokespecial 18, 3) := by decide +kernel
theorem dX7_init_23 : decode cX7_init 23 = .ok (.putfield 19, 3) := by decide +kernel
theorem dX7_init_26 : decode cX7_init 26 = .ok (.aload_n 0, 1) := by decide +kernel
theorem dX7_init_27 : decode cX7_init 27 = .ok (.new 23, 3) := by decide +kernel
theorem dX7_init_30 : decode cX7_init 30 = .ok (.dup, 1) := by decide +kernel
theorem dX7_init_31 : decode cX7_init 31 = .ok (.invokespecial 25, 3) := by decide +kernel
theorem dX7_init_34 : decode cX7_init 34 = .ok (.putfield 26, 3) := by decide +kernel
theorem dX7_init_37 : decode cX7_init 37 = .ok (.aload_n 0, 1) := by decide +kernel
theorem dX7_init_38 : decode cX7_init 38 = .ok (.new 30, 3) := by decide +kernel
theorem dX7_init_41 : decode cX7_init 41 = .ok (.dup, 1) := by decide +kernel
theorem dX7_init_42 : decode cX7_init 42 = .ok (.invokespecial 32, 3) := by decide +kernel
theorem dX7_init_45 : decode cX7_init 45 = .ok (.putfield 33, 3) := by decide +kernel
theorem dX7_init_48 : decode cX7_init 48 = .ok (.aload_n 0, 1) := by decide +kernel
theorem dX7_init_49 : decode cX7_init 49 = .ok (.new 30, 3) := by decide +kernel
theorem dX7_init_52 : decode cX7_init 52 = .ok (.dup, 1) := by decide +kernel
theorem dX7_init_53 : decode cX7_init 53 = .ok (.invokespecial 32, 3) := by decide +kernel
theorem dX7_init_56 : decode cX7_init 56 = .ok (.putfield 37, 3) := by decide +kernel
theorem dX7_init_59 : decode cX7_init 59 = .ok (.aload_n 0, 1) := by decide +kernel
theorem dX7_init_60 : decode cX7_init 60 = .ok (.new 40, 3) := by decide +kernel
theorem dX7_init_63 : decode cX7_init 63 = .ok (.dup, 1) := by decide +kernel
theorem dX7_init_64 : decode cX7_init 64 = .ok (.invokespecial 42, 3) := by decide +kernel
theorem dX7_init_67 : decode cX7_init 67 = .ok (.putfield 43, 3) := by decide +kernel
theorem dX7_init_70 : decode cX7_init 70 = .ok (.aload_n 0, 1) := by decide +kernel
theorem dX7_init_71 : decode cX7_init 71 = .ok (.new 47, 3) := by decide +kernel
theorem dX7_init_74 : decode cX7_init 74 = .ok (.dup, 1) := by decide +kernel
theorem dX7_init_75 : decode cX7_init 75 = .ok (.invokespecial 49, 3) := by decide +kernel
theorem dX7_init_78 : decode cX7_init 78 = .ok (.putfield 50, 3) := by decide +kernel
theorem dX7_init_81 : decode cX7_init 81 = .ok (.aload_n 0, 1) := by decide +kernel
theorem dX7_init_82 : decode cX7_init 82 = .ok (.new 54, 3) := by decide +kernel
theorem dX7_init_85 : decode cX7_init 85 = .ok (.dup, 1) := by decide +kernel
theorem dX7_init_86 : decode cX7_init 86 = .ok (.invokespecial 56, 3) := by decide +kernel
theorem dX7_init_89 : decode cX7_init 89 = .ok (.putfield 57, 3) := by decide +kernel
theorem dX7_init_92 : decode cX7_init 92 = .ok (.aload_n 0, 1) := by decide +kernel
theorem dX7_init_93 : decode cX7_init 93 = .ok (.new 54, 3) := by decide +kernel
theorem dX7_init_96 : decode cX7_init 96 = .ok (.dup, 1) := by decide +kernel
theorem dX7_init_97 : decode cX7_init 97 = .ok (.invokespecial 56, 3) := by decide +kernel
theorem dX7_init_100 : decode cX7_init 100 = .ok (.putfield 61, 3) := by decide +kernel
theorem dX7_init_103 : decode cX7_init 103 = .ok (.return_, 1) := by decide +kernel
theorem dX7_append_0 : decode cX7_append 0 = .ok (.iload_n 1, 1) := by decide +kernel
theorem dX7_append_1 : decode cX7_append 1 = .ok (.ifCond .lt 10, 3) := by decide +kernel
theorem dX7_append_4 : decode cX7_append 4 = .ok (.iload_n 1, 1) := by decide +kernel
theorem dX7_append_5 : decode cX7_append 5 = .ok (.sipush 255, 3) := by decide +kernel
theorem dX7_append_8 : decode cX7_append 8 = .ok (.if_icmp .le 13, 3) := by decide +kernel
theorem dX7_append_11 : decode cX7_append 11 = .ok (.new 64, 3) := by decide +kernel
theorem dX7_append_14 : decode cX7_append 14 = .ok (.dup, 1) := by decide +kernel
theorem dX7_append_15 : decode cX7_append 15 = .ok (.ldc 66, 2) := by decide +kernel
theorem dX7_append_17 : decode cX7_append 17 = .ok (.invokespecial 68, 3) := by decide +kernel
theorem dX7_append_20 : decode cX7_append 20 = .ok (.athrow, 1) := by decide +kernel
theorem dX7_append_21 : decode cX7_append 21 = .ok (.aload_n 0, 1) := by decide +kernel
theorem dX7_append_22 : decode cX7_append 22 = .ok (.getfield 10, 3) := by decide +kernel
theorem dX7_append_25 : decode cX7_append 25 = .ok (.getfield 71, 3) := by decide +kernel
theorem dX7_append_28 : decode cX7_append 28 = .ok (.sipush 140, 3) := by decide +kernel
theorem dX7_append_31 : decode cX7_append 31 = .ok (.if_icmp .lt 13, 3) := by decide +kernel
theorem dX7_append_34 : decode cX7_append 34 = .ok (.new 75, 3) := by decide +kernel
theorem dX7_append_37 : decode cX7_append 37 = .ok (.dup, 1) := by decide +kernel
theorem dX7_append_38 : decode cX7_append 38 = .ok (.ldc 77, 2) := by decide +kernel
theorem dX7_append_40 : decode cX7_append 40 = .ok (.invokespecial 79, 3) := by decide +kernel
theorem dX7_append_43 : decode cX7_append 43 = .ok (.athrow, 1) := by decide +kernel
theorem dX7_append_44 : decode cX7_append 44 = .ok (.aload_n 0, 1) := by decide +kernel
theorem dX7_append_45 : decode cX7_append 45 = .ok (.getfield 10, 3) := by decide +kernel
theorem dX7_append_48 : decode cX7_append 48 = .ok (.iload_n 1, 1) := by decide +kernel
theorem dX7_append_49 : decode cX7_append 49 = .ok (.i2c, 1) := by decide +kernel
theorem dX7_append_50 : decode cX7_append 50 = .ok (.invokevirtual 80, 3) := by decide +kernel
theorem dX7_append_53 : decode cX7_append 53 = .ok (.aload_n 0, 1) := by decide +kernel
theorem dX7_append_54 : decode cX7_append 54 = .ok (.getfield 10, 3) := by decide +kernel
theorem dX7_append_57 : decode cX7_append 57 = .ok (.getfield 71, 3) := by decide +kernel
theorem dX7_append_60 : decode cX7_append 60 = .ok (.ireturn, 1) := by decide +kernel
theorem dX7_clearText_0 : decode cX7_clearText 0 = .ok (.aload_n 0, 1) := by decide +kernel
theorem dX7_clearText_1 : decode cX7_clearText 1 = .ok (.getfield 10, 3) := by decide +kernel
theorem dX7_clearText_4 : decode cX7_clearText 4 = .ok (.getfield 71, 3) := by decide +kernel
theorem dX7_clearText_7 : decode cX7_clearText 7 = .ok (.istore_n 1, 1) := by decide +kernel
theorem dX7_clearText_8 : decode cX7_clearText 8 = .ok (.aload_n 0, 1) := by decide +kernel
theorem dX7_clearText_9 : decode cX7_clearText 9 = .ok (.getfield 10, 3) := by decide +kernel
theorem dX7_clearText_12 : decode cX7_clearText 12 = .ok (.iconst 0, 1) := by decide +kernel
theorem dX7_clearText_13 : decode cX7_clearText 13 = .ok (.putfield 71, 3) := by decide +kernel
theorem dX7_clearText_16 : decode cX7_clearText 16 = .ok (.iload_n 1, 1) := by decide +kernel
theorem dX7_clearText_17 : decode cX7_clearText 17 = .ok (.ireturn, 1) := by decide +kernel
theorem dX7_errorPosition_0 : decode cX7_errorPosition 0 = .ok (.iload_n 1, 1) := by decide +kernel
theorem dX7_errorPosition_1 : decode cX7_errorPosition 1 = .ok (.ifCond .eq 17, 3) := by decide +kernel
theorem dX7_errorPosition_4 : decode cX7_errorPosition 4 = .ok (.aload_n 0, 1) := by decide +kernel
theorem dX7_errorPosition_5 : decode cX7_errorPosition 5 = .ok (.getfield 26, 3) := by decide +kernel
theorem dX7_errorPosition_8 : decode cX7_errorPosition 8 = .ok (.aload_n 0, 1) := by decide +kernel
theorem dX7_errorPosition_9 : decode cX7_errorPosition 9 = .ok (.getfield 10, 3) := by decide +kernel
theorem dX7_errorPosition_12 : decode cX7_errorPosition 12 = .ok (.invokevirtual 84, 3) := by decide +kernel
theorem dX7_errorPosition_15 : decode cX7_errorPosition 15 = .ok (.goto 18, 3) := by decide +kernel
theorem dX7_errorPosition_18 : decode cX7_errorPosition 18 = .ok (.aload_n 0, 1) := by decide +kernel
theorem dX7_errorPosition_19 : decode cX7_errorPosition 19 = .ok (.getfield 19, 3) := by decide +kernel
theorem dX7_errorPosition_22 : decode cX7_errorPosition 22 = .ok (.aload_n 0, 1) := by decide +kernel
theorem dX7_errorPosition_23 : decode cX7_errorPosition 23 = .ok (.getfield 10, 3) := by decide +kernel
theorem dX7_errorPosition_26 : decode cX7_errorPosition 26 = .ok (.aload_n 0, 1) := by decide +kernel
theorem dX7_errorPosition_27 : decode cX7_errorPosition 27 = .ok (.getfield 37, 3) := by decide +kernel
theorem dX7_errorPosition_30 : decode cX7_errorPosition 30 = .ok (.invokevirtual 88, 3) := by decide +kernel
theorem dX7_errorPosition_33 : decode cX7_errorPosition 33 = .ok (.ireturn, 1) := by decide +kernel
theorem dX7_load_0 : decode cX7_load 0 = .ok (.aload_n 0, 1) := by decide +kernel
theorem dX7_load_1 : decode cX7_load 1 = .ok (.getfield 19, 3) := by decide +kernel
theorem dX7_load_4 : decode cX7_load 4 = .ok (.aload_n 0, 1) := by decide +kernel
theorem dX7_load_5 : decode cX7_load 5 = .ok (.getfield 10, 3) := by decide +kernel
theorem dX7_load_8 : decode cX7_load 8 = .ok (.aload_n 0, 1) := by decide +kernel
theorem dX7_load_9 : decode cX7_load 9 = .ok (.getfield 37, 3) := by decide +kernel
theorem dX7_load_12 : decode cX7_load 12 = .ok (.invokevirtual 88, 3) := by decide +kernel
theorem dX7_load_15 : decode cX7_load 15 = .ok (.sipush (-999), 3) := by decide +kernel
theorem dX7_load_18 : decode cX7_load 18 = .ok (.if_icmp .eq 13, 3) := by decide +kernel
theorem dX7_load_21 : decode cX7_load 21 = .ok (.new 75, 3) := by decide +kernel
theorem dX7_load_24 : decode cX7_load 24 = .ok (.dup, 1) := by decide +kernel
theorem dX7_load_25 : decode cX7_load 25 = .ok (.ldc 91, 2) := by decide +kernel
theorem dX7_load_27 : decode cX7_load 27 = .ok (.invokespecial 79, 3) := by decide +kernel
theorem dX7_load_30 : decode cX7_load 30 = .ok (.athrow, 1) := by decide +kernel
theorem dX7_load_31 : decode cX7_load 31 = .ok (.aload_n 0, 1) := by decide +kernel
theorem dX7_load_32 : decode cX7_load 32 = .ok (.getfield 33, 3) := by decide +kernel
theorem dX7_load_35 : decode cX7_load 35 = .ok (.aload_n 0, 1) := by decide +kernel
theorem dX7_load_36 : decode cX7_load 36 = .ok (.getfield 37, 3) := by decide +kernel
theorem dX7_load_39 : decode cX7_load 39 = .ok (.invokevirtual 93, 3) := by decide +kernel
theorem dX7_load_42 : decode cX7_load 42 = .ok (.aload_n 0, 1) := by decide +kernel
theorem dX7_load_43 : decode cX7_load 43 = .ok (.getfield 43, 3) := by decide +kernel
theorem dX7_load_46 : decode cX7_load 46 = .ok (.invokevirtual 97, 3) := by decide +kernel
theorem dX7_load_49 : decode cX7_load 49 = .ok (.aload_n 0, 1) := by decide +kernel
theorem dX7_load_50 : decode cX7_load 50 = .ok (.getfield 50, 3) := by decide +kernel
theorem dX7_load_53 : decode cX7_load 53 = .ok (.invokevirtual 100, 3) := by decide +kernel
theorem dX7_load_56 : decode cX7_load 56 = .ok (.aload_n 0, 1) := by decide +kernel
theorem dX7_load_57 : decode cX7_load 57 = .ok (.getfield 33, 3) := by decide +kernel
theorem dX7_load_60 : decode cX7_load 60 = .ok (.getfield 103, 3) := by decide +kernel
theorem dX7_load_63 : decode cX7_load 63 = .ok (.ireturn, 1) := by decide +kernel
theorem dX7_about_0 : decode cX7_about 0 = .ok (.iload_n 1, 1) := by decide +kernel
theorem dX7_about_1 : decode cX7_about 1 = .ok (.tableswitch 120 0 7 #[47, 55, 63, 71, 79, 87, 96, 115], 47) := by decide +kernel
theorem dX7_about_48 : decode cX7_about 48 = .ok (.aload_n 0, 1) := by decide +kernel
theorem dX7_about_49 : decode cX7_about 49 = .ok (.getfield 33, 3) := by decide +kernel
theorem dX7_about_52 : decode cX7_about 52 = .ok (.getfield 106, 3) := by decide +kernel
theorem dX7_about_55 : decode cX7_about 55 = .ok (.ireturn, 1) := by decide +kernel
theorem dX7_about_56 : decode cX7_about 56 = .ok (.aload_n 0, 1) := by decide +kernel
theorem dX7_about_57 : decode cX7_about 57 = .ok (.getfield 33, 3) := by decide +kernel
theorem dX7_about_60 : decode cX7_about 60 = .ok (.getfield 103, 3) := by decide +kernel
theorem dX7_about_63 : decode cX7_about 63 = .ok (.ireturn, 1) := by decide +kernel
theorem dX7_about_64 : decode cX7_about 64 = .ok (.aload_n 0, 1) := by decide +kernel
theorem dX7_about_65 : decode cX7_about 65 = .ok (.getfield 33, 3) := by decide +kernel
theorem dX7_about_68 : decode cX7_about 68 = .ok (.invokevirtual 109, 3) := by decide +kernel
theorem dX7_about_71 : decode cX7_about 71 = .ok (.ireturn, 1) := by decide +kernel
theorem dX7_about_72 : decode cX7_about 72 = .ok (.aload_n 0, 1) := by decide +kernel
theorem dX7_about_73 : decode cX7_about 73 = .ok (.getfield 33, 3) := by decide +kernel
theorem dX7_about_76 : decode cX7_about 76 = .ok (.getfield 113, 3) := by decide +kernel
theorem dX7_about_79 : decode cX7_about 79 = .ok (.ireturn, 1) := by decide +kernel
theorem dX7_about_80 : decode cX7_about 80 = .ok (.aload_n 0, 1) := by decide +kernel
theorem dX7_about_81 : decode cX7_about 81 = .ok (.getfield 33, 3) := by decide +kernel
theorem dX7_about_84 : decode cX7_about 84 = .ok (.getfield 116, 3) := by decide +kernel
theorem dX7_about_87 : decode cX7_about 87 = .ok (.ireturn, 1) := by decide +kernel
theorem dX7_about_88 : decode cX7_about 88 = .ok (.aload_n 0, 1) := by decide +kernel
theorem dX7_about_89 : decode cX7_about 89 = .ok (.aload_n 0, 1) := by decide +kernel
theorem dX7_about_90 : decode cX7_about 90 = .ok (.getfield 33, 3) := by decide +kernel
theorem dX7_about_93 : decode cX7_about 93 = .ok (.invokevirtual 119, 3) := by decide +kernel
theorem dX7_about_96 : decode cX7_about 96 = .ok (.ireturn, 1) := by decide +kernel
theorem dX7_about_97 : decode cX7_about 97 = .ok (.aload_n 0, 1) := by decide +kernel
theorem dX7_about_98 : decode cX7_about 98 = .ok (.getfield 57, 3) := by decide +kernel
theorem dX7_about_101 : decode cX7_about 101 = .ok (.aload_n 0, 1) := by decide +kernel
theorem dX7_about_102 : decode cX7_about 102 = .ok (.getfield 33, 3) := by decide +kernel
theorem dX7_about_105 : decode cX7_about 105 = .ok (.invokevirtual 123, 3) := by decide +kernel
theorem dX7_about_108 : decode cX7_about 108 = .ok (.aload_n 0, 1) := by decide +kernel
theorem dX7_about_109 : decode cX7_about 109 = .ok (.getfield 57, 3) := by decide +kernel
theorem dX7_about_112 : decode cX7_about 112 = .ok (.invokevirtual 126, 3) := by decide +kernel
theorem dX7_about_115 : decode cX7_about 115 = .ok (.ireturn, 1) := by decide +kernel
theorem dX7_about_116 : decode cX7_about 116 = .ok (.aload_n 0, 1) := by decide +kernel
theorem dX7_about_117 : decode cX7_about 117 = .ok (.invokevirtual 128, 3) := by decide +kernel
theorem dX7_about_120 : decode cX7_about 120 = .ok (.ireturn, 1) := by decide +kernel
theorem dX7_about_121 : decode cX7_about 121 = .ok (.new 64, 3) := by decide +kernel
theorem dX7_about_124 : decode cX7_about 124 = .ok (.dup, 1) := by decide +kernel
theorem dX7_about_125 : decode cX7_about 125 = .ok (.ldc 131, 2) := by decide +kernel
theorem dX7_about_127 : decode cX7_about 127 = .ok (.invokespecial 68, 3) := by decide +kernel
theorem dX7_about_130 : decode cX7_about 130 = .ok (.athrow, 1) := by decide +kernel
theorem dX7_street_0 : decode cX7_street 0 = .ok (.aload_n 0, 1) := by decide +kernel
theorem dX7_street_1 : decode cX7_street 1 = .ok (.iload_n 1, 1) := by decide +kernel
theorem dX7_street_2 : decode cX7_street 2 = .ok (.invokevirtual 133, 3) := by decide +kernel
theorem dX7_street_5 : decode cX7_street 5 = .ok (.iload_n 2, 1) := by decide +kernel
theorem dX7_street_6 : decode cX7_street 6 = .ok (.tableswitch 114 0 4 #[34, 44, 54, 64, 82], 34) := by decide +kernel
theorem dX7_street_40 : decode cX7_street 40 = .ok (.aload_n 0, 1) := by decide +kernel
theorem dX7_street_41 : decode cX7_street 41 = .ok (.getfield 33, 3) := by decide +kernel
theorem dX7_street_44 : decode cX7_street 44 = .ok (.getfield 137, 3) := by decide +kernel
theorem dX7_street_47 : decode cX7_street 47 = .ok (.iload_n 1, 1) := by decide +kernel
theorem dX7_street_48 : decode cX7_street 48 = .ok (.iaload, 1) := by decide +kernel
theorem dX7_street_49 : decode cX7_street 49 = .ok (.ireturn, 1) := by decide +kernel
theorem dX7_street_50 : decode cX7_street 50 = .ok (.aload_n 0, 1) := by decide +kernel
theorem dX7_street_51 : decode cX7_street 51 = .ok (.getfield 33, 3) := by decide +kernel
theorem dX7_street_54 : decode cX7_street 54 = .ok (.getfield 141, 3) := by decide +kernel
theorem dX7_street_57 : decode cX7_street 57 = .ok (.iload_n 1, 1) := by decide +kernel
theorem dX7_street_58 : decode cX7_street 58 = .ok (.iaload, 1) := by decide +kernel
theorem dX7_street_59 : decode cX7_street 59 = .ok (.ireturn, 1) := by decide +kernel
theorem dX7_street_60 : decode cX7_street 60 = .ok (.aload_n 0, 1) := by decide +kernel
theorem dX7_street_61 : decode cX7_street 61 = .ok (.getfield 33, 3) := by decide +kernel
theorem dX7_street_64 : decode cX7_street 64 = .ok (.getfield 144, 3) := by decide +kernel
theorem dX7_street_67 : decode cX7_street 67 = .ok (.iload_n 1, 1) := by decide +kernel
theorem dX7_street_68 : decode cX7_street 68 = .ok (.iaload, 1) := by decide +kernel
theorem dX7_street_69 : decode cX7_street 69 = .ok (.ireturn, 1) := by decide +kernel
theorem dX7_street_70 : decode cX7_street 70 = .ok (.aload_n 0, 1) := by decide +kernel
theorem dX7_street_71 : decode cX7_street 71 = .ok (.getfield 33, 3) := by decide +kernel
theorem dX7_street_74 : decode cX7_street 74 = .ok (.getfield 146, 3) := by decide +kernel
theorem dX7_street_77 : decode cX7_street 77 = .ok (.iload_n 1, 1) := by decide +kernel
theorem dX7_street_78 : decode cX7_street 78 = .ok (.baload, 1) := by decide +kernel
theorem dX7_street_79 : decode cX7_street 79 = .ok (.ifCond .eq 7, 3) := by decide +kernel
theorem dX7_street_82 : decode cX7_street 82 = .ok (.iconst 1, 1) := by decide +kernel
theorem dX7_street_83 : decode cX7_street 83 = .ok (.goto 4, 3) := by decide +kernel
theorem dX7_street_86 : decode cX7_street 86 = .ok (.iconst 0, 1) := by decide +kernel
theorem dX7_street_87 : decode cX7_street 87 = .ok (.ireturn, 1) := by decide +kernel
theorem dX7_street_88 : decode cX7_street 88 = .ok (.aload_n 0, 1) := by decide +kernel
theorem dX7_street_89 : decode cX7_street 89 = .ok (.getfield 57, 3) := by decide +kernel
theorem dX7_street_92 : decode cX7_street 92 = .ok (.aload_n 0, 1) := by decide +kernel
theorem dX7_street_93 : decode cX7_street 93 = .ok (.getfield 33, 3) := by decide +kernel
theorem dX7_street_96 : decode cX7_street 96 = .ok (.invokevirtual 123, 3) := by decide +kernel
theorem dX7_street_99 : decode cX7_street 99 = .ok (.aload_n 0, 1) := by decide +kernel
theorem dX7_street_100 : decode cX7_street 100 = .ok (.getfield 57, 3) := by decide +kernel
theorem dX7_street_103 : decode cX7_street 103 = .ok (.aload_n 0, 1) := by decide +kernel
theorem dX7_street_104 : decode cX7_street 104 = .ok (.getfield 33, 3) := by decide +kernel
theorem dX7_street_107 : decode cX7_street 107 = .ok (.iload_n 1, 1) := by decide +kernel
theorem dX7_street_108 : decode cX7_street 108 = .ok (.invokevirtual 150, 3) := by decide +kernel
theorem dX7_street_111 : decode cX7_street 111 = .ok (.ifCond .eq 7, 3) := by decide +kernel
theorem dX7_street_114 : decode cX7_street 114 = .ok (.iconst 1, 1) := by decide +kernel
theorem dX7_street_115 : decode cX7_street 115 = .ok (.goto 4, 3) := by decide +kernel
theorem dX7_street_118 : decode cX7_street 118 = .ok (.iconst 0, 1) := by decide +kernel
theorem dX7_street_119 : decode cX7_street 119 = .ok (.ireturn, 1) := by decide +kernel
theorem dX7_street_120 : decode cX7_street 120 = .ok (.new 64, 3) := by decide +kernel
theorem dX7_street_123 : decode cX7_street 123 = .ok (.dup, 1) := by decide +kernel
theorem dX7_street_124 : decode cX7_street 124 = .ok (.ldc 154, 2) := by decide +kernel
theorem dX7_street_126 : decode cX7_street 126 = .ok (.invokespecial 68, 3) := by decide +kernel
theorem dX7_street_129 : decode cX7_street 129 = .ok (.athrow, 1) := by decide +kernel
theorem dX7_crossing_0 : decode cX7_crossing 0 = .ok (.aload_n 0, 1) := by decide +kernel
theorem dX7_crossing_1 : decode cX7_crossing 1 = .ok (.iload_n 1, 1) := by decide +kernel
theorem dX7_crossing_2 : decode cX7_crossing 2 = .ok (.invokevirtual 156, 3) := by decide +kernel
theorem dX7_crossing_5 : decode cX7_crossing 5 = .ok (.iload_n 2, 1) := by decide +kernel
theorem dX7_crossing_6 : decode cX7_crossing 6 = .ok (.tableswitch 113 0 3 #[30, 39, 66, 93], 30) := by decide +kernel
theorem dX7_crossing_36 : decode cX7_crossing 36 = .ok (.aload_n 0, 1) := by decide +kernel
theorem dX7_crossing_37 : decode cX7_crossing 37 = .ok (.getfield 33, 3) := by decide +kernel
theorem dX7_crossing_40 : decode cX7_crossing 40 = .ok (.iload_n 1, 1) := by decide +kernel
theorem dX7_crossing_41 : decode cX7_crossing 41 = .ok (.invokevirtual 159, 3) := by decide +kernel
theorem dX7_crossing_44 : decode cX7_crossing 44 = .ok (.ireturn, 1) := by decide +kernel
theorem dX7_crossing_45 : decode cX7_crossing 45 = .ok (.aload_n 0, 1) := by decide +kernel
theorem dX7_crossing_46 : decode cX7_crossing 46 = .ok (.getfield 57, 3) := by decide +kernel
theorem dX7_crossing_49 : decode cX7_crossing 49 = .ok (.aload_n 0, 1) := by decide +kernel
theorem dX7_crossing_50 : decode cX7_crossing 50 = .ok (.getfield 33, 3) := by decide +kernel
theorem dX7_crossing_53 : decode cX7_crossing 53 = .ok (.aload_n 0, 1) := by decide +kernel
theorem dX7_crossing_54 : decode cX7_crossing 54 = .ok (.getfield 33, 3) := by decide +kernel
theorem dX7_crossing_57 : decode cX7_crossing 57 = .ok (.getfield 113, 3) := by decide +kernel
theorem dX7_crossing_60 : decode cX7_crossing 60 = .ok (.invokevirtual 163, 3) := by decide +kernel
theorem dX7_crossing_63 : decode cX7_crossing 63 = .ok (.aload_n 0, 1) := by decide +kernel
theorem dX7_crossing_64 : decode cX7_crossing 64 = .ok (.getfield 57, 3) := by decide +kernel
theorem dX7_crossing_67 : decode cX7_crossing 67 = .ok (.iload_n 1, 1) := by decide +kernel
theorem dX7_crossing_68 : decode cX7_crossing 68 = .ok (.invokevirtual 167, 3) := by decide +kernel
theorem dX7_crossing_71 : decode cX7_crossing 71 = .ok (.ireturn, 1) := by decide +kernel
theorem dX7_crossing_72 : decode cX7_crossing 72 = .ok (.aload_n 0, 1) := by decide +kernel
theorem dX7_crossing_73 : decode cX7_crossing 73 = .ok (.getfield 57, 3) := by decide +kernel
theorem dX7_crossing_76 : decode cX7_crossing 76 = .ok (.aload_n 0, 1) := by decide +kernel
theorem dX7_crossing_77 : decode cX7_crossing 77 = .ok (.getfield 33, 3) := by decide +kernel
theorem dX7_crossing_80 : decode cX7_crossing 80 = .ok (.aload_n 0, 1) := by decide +kernel
theorem dX7_crossing_81 : decode cX7_crossing 81 = .ok (.getfield 33, 3) := by decide +kernel
theorem dX7_crossing_84 : decode cX7_crossing 84 = .ok (.getfield 116, 3) := by decide +kernel
theorem dX7_crossing_87 : decode cX7_crossing 87 = .ok (.invokevirtual 163, 3) := by decide +kernel
theorem dX7_crossing_90 : decode cX7_crossing 90 = .ok (.aload_n 0, 1) := by decide +kernel
theorem dX7_crossing_91 : decode cX7_crossing 91 = .ok (.getfield 57, 3) := by decide +kernel
theorem dX7_crossing_94 : decode cX7_crossing 94 = .ok (.iload_n 1, 1) := by decide +kernel
theorem dX7_crossing_95 : decode cX7_crossing 95 = .ok (.invokevirtual 167, 3) := by decide +kernel
theorem dX7_crossing_98 : decode cX7_crossing 98 = .ok (.ireturn, 1) := by decide +kernel
theorem dX7_crossing_99 : decode cX7_crossing 99 = .ok (.aload_n 0, 1) := by decide +kernel
theorem dX7_crossing_100 : decode cX7_crossing 100 = .ok (.getfield 57, 3) := by decide +kernel
theorem dX7_crossing_103 : decode cX7_crossing 103 = .ok (.aload_n 0, 1) := by decide +kernel
theorem dX7_crossing_104 : decode cX7_crossing 104 = .ok (.getfield 33, 3) := by decide +kernel
theorem dX7_crossing_107 : decode cX7_crossing 107 = .ok (.invokevirtual 123, 3) := by decide +kernel
theorem dX7_crossing_110 : decode cX7_crossing 110 = .ok (.aload_n 0, 1) := by decide +kernel
theorem dX7_crossing_111 : decode cX7_crossing 111 = .ok (.getfield 57, 3) := by decide +kernel
theorem dX7_crossing_114 : decode cX7_crossing 114 = .ok (.iload_n 1, 1) := by decide +kernel
theorem dX7_crossing_115 : decode cX7_crossing 115 = .ok (.invokevirtual 170, 3) := by decide +kernel
theorem dX7_crossing_118 : decode cX7_crossing 118 = .ok (.ireturn, 1) := by decide +kernel
theorem dX7_crossing_119 : decode cX7_crossing 119 = .ok (.new 64, 3) := by decide +kernel
end
section
theorem dX7_crossing_122 : decode cX7_crossing 122 = .ok (.dup, 1) := by decide +kernel
theorem dX7_crossing_123 : decode cX7_crossing 123 = .ok (.ldc 173, 2) := by decide +kernel
theorem dX7_crossing_125 : decode cX7_crossing 125 = .ok (.invokespecial 68, 3) := by decide +kernel
theorem dX7_crossing_128 : decode cX7_crossing 128 = .ok (.athrow, 1) := by decide +kernel
theorem dX7_between_0 : decode cX7_between 0 = .ok (.aload_n 0, 1) := by decide +kernel
theorem dX7_between_1 : decode cX7_between 1 = .ok (.iload_n 1, 1) := by decide +kernel
theorem dX7_between_2 : decode cX7_between 2 = .ok (.invokevirtual 156, 3) := by decide +kernel
theorem dX7_between_5 : decode cX7_between 5 = .ok (.aload_n 0, 1) := by decide +kernel
theorem dX7_between_6 : decode cX7_between 6 = .ok (.iload_n 2, 1) := by decide +kernel
theorem dX7_between_7 : decode cX7_between 7 = .ok (.invokevirtual 156, 3) := by decide +kernel
theorem dX7_between_10 : decode cX7_between 10 = .ok (.aload_n 0, 1) := by decide +kernel
theorem dX7_between_11 : decode cX7_between 11 = .ok (.getfield 33, 3) := by decide +kernel
theorem dX7_between_14 : decode cX7_between 14 = .ok (.iload_n 1, 1) := by decide +kernel
theorem dX7_between_15 : decode cX7_between 15 = .ok (.iload_n 2, 1) := by decide +kernel
theorem dX7_between_16 : decode cX7_between 16 = .ok (.invokevirtual 175, 3) := by decide +kernel
theorem dX7_between_19 : decode cX7_between 19 = .ok (.ireturn, 1) := by decide +kernel
theorem dX7_wayAt_0 : decode cX7_wayAt 0 = .ok (.iload_n 1, 1) := by decide +kernel
theorem dX7_wayAt_1 : decode cX7_wayAt 1 = .ok (.invokestatic 179, 3) := by decide +kernel
theorem dX7_wayAt_4 : decode cX7_wayAt 4 = .ok (.aload_n 0, 1) := by decide +kernel
theorem dX7_wayAt_5 : decode cX7_wayAt 5 = .ok (.getfield 57, 3) := by decide +kernel
theorem dX7_wayAt_8 : decode cX7_wayAt 8 = .ok (.aload_n 0, 1) := by decide +kernel
theorem dX7_wayAt_9 : decode cX7_wayAt 9 = .ok (.getfield 33, 3) := by decide +kernel
theorem dX7_wayAt_12 : decode cX7_wayAt 12 = .ok (.invokevirtual 123, 3) := by decide +kernel
theorem dX7_wayAt_15 : decode cX7_wayAt 15 = .ok (.aload_n 0, 1) := by decide +kernel
theorem dX7_wayAt_16 : decode cX7_wayAt 16 = .ok (.getfield 57, 3) := by decide +kernel
theorem dX7_wayAt_19 : decode cX7_wayAt 19 = .ok (.iload_n 1, 1) := by decide +kernel
theorem dX7_wayAt_20 : decode cX7_wayAt 20 = .ok (.invokevirtual 182, 3) := by decide +kernel
theorem dX7_wayAt_23 : decode cX7_wayAt 23 = .ok (.ireturn, 1) := by decide +kernel
theorem dX7_addCrossing_0 : decode cX7_addCrossing 0 = .ok (.aload_n 0, 1) := by decide +kernel
theorem dX7_addCrossing_1 : decode cX7_addCrossing 1 = .ok (.getfield 37, 3) := by decide +kernel
theorem dX7_addCrossing_4 : decode cX7_addCrossing 4 = .ok (.aload_n 0, 1) := by decide +kernel
theorem dX7_addCrossing_5 : decode cX7_addCrossing 5 = .ok (.getfield 33, 3) := by decide +kernel
theorem dX7_addCrossing_8 : decode cX7_addCrossing 8 = .ok (.invokevirtual 93, 3) := by decide +kernel
theorem dX7_addCrossing_11 : decode cX7_addCrossing 11 = .ok (.aload_n 0, 1) := by decide +kernel
theorem dX7_addCrossing_12 : decode cX7_addCrossing 12 = .ok (.getfield 37, 3) := by decide +kernel
theorem dX7_addCrossing_15 : decode cX7_addCrossing 15 = .ok (.invokevirtual 185, 3) := by decide +kernel
theorem dX7_addCrossing_18 : decode cX7_addCrossing 18 = .ok (.invokestatic 188, 3) := by decide +kernel
theorem dX7_addCrossing_21 : decode cX7_addCrossing 21 = .ok (.aload_n 0, 1) := by decide +kernel
theorem dX7_addCrossing_22 : decode cX7_addCrossing 22 = .ok (.invokevirtual 191, 3) := by decide +kernel
theorem dX7_addCrossing_25 : decode cX7_addCrossing 25 = .ok (.aload_n 0, 1) := by decide +kernel
theorem dX7_addCrossing_26 : decode cX7_addCrossing 26 = .ok (.getfield 33, 3) := by decide +kernel
theorem dX7_addCrossing_29 : decode cX7_addCrossing 29 = .ok (.getfield 106, 3) := by decide +kernel
theorem dX7_addCrossing_32 : decode cX7_addCrossing 32 = .ok (.iconst 1, 1) := by decide +kernel
theorem dX7_addCrossing_33 : decode cX7_addCrossing 33 = .ok (.isub, 1) := by decide +kernel
theorem dX7_addCrossing_34 : decode cX7_addCrossing 34 = .ok (.ireturn, 1) := by decide +kernel
theorem dX7_addStreet_0 : decode cX7_addStreet 0 = .ok (.aload_n 0, 1) := by decide +kernel
theorem dX7_addStreet_1 : decode cX7_addStreet 1 = .ok (.getfield 37, 3) := by decide +kernel
theorem dX7_addStreet_4 : decode cX7_addStreet 4 = .ok (.aload_n 0, 1) := by decide +kernel
theorem dX7_addStreet_5 : decode cX7_addStreet 5 = .ok (.getfield 33, 3) := by decide +kernel
theorem dX7_addStreet_8 : decode cX7_addStreet 8 = .ok (.invokevirtual 93, 3) := by decide +kernel
theorem dX7_addStreet_11 : decode cX7_addStreet 11 = .ok (.aload_n 0, 1) := by decide +kernel
theorem dX7_addStreet_12 : decode cX7_addStreet 12 = .ok (.getfield 37, 3) := by decide +kernel
theorem dX7_addStreet_15 : decode cX7_addStreet 15 = .ok (.iload_n 1, 1) := by decide +kernel
theorem dX7_addStreet_16 : decode cX7_addStreet 16 = .ok (.iload_n 2, 1) := by decide +kernel
theorem dX7_addStreet_17 : decode cX7_addStreet 17 = .ok (.iload_n 3, 1) := by decide +kernel
theorem dX7_addStreet_18 : decode cX7_addStreet 18 = .ok (.invokevirtual 194, 3) := by decide +kernel
theorem dX7_addStreet_21 : decode cX7_addStreet 21 = .ok (.invokestatic 188, 3) := by decide +kernel
theorem dX7_addStreet_24 : decode cX7_addStreet 24 = .ok (.aload_n 0, 1) := by decide +kernel
theorem dX7_addStreet_25 : decode cX7_addStreet 25 = .ok (.invokevirtual 191, 3) := by decide +kernel
theorem dX7_addStreet_28 : decode cX7_addStreet 28 = .ok (.aload_n 0, 1) := by decide +kernel
theorem dX7_addStreet_29 : decode cX7_addStreet 29 = .ok (.getfield 33, 3) := by decide +kernel
theorem dX7_addStreet_32 : decode cX7_addStreet 32 = .ok (.getfield 103, 3) := by decide +kernel
theorem dX7_addStreet_35 : decode cX7_addStreet 35 = .ok (.iconst 1, 1) := by decide +kernel
theorem dX7_addStreet_36 : decode cX7_addStreet 36 = .ok (.isub, 1) := by decide +kernel
theorem dX7_addStreet_37 : decode cX7_addStreet 37 = .ok (.ireturn, 1) := by decide +kernel
theorem dX7_removeStreet_0 : decode cX7_removeStreet 0 = .ok (.aload_n 0, 1) := by decide +kernel
theorem dX7_removeStreet_1 : decode cX7_removeStreet 1 = .ok (.getfield 37, 3) := by decide +kernel
theorem dX7_removeStreet_4 : decode cX7_removeStreet 4 = .ok (.aload_n 0, 1) := by decide +kernel
theorem dX7_removeStreet_5 : decode cX7_removeStreet 5 = .ok (.getfield 33, 3) := by decide +kernel
theorem dX7_removeStreet_8 : decode cX7_removeStreet 8 = .ok (.invokevirtual 93, 3) := by decide +kernel
theorem dX7_removeStreet_11 : decode cX7_removeStreet 11 = .ok (.aload_n 0, 1) := by decide +kernel
theorem dX7_removeStreet_12 : decode cX7_removeStreet 12 = .ok (.getfield 37, 3) := by decide +kernel
theorem dX7_removeStreet_15 : decode cX7_removeStreet 15 = .ok (.iload_n 1, 1) := by decide +kernel
theorem dX7_removeStreet_16 : decode cX7_removeStreet 16 = .ok (.invokevirtual 198, 3) := by decide +kernel
theorem dX7_removeStreet_19 : decode cX7_removeStreet 19 = .ok (.invokestatic 188, 3) := by decide +kernel
theorem dX7_removeStreet_22 : decode cX7_removeStreet 22 = .ok (.aload_n 0, 1) := by decide +kernel
theorem dX7_removeStreet_23 : decode cX7_removeStreet 23 = .ok (.invokevirtual 191, 3) := by decide +kernel
theorem dX7_removeStreet_26 : decode cX7_removeStreet 26 = .ok (.aload_n 0, 1) := by decide +kernel
theorem dX7_removeStreet_27 : decode cX7_removeStreet 27 = .ok (.aload_n 0, 1) := by decide +kernel
theorem dX7_removeStreet_28 : decode cX7_removeStreet 28 = .ok (.getfield 33, 3) := by decide +kernel
theorem dX7_removeStreet_31 : decode cX7_removeStreet 31 = .ok (.invokevirtual 119, 3) := by decide +kernel
theorem dX7_removeStreet_34 : decode cX7_removeStreet 34 = .ok (.ireturn, 1) := by decide +kernel
theorem dX7_setLength_0 : decode cX7_setLength 0 = .ok (.aload_n 0, 1) := by decide +kernel
theorem dX7_setLength_1 : decode cX7_setLength 1 = .ok (.getfield 37, 3) := by decide +kernel
theorem dX7_setLength_4 : decode cX7_setLength 4 = .ok (.aload_n 0, 1) := by decide +kernel
theorem dX7_setLength_5 : decode cX7_setLength 5 = .ok (.getfield 33, 3) := by decide +kernel
theorem dX7_setLength_8 : decode cX7_setLength 8 = .ok (.invokevirtual 93, 3) := by decide +kernel
theorem dX7_setLength_11 : decode cX7_setLength 11 = .ok (.aload_n 0, 1) := by decide +kernel
theorem dX7_setLength_12 : decode cX7_setLength 12 = .ok (.getfield 37, 3) := by decide +kernel
theorem dX7_setLength_15 : decode cX7_setLength 15 = .ok (.iload_n 1, 1) := by decide +kernel
theorem dX7_setLength_16 : decode cX7_setLength 16 = .ok (.iload_n 2, 1) := by decide +kernel
theorem dX7_setLength_17 : decode cX7_setLength 17 = .ok (.invokevirtual 201, 3) := by decide +kernel
theorem dX7_setLength_20 : decode cX7_setLength 20 = .ok (.invokestatic 188, 3) := by decide +kernel
theorem dX7_setLength_23 : decode cX7_setLength 23 = .ok (.aload_n 0, 1) := by decide +kernel
theorem dX7_setLength_24 : decode cX7_setLength 24 = .ok (.getfield 33, 3) := by decide +kernel
theorem dX7_setLength_27 : decode cX7_setLength 27 = .ok (.iload_n 1, 1) := by decide +kernel
theorem dX7_setLength_28 : decode cX7_setLength 28 = .ok (.invokevirtual 204, 3) := by decide +kernel
theorem dX7_setLength_31 : decode cX7_setLength 31 = .ok (.istore_n 3, 1) := by decide +kernel
theorem dX7_setLength_32 : decode cX7_setLength 32 = .ok (.aload_n 0, 1) := by decide +kernel
theorem dX7_setLength_33 : decode cX7_setLength 33 = .ok (.invokevirtual 191, 3) := by decide +kernel
theorem dX7_setLength_36 : decode cX7_setLength 36 = .ok (.iload_n 3, 1) := by decide +kernel
theorem dX7_setLength_37 : decode cX7_setLength 37 = .ok (.ireturn, 1) := by decide +kernel
theorem dX7_close_0 : decode cX7_close 0 = .ok (.aload_n 0, 1) := by decide +kernel
theorem dX7_close_1 : decode cX7_close 1 = .ok (.getfield 37, 3) := by decide +kernel
theorem dX7_close_4 : decode cX7_close 4 = .ok (.aload_n 0, 1) := by decide +kernel
theorem dX7_close_5 : decode cX7_close 5 = .ok (.getfield 33, 3) := by decide +kernel
theorem dX7_close_8 : decode cX7_close 8 = .ok (.invokevirtual 93, 3) := by decide +kernel
theorem dX7_close_11 : decode cX7_close 11 = .ok (.aload_n 0, 1) := by decide +kernel
theorem dX7_close_12 : decode cX7_close 12 = .ok (.getfield 37, 3) := by decide +kernel
theorem dX7_close_15 : decode cX7_close 15 = .ok (.iload_n 1, 1) := by decide +kernel
theorem dX7_close_16 : decode cX7_close 16 = .ok (.iload_n 2, 1) := by decide +kernel
theorem dX7_close_17 : decode cX7_close 17 = .ok (.invokevirtual 207, 3) := by decide +kernel
theorem dX7_close_20 : decode cX7_close 20 = .ok (.invokestatic 188, 3) := by decide +kernel
theorem dX7_close_23 : decode cX7_close 23 = .ok (.aload_n 0, 1) := by decide +kernel
theorem dX7_close_24 : decode cX7_close 24 = .ok (.invokevirtual 191, 3) := by decide +kernel
theorem dX7_close_27 : decode cX7_close 27 = .ok (.aload_n 0, 1) := by decide +kernel
theorem dX7_close_28 : decode cX7_close 28 = .ok (.aload_n 0, 1) := by decide +kernel
theorem dX7_close_29 : decode cX7_close 29 = .ok (.getfield 33, 3) := by decide +kernel
theorem dX7_close_32 : decode cX7_close 32 = .ok (.invokevirtual 119, 3) := by decide +kernel
theorem dX7_close_35 : decode cX7_close 35 = .ok (.ireturn, 1) := by decide +kernel
theorem dX7_setEnds_0 : decode cX7_setEnds 0 = .ok (.aload_n 0, 1) := by decide +kernel
theorem dX7_setEnds_1 : decode cX7_setEnds 1 = .ok (.getfield 37, 3) := by decide +kernel
theorem dX7_setEnds_4 : decode cX7_setEnds 4 = .ok (.aload_n 0, 1) := by decide +kernel
theorem dX7_setEnds_5 : decode cX7_setEnds 5 = .ok (.getfield 33, 3) := by decide +kernel
theorem dX7_setEnds_8 : decode cX7_setEnds 8 = .ok (.invokevirtual 93, 3) := by decide +kernel
theorem dX7_setEnds_11 : decode cX7_setEnds 11 = .ok (.aload_n 0, 1) := by decide +kernel
theorem dX7_setEnds_12 : decode cX7_setEnds 12 = .ok (.getfield 37, 3) := by decide +kernel
theorem dX7_setEnds_15 : decode cX7_setEnds 15 = .ok (.iload_n 1, 1) := by decide +kernel
theorem dX7_setEnds_16 : decode cX7_setEnds 16 = .ok (.iload_n 2, 1) := by decide +kernel
theorem dX7_setEnds_17 : decode cX7_setEnds 17 = .ok (.invokevirtual 211, 3) := by decide +kernel
theorem dX7_setEnds_20 : decode cX7_setEnds 20 = .ok (.invokestatic 188, 3) := by decide +kernel
theorem dX7_setEnds_23 : decode cX7_setEnds 23 = .ok (.aload_n 0, 1) := by decide +kernel
theorem dX7_setEnds_24 : decode cX7_setEnds 24 = .ok (.invokevirtual 191, 3) := by decide +kernel
theorem dX7_setEnds_27 : decode cX7_setEnds 27 = .ok (.aload_n 0, 1) := by decide +kernel
theorem dX7_setEnds_28 : decode cX7_setEnds 28 = .ok (.aload_n 0, 1) := by decide +kernel
theorem dX7_setEnds_29 : decode cX7_setEnds 29 = .ok (.getfield 33, 3) := by decide +kernel
theorem dX7_setEnds_32 : decode cX7_setEnds 32 = .ok (.invokevirtual 119, 3) := by decide +kernel
theorem dX7_setEnds_35 : decode cX7_setEnds 35 = .ok (.ireturn, 1) := by decide +kernel
theorem dX7_runPlan_0 : decode cX7_runPlan 0 = .ok (.aload_n 0, 1) := by decide +kernel
theorem dX7_runPlan_1 : decode cX7_runPlan 1 = .ok (.getfield 26, 3) := by decide +kernel
theorem dX7_runPlan_4 : decode cX7_runPlan 4 = .ok (.aload_n 0, 1) := by decide +kernel
theorem dX7_runPlan_5 : decode cX7_runPlan 5 = .ok (.getfield 10, 3) := by decide +kernel
theorem dX7_runPlan_8 : decode cX7_runPlan 8 = .ok (.invokevirtual 84, 3) := by decide +kernel
theorem dX7_runPlan_11 : decode cX7_runPlan 11 = .ok (.sipush (-999), 3) := by decide +kernel
theorem dX7_runPlan_14 : decode cX7_runPlan 14 = .ok (.if_icmp .eq 13, 3) := by decide +kernel
theorem dX7_runPlan_17 : decode cX7_runPlan 17 = .ok (.new 75, 3) := by decide +kernel
theorem dX7_runPlan_20 : decode cX7_runPlan 20 = .ok (.dup, 1) := by decide +kernel
theorem dX7_runPlan_21 : decode cX7_runPlan 21 = .ok (.ldc 214, 2) := by decide +kernel
theorem dX7_runPlan_23 : decode cX7_runPlan 23 = .ok (.invokespecial 79, 3) := by decide +kernel
theorem dX7_runPlan_26 : decode cX7_runPlan 26 = .ok (.athrow, 1) := by decide +kernel
theorem dX7_runPlan_27 : decode cX7_runPlan 27 = .ok (.aload_n 0, 1) := by decide +kernel
theorem dX7_runPlan_28 : decode cX7_runPlan 28 = .ok (.getfield 37, 3) := by decide +kernel
theorem dX7_runPlan_31 : decode cX7_runPlan 31 = .ok (.aload_n 0, 1) := by decide +kernel
theorem dX7_runPlan_32 : decode cX7_runPlan 32 = .ok (.getfield 33, 3) := by decide +kernel
theorem dX7_runPlan_35 : decode cX7_runPlan 35 = .ok (.invokevirtual 93, 3) := by decide +kernel
theorem dX7_runPlan_38 : decode cX7_runPlan 38 = .ok (.iconst 0, 1) := by decide +kernel
theorem dX7_runPlan_39 : decode cX7_runPlan 39 = .ok (.istore_n 1, 1) := by decide +kernel
theorem dX7_runPlan_40 : decode cX7_runPlan 40 = .ok (.iload_n 1, 1) := by decide +kernel
theorem dX7_runPlan_41 : decode cX7_runPlan 41 = .ok (.aload_n 0, 1) := by decide +kernel
theorem dX7_runPlan_42 : decode cX7_runPlan 42 = .ok (.getfield 26, 3) := by decide +kernel
theorem dX7_runPlan_45 : decode cX7_runPlan 45 = .ok (.getfield 216, 3) := by decide +kernel
theorem dX7_runPlan_48 : decode cX7_runPlan 48 = .ok (.if_icmp .ge 17, 3) := by decide +kernel
theorem dX7_runPlan_51 : decode cX7_runPlan 51 = .ok (.aload_n 0, 1) := by decide +kernel
theorem dX7_runPlan_52 : decode cX7_runPlan 52 = .ok (.iload_n 1, 1) := by decide +kernel
theorem dX7_runPlan_53 : decode cX7_runPlan 53 = .ok (.invokevirtual 219, 3) := by decide +kernel
theorem dX7_runPlan_56 : decode cX7_runPlan 56 = .ok (.ifCond .ne 9, 3) := by decide +kernel
theorem dX7_runPlan_59 : decode cX7_runPlan 59 = .ok (.iinc 1 1, 3) := by decide +kernel
theorem dX7_runPlan_62 : decode cX7_runPlan 62 = .ok (.goto (-22), 3) := by decide +kernel
theorem dX7_runPlan_65 : decode cX7_runPlan 65 = .ok (.aload_n 0, 1) := by decide +kernel
theorem dX7_runPlan_66 : decode cX7_runPlan 66 = .ok (.invokevirtual 191, 3) := by decide +kernel
theorem dX7_runPlan_69 : decode cX7_runPlan 69 = .ok (.iload_n 1, 1) := by decide +kernel
theorem dX7_runPlan_70 : decode cX7_runPlan 70 = .ok (.ireturn, 1) := by decide +kernel
theorem dX7_undo_0 : decode cX7_undo 0 = .ok (.aload_n 0, 1) := by decide +kernel
theorem dX7_undo_1 : decode cX7_undo 1 = .ok (.getfield 43, 3) := by decide +kernel
theorem dX7_undo_4 : decode cX7_undo 4 = .ok (.getfield 222, 3) := by decide +kernel
theorem dX7_undo_7 : decode cX7_undo 7 = .ok (.ifCond .ne 13, 3) := by decide +kernel
theorem dX7_undo_10 : decode cX7_undo 10 = .ok (.new 75, 3) := by decide +kernel
theorem dX7_undo_13 : decode cX7_undo 13 = .ok (.dup, 1) := by decide +kernel
theorem dX7_undo_14 : decode cX7_undo 14 = .ok (.ldc 225, 2) := by decide +kernel
theorem dX7_undo_16 : decode cX7_undo 16 = .ok (.invokespecial 79, 3) := by decide +kernel
theorem dX7_undo_19 : decode cX7_undo 19 = .ok (.athrow, 1) := by decide +kernel
theorem dX7_undo_20 : decode cX7_undo 20 = .ok (.aload_n 0, 1) := by decide +kernel
theorem dX7_undo_21 : decode cX7_undo 21 = .ok (.getfield 43, 3) := by decide +kernel
theorem dX7_undo_24 : decode cX7_undo 24 = .ok (.aload_n 0, 1) := by decide +kernel
theorem dX7_undo_25 : decode cX7_undo 25 = .ok (.getfield 33, 3) := by decide +kernel
theorem dX7_undo_28 : decode cX7_undo 28 = .ok (.invokevirtual 227, 3) := by decide +kernel
theorem dX7_undo_31 : decode cX7_undo 31 = .ok (.aload_n 0, 1) := by decide +kernel
theorem dX7_undo_32 : decode cX7_undo 32 = .ok (.getfield 43, 3) := by decide +kernel
theorem dX7_undo_35 : decode cX7_undo 35 = .ok (.getfield 222, 3) := by decide +kernel
theorem dX7_undo_38 : decode cX7_undo 38 = .ok (.ireturn, 1) := by decide +kernel
theorem dX7_without_0 : decode cX7_without 0 = .ok (.aload_n 0, 1) := by decide +kernel
theorem dX7_without_1 : decode cX7_without 1 = .ok (.iload_n 1, 1) := by decide +kernel
theorem dX7_without_2 : decode cX7_without 2 = .ok (.invokevirtual 133, 3) := by decide +kernel
theorem dX7_without_5 : decode cX7_without 5 = .ok (.aload_n 0, 1) := by decide +kernel
theorem dX7_without_6 : decode cX7_without 6 = .ok (.iload_n 1, 1) := by decide +kernel
theorem dX7_without_7 : decode cX7_without 7 = .ok (.invokevirtual 230, 3) := by decide +kernel
theorem dX7_without_10 : decode cX7_without 10 = .ok (.ireturn, 1) := by decide +kernel
theorem dX7_withoutAt_0 : decode cX7_withoutAt 0 = .ok (.aload_n 0, 1) := by decide +kernel
theorem dX7_withoutAt_1 : decode cX7_withoutAt 1 = .ok (.iload_n 1, 1) := by decide +kernel
theorem dX7_withoutAt_2 : decode cX7_withoutAt 2 = .ok (.invokevirtual 133, 3) := by decide +kernel
theorem dX7_withoutAt_5 : decode cX7_withoutAt 5 = .ok (.iload_n 2, 1) := by decide +kernel
theorem dX7_withoutAt_6 : decode cX7_withoutAt 6 = .ok (.invokestatic 179, 3) := by decide +kernel
theorem dX7_withoutAt_9 : decode cX7_withoutAt 9 = .ok (.aload_n 0, 1) := by decide +kernel
theorem dX7_withoutAt_10 : decode cX7_withoutAt 10 = .ok (.getfield 37, 3) := by decide +kernel
theorem dX7_withoutAt_13 : decode cX7_withoutAt 13 = .ok (.aload_n 0, 1) := by decide +kernel
theorem dX7_withoutAt_14 : decode cX7_withoutAt 14 = .ok (.getfield 33, 3) := by decide +kernel
theorem dX7_withoutAt_17 : decode cX7_withoutAt 17 = .ok (.invokevirtual 93, 3) := by decide +kernel
theorem dX7_withoutAt_20 : decode cX7_withoutAt 20 = .ok (.aload_n 0, 1) := by decide +kernel
theorem dX7_withoutAt_21 : decode cX7_withoutAt 21 = .ok (.getfield 37, 3) := by decide +kernel
theorem dX7_withoutAt_24 : decode cX7_withoutAt 24 = .ok (.iload_n 1, 1) := by decide +kernel
theorem dX7_withoutAt_25 : decode cX7_withoutAt 25 = .ok (.iconst 1, 1) := by decide +kernel
theorem dX7_withoutAt_26 : decode cX7_withoutAt 26 = .ok (.invokevirtual 207, 3) := by decide +kernel
theorem dX7_withoutAt_29 : decode cX7_withoutAt 29 = .ok (.pop, 1) := by decide +kernel
theorem dX7_withoutAt_30 : decode cX7_withoutAt 30 = .ok (.aload_n 0, 1) := by decide +kernel
theorem dX7_withoutAt_31 : decode cX7_withoutAt 31 = .ok (.getfield 61, 3) := by decide +kernel
theorem dX7_withoutAt_34 : decode cX7_withoutAt 34 = .ok (.aload_n 0, 1) := by decide +kernel
theorem dX7_withoutAt_35 : decode cX7_withoutAt 35 = .ok (.getfield 37, 3) := by decide +kernel
theorem dX7_withoutAt_38 : decode cX7_withoutAt 38 = .ok (.invokevirtual 123, 3) := by decide +kernel
theorem dX7_withoutAt_41 : decode cX7_withoutAt 41 = .ok (.aload_n 0, 1) := by decide +kernel
theorem dX7_withoutAt_42 : decode cX7_withoutAt 42 = .ok (.getfield 61, 3) := by decide +kernel
theorem dX7_withoutAt_45 : decode cX7_withoutAt 45 = .ok (.iload_n 2, 1) := by decide +kernel
theorem dX7_withoutAt_46 : decode cX7_withoutAt 46 = .ok (.invokevirtual 182, 3) := by decide +kernel
theorem dX7_withoutAt_49 : decode cX7_withoutAt 49 = .ok (.ireturn, 1) := by decide +kernel
theorem dX7_dearest_0 : decode cX7_dearest 0 = .ok (.aload_n 0, 1) := by decide +kernel
theorem dX7_dearest_1 : decode cX7_dearest 1 = .ok (.getfield 57, 3) := by decide +kernel
theorem dX7_dearest_4 : decode cX7_dearest 4 = .ok (.aload_n 0, 1) := by decide +kernel
theorem dX7_dearest_5 : decode cX7_dearest 5 = .ok (.getfield 33, 3) := by decide +kernel
theorem dX7_dearest_8 : decode cX7_dearest 8 = .ok (.invokevirtual 123, 3) := by decide +kernel
theorem dX7_dearest_11 : decode cX7_dearest 11 = .ok (.sipush (-999), 3) := by decide +kernel
theorem dX7_dearest_14 : decode cX7_dearest 14 = .ok (.istore_n 1, 1) := by decide +kernel
theorem dX7_dearest_15 : decode cX7_dearest 15 = .ok (.iconst 0, 1) := by decide +kernel
theorem dX7_dearest_16 : decode cX7_dearest 16 = .ok (.istore_n 2, 1) := by decide +kernel
theorem dX7_dearest_17 : decode cX7_dearest 17 = .ok (.iconst 0, 1) := by decide +kernel
theorem dX7_dearest_18 : decode cX7_dearest 18 = .ok (.istore_n 3, 1) := by decide +kernel
theorem dX7_dearest_19 : decode cX7_dearest 19 = .ok (.iload_n 3, 1) := by decide +kernel
theorem dX7_dearest_20 : decode cX7_dearest 20 = .ok (.aload_n 0, 1) := by decide +kernel
theorem dX7_dearest_21 : decode cX7_dearest 21 = .ok (.getfield 33, 3) := by decide +kernel
theorem dX7_dearest_24 : decode cX7_dearest 24 = .ok (.getfield 103, 3) := by decide +kernel
theorem dX7_dearest_27 : decode cX7_dearest 27 = .ok (.if_icmp .ge 59, 3) := by decide +kernel
theorem dX7_dearest_30 : decode cX7_dearest 30 = .ok (.aload_n 0, 1) := by decide +kernel
theorem dX7_dearest_31 : decode cX7_dearest 31 = .ok (.getfield 57, 3) := by decide +kernel
theorem dX7_dearest_34 : decode cX7_dearest 34 = .ok (.aload_n 0, 1) := by decide +kernel
theorem dX7_dearest_35 : decode cX7_dearest 35 = .ok (.getfield 33, 3) := by decide +kernel
theorem dX7_dearest_38 : decode cX7_dearest 38 = .ok (.iload_n 3, 1) := by decide +kernel
theorem dX7_dearest_39 : decode cX7_dearest 39 = .ok (.invokevirtual 150, 3) := by decide +kernel
theorem dX7_dearest_42 : decode cX7_dearest 42 = .ok (.ifCond .eq 38, 3) := by decide +kernel
theorem dX7_dearest_45 : decode cX7_dearest 45 = .ok (.aload_n 0, 1) := by decide +kernel
theorem dX7_dearest_46 : decode cX7_dearest 46 = .ok (.iload_n 3, 1) := by decide +kernel
theorem dX7_dearest_47 : decode cX7_dearest 47 = .ok (.invokevirtual 230, 3) := by decide +kernel
theorem dX7_dearest_50 : decode cX7_dearest 50 = .ok (.istore 4, 2) := by decide +kernel
theorem dX7_dearest_52 : decode cX7_dearest 52 = .ok (.iload 4, 2) := by decide +kernel
theorem dX7_dearest_54 : decode cX7_dearest 54 = .ok (.sipush (-999), 3) := by decide +kernel
theorem dX7_dearest_57 : decode cX7_dearest 57 = .ok (.if_icmp .ne 5, 3) := by decide +kernel
theorem dX7_dearest_60 : decode cX7_dearest 60 = .ok (.iload_n 3, 1) := by decide +kernel
theorem dX7_dearest_61 : decode cX7_dearest 61 = .ok (.ireturn, 1) := by decide +kernel
theorem dX7_dearest_62 : decode cX7_dearest 62 = .ok (.iload_n 1, 1) := by decide +kernel
theorem dX7_dearest_63 : decode cX7_dearest 63 = .ok (.sipush (-999), 3) := by decide +kernel
theorem dX7_dearest_66 : decode cX7_dearest 66 = .ok (.if_icmp .eq 9, 3) := by decide +kernel
theorem dX7_dearest_69 : decode cX7_dearest 69 = .ok (.iload 4, 2) := by decide +kernel
theorem dX7_dearest_71 : decode cX7_dearest 71 = .ok (.iload_n 2, 1) := by decide +kernel
theorem dX7_dearest_72 : decode cX7_dearest 72 = .ok (.if_icmp .le 8, 3) := by decide +kernel
theorem dX7_dearest_75 : decode cX7_dearest 75 = .ok (.iload_n 3, 1) := by decide +kernel
theorem dX7_dearest_76 : decode cX7_dearest 76 = .ok (.istore_n 1, 1) := by decide +kernel
theorem dX7_dearest_77 : decode cX7_dearest 77 = .ok (.iload 4, 2) := by decide +kernel
theorem dX7_dearest_79 : decode cX7_dearest 79 = .ok (.istore_n 2, 1) := by decide +kernel
theorem dX7_dearest_80 : decode cX7_dearest 80 = .ok (.iinc 3 1, 3) := by decide +kernel
theorem dX7_dearest_83 : decode cX7_dearest 83 = .ok (.goto (-64), 3) := by decide +kernel
theorem dX7_dearest_86 : decode cX7_dearest 86 = .ok (.iload_n 1, 1) := by decide +kernel
theorem dX7_dearest_87 : decode cX7_dearest 87 = .ok (.ireturn, 1) := by decide +kernel
theorem dX7_upTo_0 : decode cX7_upTo 0 = .ok (.aload_n 0, 1) := by decide +kernel
theorem dX7_upTo_1 : decode cX7_upTo 1 = .ok (.iload_n 1, 1) := by decide +kernel
theorem dX7_upTo_2 : decode cX7_upTo 2 = .ok (.invokevirtual 133, 3) := by decide +kernel
theorem dX7_upTo_5 : decode cX7_upTo 5 = .ok (.aload_n 0, 1) := by decide +kernel
theorem dX7_upTo_6 : decode cX7_upTo 6 = .ok (.getfield 33, 3) := by decide +kernel
theorem dX7_upTo_9 : decode cX7_upTo 9 = .ok (.getfield 146, 3) := by decide +kernel
theorem dX7_upTo_12 : decode cX7_upTo 12 = .ok (.iload_n 1, 1) := by decide +kernel
theorem dX7_upTo_13 : decode cX7_upTo 13 = .ok (.baload, 1) := by decide +kernel
theorem dX7_upTo_14 : decode cX7_upTo 14 = .ok (.ifCond .eq 7, 3) := by decide +kernel
theorem dX7_upTo_17 : decode cX7_upTo 17 = .ok (.sipush (-999), 3) := by decide +kernel
theorem dX7_upTo_20 : decode cX7_upTo 20 = .ok (.ireturn, 1) := by decide +kernel
theorem dX7_upTo_21 : decode cX7_upTo 21 = .ok (.aload_n 0, 1) := by decide +kernel
theorem dX7_upTo_22 : decode cX7_upTo 22 = .ok (.getfield 37, 3) := by decide +kernel
theorem dX7_upTo_25 : decode cX7_upTo 25 = .ok (.aload_n 0, 1) := by decide +kernel
theorem dX7_upTo_26 : decode cX7_upTo 26 = .ok (.getfield 33, 3) := by decide +kernel
theorem dX7_upTo_29 : decode cX7_upTo 29 = .ok (.invokevirtual 93, 3) := by decide +kernel
theorem dX7_upTo_32 : decode cX7_upTo 32 = .ok (.iconst 0, 1) := by decide +kernel
theorem dX7_upTo_33 : decode cX7_upTo 33 = .ok (.istore_n 2, 1) := by decide +kernel
theorem dX7_upTo_34 : decode cX7_upTo 34 = .ok (.bipush 64, 2) := by decide +kernel
theorem dX7_upTo_36 : decode cX7_upTo 36 = .ok (.istore_n 3, 1) := by decide +kernel
theorem dX7_upTo_37 : decode cX7_upTo 37 = .ok (.iload_n 3, 1) := by decide +kernel
theorem dX7_upTo_38 : decode cX7_upTo 38 = .ok (.ifCond .le 25, 3) := by decide +kernel
theorem dX7_upTo_41 : decode cX7_upTo 41 = .ok (.aload_n 0, 1) := by decide +kernel
theorem dX7_upTo_42 : decode cX7_upTo 42 = .ok (.iload_n 1, 1) := by decide +kernel
theorem dX7_upTo_43 : decode cX7_upTo 43 = .ok (.iload_n 2, 1) := by decide +kernel
theorem dX7_upTo_44 : decode cX7_upTo 44 = .ok (.iload_n 3, 1) := by decide +kernel
theorem dX7_upTo_45 : decode cX7_upTo 45 = .ok (.iadd, 1) := by decide +kernel
theorem dX7_upTo_46 : decode cX7_upTo 46 = .ok (.invokevirtual 233, 3) := by decide +kernel
theorem dX7_upTo_49 : decode cX7_upTo 49 = .ok (.ifCond .eq 7, 3) := by decide +kernel
theorem dX7_upTo_52 : decode cX7_upTo 52 = .ok (.iload_n 2, 1) := by decide +kernel
theorem dX7_upTo_53 : decode cX7_upTo 53 = .ok (.iload_n 3, 1) := by decide +kernel
theorem dX7_upTo_54 : decode cX7_upTo 54 = .ok (.iadd, 1) := by decide +kernel
theorem dX7_upTo_55 : decode cX7_upTo 55 = .ok (.istore_n 2, 1) := by decide +kernel
theorem dX7_upTo_56 : decode cX7_upTo 56 = .ok (.iload_n 3, 1) := by decide +kernel
theorem dX7_upTo_57 : decode cX7_upTo 57 = .ok (.iconst 2, 1) := by decide +kernel
theorem dX7_upTo_58 : decode cX7_upTo 58 = .ok (.idiv, 1) := by decide +kernel
theorem dX7_upTo_59 : decode cX7_upTo 59 = .ok (.istore_n 3, 1) := by decide +kernel
theorem dX7_upTo_60 : decode cX7_upTo 60 = .ok (.goto (-23), 3) := by decide +kernel
theorem dX7_upTo_63 : decode cX7_upTo 63 = .ok (.iload_n 2, 1) := by decide +kernel
theorem dX7_upTo_64 : decode cX7_upTo 64 = .ok (.ifCond .ne 9, 3) := by decide +kernel
theorem dX7_upTo_67 : decode cX7_upTo 67 = .ok (.sipush (-999), 3) := by decide +kernel
theorem dX7_upTo_70 : decode cX7_upTo 70 = .ok (.goto 4, 3) := by decide +kernel
theorem dX7_upTo_73 : decode cX7_upTo 73 = .ok (.iload_n 2, 1) := by decide +kernel
theorem dX7_upTo_74 : decode cX7_upTo 74 = .ok (.ireturn, 1) := by decide +kernel
theorem dX7_saves_0 : decode cX7_saves 0 = .ok (.aload_n 0, 1) := by decide +kernel
theorem dX7_saves_1 : decode cX7_saves 1 = .ok (.getfield 33, 3) := by decide +kernel
theorem dX7_saves_4 : decode cX7_saves 4 = .ok (.iload_n 1, 1) := by decide +kernel
theorem dX7_saves_5 : decode cX7_saves 5 = .ok (.iload_n 2, 1) := by decide +kernel
theorem dX7_saves_6 : decode cX7_saves 6 = .ok (.invokevirtual 237, 3) := by decide +kernel
theorem dX7_saves_9 : decode cX7_saves 9 = .ok (.invokestatic 188, 3) := by decide +kernel
theorem dX7_saves_12 : decode cX7_saves 12 = .ok (.iload_n 3, 1) := by decide +kernel
theorem dX7_saves_13 : decode cX7_saves 13 = .ok (.invokestatic 240, 3) := by decide +kernel
theorem dX7_saves_16 : decode cX7_saves 16 = .ok (.invokestatic 188, 3) := by decide +kernel
theorem dX7_saves_19 : decode cX7_saves 19 = .ok (.aload_n 0, 1) := by decide +kernel
theorem dX7_saves_20 : decode cX7_saves 20 = .ok (.aload_n 0, 1) := by decide +kernel
theorem dX7_saves_21 : decode cX7_saves 21 = .ok (.getfield 33, 3) := by decide +kernel
theorem dX7_saves_24 : decode cX7_saves 24 = .ok (.invokevirtual 119, 3) := by decide +kernel
theorem dX7_saves_27 : decode cX7_saves 27 = .ok (.istore 4, 2) := by decide +kernel
theorem dX7_saves_29 : decode cX7_saves 29 = .ok (.aload_n 0, 1) := by decide +kernel
theorem dX7_saves_30 : decode cX7_saves 30 = .ok (.getfield 37, 3) := by decide +kernel
theorem dX7_saves_33 : decode cX7_saves 33 = .ok (.aload_n 0, 1) := by decide +kernel
theorem dX7_saves_34 : decode cX7_saves 34 = .ok (.getfield 33, 3) := by decide +kernel
theorem dX7_saves_37 : decode cX7_saves 37 = .ok (.invokevirtual 93, 3) := by decide +kernel
theorem dX7_saves_40 : decode cX7_saves 40 = .ok (.aload_n 0, 1) := by decide +kernel
theorem dX7_saves_41 : decode cX7_saves 41 = .ok (.getfield 37, 3) := by decide +kernel
theorem dX7_saves_44 : decode cX7_saves 44 = .ok (.iload_n 1, 1) := by decide +kernel
theorem dX7_saves_45 : decode cX7_saves 45 = .ok (.iload_n 2, 1) := by decide +kernel
theorem dX7_saves_46 : decode cX7_saves 46 = .ok (.iload_n 3, 1) := by decide +kernel
theorem dX7_saves_47 : decode cX7_saves 47 = .ok (.invokevirtual 243, 3) := by decide +kernel
theorem dX7_saves_50 : decode cX7_saves 50 = .ok (.aload_n 0, 1) := by decide +kernel
theorem dX7_saves_51 : decode cX7_saves 51 = .ok (.aload_n 0, 1) := by decide +kernel
theorem dX7_saves_52 : decode cX7_saves 52 = .ok (.getfield 37, 3) := by decide +kernel
theorem dX7_saves_55 : decode cX7_saves 55 = .ok (.invokevirtual 119, 3) := by decide +kernel
theorem dX7_saves_58 : decode cX7_saves 58 = .ok (.istore 5, 2) := by decide +kernel
theorem dX7_saves_60 : decode cX7_saves 60 = .ok (.iload 4, 2) := by decide +kernel
theorem dX7_saves_62 : decode cX7_saves 62 = .ok (.sipush (-999), 3) := by decide +kernel
theorem dX7_saves_65 : decode cX7_saves 65 = .ok (.if_icmp .eq 11, 3) := by decide +kernel
theorem dX7_saves_68 : decode cX7_saves 68 = .ok (.iload 5, 2) := by decide +kernel
theorem dX7_saves_70 : decode cX7_saves 70 = .ok (.sipush (-999), 3) := by decide +kernel
theorem dX7_saves_73 : decode cX7_saves 73 = .ok (.if_icmp .ne 9, 3) := by decide +kernel
theorem dX7_saves_76 : decode cX7_saves 76 = .ok (.sipush (-999), 3) := by decide +kernel
theorem dX7_saves_79 : decode cX7_saves 79 = .ok (.goto 8, 3) := by decide +kernel
theorem dX7_saves_82 : decode cX7_saves 82 = .ok (.iload 4, 2) := by decide +kernel
theorem dX7_saves_84 : decode cX7_saves 84 = .ok (.iload 5, 2) := by decide +kernel
theorem dX7_saves_86 : decode cX7_saves 86 = .ok (.isub, 1) := by decide +kernel
theorem dX7_saves_87 : decode cX7_saves 87 = .ok (.ireturn, 1) := by decide +kernel
theorem dX7_ways_0 : decode cX7_ways 0 = .ok (.iload_n 1, 1) := by decide +kernel
theorem dX7_ways_1 : decode cX7_ways 1 = .ok (.ifCond .lt 10, 3) := by decide +kernel
theorem dX7_ways_4 : decode cX7_ways 4 = .ok (.iload_n 1, 1) := by decide +kernel
theorem dX7_ways_5 : decode cX7_ways 5 = .ok (.sipush 999, 3) := by decide +kernel
theorem dX7_ways_8 : decode cX7_ways 8 = .ok (.if_icmp .le 13, 3) := by decide +kernel
theorem dX7_ways_11 : decode cX7_ways 11 = .ok (.new 64, 3) := by decide +kernel
theorem dX7_ways_14 : decode cX7_ways 14 = .ok (.dup, 1) := by decide +kernel
theorem dX7_ways_15 : decode cX7_ways 15 = .ok (.ldc 247, 2) := by decide +kernel
theorem dX7_ways_17 : decode cX7_ways 17 = .ok (.invokespecial 68, 3) := by decide +kernel
theorem dX7_ways_20 : decode cX7_ways 20 = .ok (.athrow, 1) := by decide +kernel
theorem dX7_ways_21 : decode cX7_ways 21 = .ok (.aload_n 0, 1) := by decide +kernel
theorem dX7_ways_22 : decode cX7_ways 22 = .ok (.getfield 33, 3) := by decide +kernel
theorem dX7_ways_25 : decode cX7_ways 25 = .ok (.aload_n 0, 1) := by decide +kernel
theorem dX7_ways_26 : decode cX7_ways 26 = .ok (.getfield 33, 3) := by decide +kernel
theorem dX7_ways_29 : decode cX7_ways 29 = .ok (.getfield 113, 3) := by decide +kernel
theorem dX7_ways_32 : decode cX7_ways 32 = .ok (.iload_n 1, 1) := by decide +kernel
theorem dX7_ways_33 : decode cX7_ways 33 = .ok (.iconst 1, 1) := by decide +kernel
theorem dX7_ways_34 : decode cX7_ways 34 = .ok (.aload_n 0, 1) := by decide +kernel
theorem dX7_ways_35 : decode cX7_ways 35 = .ok (.getfield 33, 3) := by decide +kernel
theorem dX7_ways_38 : decode cX7_ways 38 = .ok (.getfield 113, 3) := by decide +kernel
theorem dX7_ways_41 : decode cX7_ways 41 = .ok (.ishl, 1) := by decide +kernel
theorem dX7_ways_42 : decode cX7_ways 42 = .ok (.iconst 1, 1) := by decide +kernel
theorem dX7_ways_43 : decode cX7_ways 43 = .ok (.iconst 0, 1) := by decide +kernel
theorem dX7_ways_44 : decode cX7_ways 44 = .ok (.invokestatic 249, 3) := by decide +kernel
theorem dX7_ways_47 : decode cX7_ways 47 = .ok (.ireturn, 1) := by decide +kernel
theorem dX7_middle_0 : decode cX7_middle 0 = .ok (.sipush (-999), 3) := by decide +kernel
theorem dX7_middle_3 : decode cX7_middle 3 = .ok (.istore_n 1, 1) := by decide +kernel
theorem dX7_middle_4 : decode cX7_middle 4 = .ok (.iconst 0, 1) := by decide +kernel
theorem dX7_middle_5 : decode cX7_middle 5 = .ok (.istore_n 2, 1) := by decide +kernel
theorem dX7_middle_6 : decode cX7_middle 6 = .ok (.iconst 0, 1) := by decide +kernel
theorem dX7_middle_7 : decode cX7_middle 7 = .ok (.istore_n 3, 1) := by decide +kernel
theorem dX7_middle_8 : decode cX7_middle 8 = .ok (.iload_n 3, 1) := by decide +kernel
theorem dX7_middle_9 : decode cX7_middle 9 = .ok (.aload_n 0, 1) := by decide +kernel
theorem dX7_middle_10 : decode cX7_middle 10 = .ok (.getfield 33, 3) := by decide +kernel
theorem dX7_middle_13 : decode cX7_middle 13 = .ok (.getfield 106, 3) := by decide +kernel
theorem dX7_middle_16 : decode cX7_middle 16 = .ok (.if_icmp .ge 64, 3) := by decide +kernel
theorem dX7_middle_19 : decode cX7_middle 19 = .ok (.aload_n 0, 1) := by decide +kernel
theorem dX7_middle_20 : decode cX7_middle 20 = .ok (.getfield 57, 3) := by decide +kernel
theorem dX7_middle_23 : decode cX7_middle 23 = .ok (.aload_n 0, 1) := by decide +kernel
theorem dX7_middle_24 : decode cX7_middle 24 = .ok (.getfield 33, 3) := by decide +kernel
theorem dX7_middle_27 : decode cX7_middle 27 = .ok (.iload_n 3, 1) := by decide +kernel
theorem dX7_middle_28 : decode cX7_middle 28 = .ok (.invokevirtual 163, 3) := by decide +kernel
theorem dX7_middle_31 : decode cX7_middle 31 = .ok (.aload_n 0, 1) := by decide +kernel
theorem dX7_middle_32 : decode cX7_middle 32 = .ok (.getfield 57, 3) := by decide +kernel
theorem dX7_middle_35 : decode cX7_middle 35 = .ok (.aload_n 0, 1) := by decide +kernel
theorem dX7_middle_36 : decode cX7_middle 36 = .ok (.getfield 33, 3) := by decide +kernel
theorem dX7_middle_39 : decode cX7_middle 39 = .ok (.invokevirtual 253, 3) := by decide +kernel
theorem dX7_middle_42 : decode cX7_middle 42 = .ok (.istore 4, 2) := by decide +kernel
theorem dX7_middle_44 : decode cX7_middle 44 = .ok (.iload 4, 2) := by decide +kernel
theorem dX7_middle_46 : decode cX7_middle 46 = .ok (.sipush (-999), 3) := by decide +kernel
theorem dX7_middle_49 : decode cX7_middle 49 = .ok (.if_icmp .ne 7, 3) := by decide +kernel
theorem dX7_middle_52 : decode cX7_middle 52 = .ok (.sipush (-999), 3) := by decide +kernel
theorem dX7_middle_55 : decode cX7_middle 55 = .ok (.ireturn, 1) := by decide +kernel
theorem dX7_middle_56 : decode cX7_middle 56 = .ok (.iload_n 1, 1) := by decide +kernel
theorem dX7_middle_57 : decode cX7_middle 57 = .ok (.sipush (-999), 3) := by decide +kernel
theorem dX7_middle_60 : decode cX7_middle 60 = .ok (.if_icmp .eq 9, 3) := by decide +kernel
theorem dX7_middle_63 : decode cX7_middle 63 = .ok (.iload 4, 2) := by decide +kernel
theorem dX7_middle_65 : decode cX7_middle 65 = .ok (.iload_n 2, 1) := by decide +kernel
theorem dX7_middle_66 : decode cX7_middle 66 = .ok (.if_icmp .ge 8, 3) := by decide +kernel
theorem dX7_middle_69 : decode cX7_middle 69 = .ok (.iload_n 3, 1) := by decide +kernel
theorem dX7_middle_70 : decode cX7_middle 70 = .ok (.istore_n 1, 1) := by decide +kernel
theorem dX7_middle_71 : decode cX7_middle 71 = .ok (.iload 4, 2) := by decide +kernel
theorem dX7_middle_73 : decode cX7_middle 73 = .ok (.istore_n 2, 1) := by decide +kernel
theorem dX7_middle_74 : decode cX7_middle 74 = .ok (.iinc 3 1, 3) := by decide +kernel
theorem dX7_middle_77 : decode cX7_middle 77 = .ok (.goto (-69), 3) := by decide +kernel
theorem dX7_middle_80 : decode cX7_middle 80 = .ok (.iload_n 1, 1) := by decide +kernel
theorem dX7_middle_81 : decode cX7_middle 81 = .ok (.ireturn, 1) := by decide +kernel
theorem dX7_runScript_0 : decode cX7_runScript 0 = .ok (.iload_n 1, 1) := by decide +kernel
theorem dX7_runScript_1 : decode cX7_runScript 1 = .ok (.iconst 1, 1) := by decide +kernel
theorem dX7_runScript_2 : decode cX7_runScript 2 = .ok (.if_icmp .lt 8, 3) := by decide +kernel
theorem dX7_runScript_5 : decode cX7_runScript 5 = .ok (.iload_n 1, 1) := by decide +kernel
theorem dX7_runScript_6 : decode cX7_runScript 6 = .ok (.iconst 3, 1) := by decide +kernel
theorem dX7_runScript_7 : decode cX7_runScript 7 = .ok (.if_icmp .le 14, 3) := by decide +kernel
theorem dX7_runScript_10 : decode cX7_runScript 10 = .ok (.new 64, 3) := by decide +kernel
theorem dX7_runScript_13 : decode cX7_runScript 13 = .ok (.dup, 1) := by decide +kernel
theorem dX7_runScript_14 : decode cX7_runScript 14 = .ok (.ldc_w 256, 3) := by decide +kernel
theorem dX7_runScript_17 : decode cX7_runScript 17 = .ok (.invokespecial 68, 3) := by decide +kernel
theorem dX7_runScript_20 : decode cX7_runScript 20 = .ok (.athrow, 1) := by decide +kernel
theorem dX7_runScript_21 : decode cX7_runScript 21 = .ok (.lload_n 2, 1) := by decide +kernel
theorem dX7_runScript_22 : decode cX7_runScript 22 = .ok (.lconst 0, 1) := by decide +kernel
theorem dX7_runScript_23 : decode cX7_runScript 23 = .ok (.lcmp, 1) := by decide +kernel
theorem dX7_runScript_24 : decode cX7_runScript 24 = .ok (.ifCond .lt 13, 3) := by decide +kernel
theorem dX7_runScript_27 : decode cX7_runScript 27 = .ok (.lload_n 2, 1) := by decide +kernel
theorem dX7_runScript_28 : decode cX7_runScript 28 = .ok (.iload_n 1, 1) := by decide +kernel
theorem dX7_runScript_29 : decode cX7_runScript 29 = .ok (.invokestatic 258, 3) := by decide +kernel
theorem dX7_runScript_32 : decode cX7_runScript 32 = .ok (.lconst 0, 1) := by decide +kernel
theorem dX7_runScript_33 : decode cX7_runScript 33 = .ok (.lcmp, 1) := by decide +kernel
theorem dX7_runScript_34 : decode cX7_runScript 34 = .ok (.ifCond .eq 14, 3) := by decide +kernel
theorem dX7_runScript_37 : decode cX7_runScript 37 = .ok (.new 64, 3) := by decide +kernel
theorem dX7_runScript_40 : decode cX7_runScript 40 = .ok (.dup, 1) := by decide +kernel
theorem dX7_runScript_41 : decode cX7_runScript 41 = .ok (.ldc_w 262, 3) := by decide +kernel
theorem dX7_runScript_44 : decode cX7_runScript 44 = .ok (.invokespecial 68, 3) := by decide +kernel
theorem dX7_runScript_47 : decode cX7_runScript 47 = .ok (.athrow, 1) := by decide +kernel
theorem dX7_runScript_48 : decode cX7_runScript 48 = .ok (.aload_n 0, 1) := by decide +kernel
theorem dX7_runScript_49 : decode cX7_runScript 49 = .ok (.getfield 37, 3) := by decide +kernel
theorem dX7_runScript_52 : decode cX7_runScript 52 = .ok (.aload_n 0, 1) := by decide +kernel
theorem dX7_runScript_53 : decode cX7_runScript 53 = .ok (.getfield 33, 3) := by decide +kernel
theorem dX7_runScript_56 : decode cX7_runScript 56 = .ok (.invokevirtual 93, 3) := by decide +kernel
theorem dX7_runScript_59 : decode cX7_runScript 59 = .ok (.iconst 0, 1) := by decide +kernel
theorem dX7_runScript_60 : decode cX7_runScript 60 = .ok (.istore 4, 2) := by decide +kernel
theorem dX7_runScript_62 : decode cX7_runScript 62 = .ok (.iload 4, 2) := by decide +kernel
theorem dX7_runScript_64 : decode cX7_runScript 64 = .ok (.iload_n 1, 1) := by decide +kernel
theorem dX7_runScript_65 : decode cX7_runScript 65 = .ok (.if_icmp .ge 34, 3) := by decide +kernel
theorem dX7_runScript_68 : decode cX7_runScript 68 = .ok (.aload_n 0, 1) := by decide +kernel
theorem dX7_runScript_69 : decode cX7_runScript 69 = .ok (.lload_n 2, 1) := by decide +kernel
theorem dX7_runScript_70 : decode cX7_runScript 70 = .ok (.iload_n 1, 1) := by decide +kernel
theorem dX7_runScript_71 : decode cX7_runScript 71 = .ok (.iconst 1, 1) := by decide +kernel
theorem dX7_runScript_72 : decode cX7_runScript 72 = .ok (.isub, 1) := by decide +kernel
theorem dX7_runScript_73 : decode cX7_runScript 73 = .ok (.iload 4, 2) := by decide +kernel
theorem dX7_runScript_75 : decode cX7_runScript 75 = .ok (.isub, 1) := by decide +kernel
theorem dX7_runScript_76 : decode cX7_runScript 76 = .ok (.invokestatic 258, 3) := by decide +kernel
theorem dX7_runScript_79 : decode cX7_runScript 79 = .ok (.ldc2_w 264, 3) := by decide +kernel
theorem dX7_runScript_82 : decode cX7_runScript 82 = .ok (.lrem, 1) := by decide +kernel
theorem dX7_runScript_83 : decode cX7_runScript 83 = .ok (.l2i, 1) := by decide +kernel
theorem dX7_runScript_84 : decode cX7_runScript 84 = .ok (.invokevirtual 266, 3) := by decide +kernel
theorem dX7_runScript_87 : decode cX7_runScript 87 = .ok (.ifCond .ne 6, 3) := by decide +kernel
theorem dX7_runScript_90 : decode cX7_runScript 90 = .ok (.iload 4, 2) := by decide +kernel
theorem dX7_runScript_92 : decode cX7_runScript 92 = .ok (.ireturn, 1) := by decide +kernel
theorem dX7_runScript_93 : decode cX7_runScript 93 = .ok (.iinc 4 1, 3) := by decide +kernel
theorem dX7_runScript_96 : decode cX7_runScript 96 = .ok (.goto (-34), 3) := by decide +kernel
theorem dX7_runScript_99 : decode cX7_runScript 99 = .ok (.sipush (-999), 3) := by decide +kernel
theorem dX7_runScript_102 : decode cX7_runScript 102 = .ok (.ireturn, 1) := by decide +kernel
theorem dX7_simulate_0 : decode cX7_simulate 0 = .ok (.iload_n 3, 1) := by decide +kernel
theorem dX7_simulate_1 : decode cX7_simulate 1 = .ok (.iconst 1, 1) := by decide +kernel
theorem dX7_simulate_2 : decode cX7_simulate 2 = .ok (.if_icmp .lt 9, 3) := by decide +kernel
theorem dX7_simulate_5 : decode cX7_simulate 5 = .ok (.iload_n 3, 1) := by decide +kernel
theorem dX7_simulate_6 : decode cX7_simulate 6 = .ok (.bipush 60, 2) := by decide +kernel
theorem dX7_simulate_8 : decode cX7_simulate 8 = .ok (.if_icmp .le 14, 3) := by decide +kernel
theorem dX7_simulate_11 : decode cX7_simulate 11 = .ok (.new 64, 3) := by decide +kernel
theorem dX7_simulate_14 : decode cX7_simulate 14 = .ok (.dup, 1) := by decide +kernel
theorem dX7_simulate_15 : decode cX7_simulate 15 = .ok (.ldc_w 270, 3) := by decide +kernel
theorem dX7_simulate_18 : decode cX7_simulate 18 = .ok (.invokespecial 68, 3) := by decide +kernel
theorem dX7_simulate_21 : decode cX7_simulate 21 = .ok (.athrow, 1) := by decide +kernel
theorem dX7_simulate_22 : decode cX7_simulate 22 = .ok (.lload_n 1, 1) := by decide +kernel
theorem dX7_simulate_23 : decode cX7_simulate 23 = .ok (.lstore 4, 2) := by decide +kernel
theorem dX7_simulate_25 : decode cX7_simulate 25 = .ok (.iconst 0, 1) := by decide +kernel
theorem dX7_simulate_26 : decode cX7_simulate 26 = .ok (.istore 6, 2) := by decide +kernel
theorem dX7_simulate_28 : decode cX7_simulate 28 = .ok (.iconst 0, 1) := by decide +kernel
theorem dX7_simulate_29 : decode cX7_simulate 29 = .ok (.istore 7, 2) := by decide +kernel
theorem dX7_simulate_31 : decode cX7_simulate 31 = .ok (.iload 7, 2) := by decide +kernel
theorem dX7_simulate_33 : decode cX7_simulate 33 = .ok (.iload_n 3, 1) := by decide +kernel
theorem dX7_simulate_34 : decode cX7_simulate 34 = .ok (.if_icmp .ge 127, 3) := by decide +kernel
theorem dX7_simulate_37 : decode cX7_simulate 37 = .ok (.aload_n 0, 1) := by decide +kernel
theorem dX7_simulate_38 : decode cX7_simulate 38 = .ok (.getfield 37, 3) := by decide +kernel
theorem dX7_simulate_41 : decode cX7_simulate 41 = .ok (.aload_n 0, 1) := by decide +kernel
theorem dX7_simulate_42 : decode cX7_simulate 42 = .ok (.getfield 33, 3) := by decide +kernel
theorem dX7_simulate_45 : decode cX7_simulate 45 = .ok (.invokevirtual 93, 3) := by decide +kernel
theorem dX7_simulate_48 : decode cX7_simulate 48 = .ok (.iconst 0, 1) := by decide +kernel
theorem dX7_simulate_49 : decode cX7_simulate 49 = .ok (.istore 8, 2) := by decide +kernel
theorem dX7_simulate_51 : decode cX7_simulate 51 = .ok (.iload 8, 2) := by decide +kernel
theorem dX7_simulate_53 : decode cX7_simulate 53 = .ok (.aload_n 0, 1) := by decide +kernel
theorem dX7_simulate_54 : decode cX7_simulate 54 = .ok (.getfield 33, 3) := by decide +kernel
theorem dX7_simulate_57 : decode cX7_simulate 57 = .ok (.getfield 103, 3) := by decide +kernel
theorem dX7_simulate_60 : decode cX7_simulate 60 = .ok (.if_icmp .ge 64, 3) := by decide +kernel
theorem dX7_simulate_63 : decode cX7_simulate 63 = .ok (.aload_n 0, 1) := by decide +kernel
theorem dX7_simulate_64 : decode cX7_simulate 64 = .ok (.getfield 33, 3) := by decide +kernel
theorem dX7_simulate_67 : decode cX7_simulate 67 = .ok (.getfield 146, 3) := by decide +kernel
theorem dX7_simulate_70 : decode cX7_simulate 70 = .ok (.iload 8, 2) := by decide +kernel
theorem dX7_simulate_72 : decode cX7_simulate 72 = .ok (.baload, 1) := by decide +kernel
theorem dX7_simulate_73 : decode cX7_simulate 73 = .ok (.ifCond .ne 45, 3) := by decide +kernel
theorem dX7_simulate_76 : decode cX7_simulate 76 = .ok (.lload 4, 2) := by decide +kernel
theorem dX7_simulate_78 : decode cX7_simulate 78 = .ok (.ldc2_w 272, 3) := by decide +kernel
theorem dX7_simulate_81 : decode cX7_simulate 81 = .ok (.lmul, 1) := by decide +kernel
theorem dX7_simulate_82 : decode cX7_simulate 82 = .ok (.ldc2_w 274, 3) := by decide +kernel
theorem dX7_simulate_85 : decode cX7_simulate 85 = .ok (.ladd, 1) := by decide +kernel
theorem dX7_simulate_86 : decode cX7_simulate 86 = .ok (.lstore 4, 2) := by decide +kernel
theorem dX7_simulate_88 : decode cX7_simulate 88 = .ok (.lload 4, 2) := by decide +kernel
theorem dX7_simulate_90 : decode cX7_simulate 90 = .ok (.bipush 33, 2) := by decide +kernel
theorem dX7_simulate_92 : decode cX7_simulate 92 = .ok (.lushr, 1) := by decide +kernel
theorem dX7_simulate_93 : decode cX7_simulate 93 = .ok (.l2i, 1) := by decide +kernel
theorem dX7_simulate_94 : decode cX7_simulate 94 = .ok (.istore 9, 2) := by decide +kernel
theorem dX7_simulate_96 : decode cX7_simulate 96 = .ok (.aload_n 0, 1) := by decide +kernel
theorem dX7_simulate_97 : decode cX7_simulate 97 = .ok (.getfield 37, 3) := by decide +kernel
theorem dX7_simulate_100 : decode cX7_simulate 100 = .ok (.getfield 146, 3) := by decide +kernel
theorem dX7_simulate_103 : decode cX7_simulate 103 = .ok (.iload 8, 2) := by decide +kernel
theorem dX7_simulate_105 : decode cX7_simulate 105 = .ok (.iload 9, 2) := by decide +kernel
theorem dX7_simulate_107 : decode cX7_simulate 107 = .ok (.iconst 4, 1) := by decide +kernel
theorem dX7_simulate_108 : decode cX7_simulate 108 = .ok (.irem, 1) := by decide +kernel
theorem dX7_simulate_109 : decode cX7_simulate 109 = .ok (.ifCond .ne 7, 3) := by decide +kernel
theorem dX7_simulate_112 : decode cX7_simulate 112 = .ok (.iconst 1, 1) := by decide +kernel
theorem dX7_simulate_113 : decode cX7_simulate 113 = .ok (.goto 4, 3) := by decide +kernel
theorem dX7_simulate_116 : decode cX7_simulate 116 = .ok (.iconst 0, 1) := by decide +kernel
theorem dX7_simulate_117 : decode cX7_simulate 117 = .ok (.bastore, 1) := by decide +kernel
theorem dX7_simulate_118 : decode cX7_simulate 118 = .ok (.iinc 8 1, 3) := by decide +kernel
theorem dX7_simulate_121 : decode cX7_simulate 121 = .ok (.goto (-70), 3) := by decide +kernel
theorem dX7_simulate_124 : decode cX7_simulate 124 = .ok (.aload_n 0, 1) := by decide +kernel
theorem dX7_simulate_125 : decode cX7_simulate 125 = .ok (.aload_n 0, 1) := by decide +kernel
theorem dX7_simulate_126 : decode cX7_simulate 126 = .ok (.getfield 37, 3) := by decide +kernel
theorem dX7_simulate_129 : decode cX7_simulate 129 = .ok (.invokevirtual 119, 3) := by decide +kernel
theorem dX7_simulate_132 : decode cX7_simulate 132 = .ok (.istore 8, 2) := by decide +kernel
theorem dX7_simulate_134 : decode cX7_simulate 134 = .ok (.iload 6, 2) := by decide +kernel
theorem dX7_simulate_136 : decode cX7_simulate 136 = .ok (.iload 8, 2) := by decide +kernel
theorem dX7_simulate_138 : decode cX7_simulate 138 = .ok (.sipush (-999), 3) := by decide +kernel
theorem dX7_simulate_141 : decode cX7_simulate 141 = .ok (.if_icmp .ne 9, 3) := by decide +kernel
theorem dX7_simulate_144 : decode cX7_simulate 144 = .ok (.ldc_w 276, 3) := by decide +kernel
theorem dX7_simulate_147 : decode cX7_simulate 147 = .ok (.goto 5, 3) := by decide +kernel
theorem dX7_simulate_150 : decode cX7_simulate 150 = .ok (.iload 8, 2) := by decide +kernel
theorem dX7_simulate_152 : decode cX7_simulate 152 = .ok (.iadd, 1) := by decide +kernel
theorem dX7_simulate_153 : decode cX7_simulate 153 = .ok (.istore 6, 2) := by decide +kernel
theorem dX7_simulate_155 : decode cX7_simulate 155 = .ok (.iinc 7 1, 3) := by decide +kernel
theorem dX7_simulate_158 : decode cX7_simulate 158 = .ok (.goto (-127), 3) := by decide +kernel
theorem dX7_simulate_161 : decode cX7_simulate 161 = .ok (.iload 6, 2) := by decide +kernel
theorem dX7_simulate_163 : decode cX7_simulate 163 = .ok (.ireturn, 1) := by decide +kernel
theorem dX7_save_0 : decode cX7_save 0 = .ok (.iload_n 1, 1) := by decide +kernel
theorem dX7_save_1 : decode cX7_save 1 = .ok (.invokestatic 277, 3) := by decide +kernel
theorem dX7_save_4 : decode cX7_save 4 = .ok (.aload_n 0, 1) := by decide +kernel
theorem dX7_save_5 : decode cX7_save 5 = .ok (.getfield 50, 3) := by decide +kernel
theorem dX7_save_8 : decode cX7_save 8 = .ok (.iload_n 1, 1) := by decide +kernel
theorem dX7_save_9 : decode cX7_save 9 = .ok (.aload_n 0, 1) := by decide +kernel
theorem dX7_save_10 : decode cX7_save 10 = .ok (.getfield 33, 3) := by decide +kernel
theorem dX7_save_13 : decode cX7_save 13 = .ok (.invokevirtual 280, 3) := by decide +kernel
theorem dX7_save_16 : decode cX7_save 16 = .ok (.aload_n 0, 1) := by decide +kernel
theorem dX7_save_17 : decode cX7_save 17 = .ok (.getfield 33, 3) := by decide +kernel
theorem dX7_save_20 : decode cX7_save 20 = .ok (.getfield 103, 3) := by decide +kernel
theorem dX7_save_23 : decode cX7_save 23 = .ok (.ireturn, 1) := by decide +kernel
theorem dX7_restore_0 : decode cX7_restore 0 = .ok (.iload_n 1, 1) := by decide +kernel
theorem dX7_restore_1 : decode cX7_restore 1 = .ok (.invokestatic 277, 3) := by decide +kernel
theorem dX7_restore_4 : decode cX7_restore 4 = .ok (.aload_n 0, 1) := by decide +kernel
theorem dX7_restore_5 : decode cX7_restore 5 = .ok (.getfield 50, 3) := by decide +kernel
theorem dX7_restore_8 : decode cX7_restore 8 = .ok (.getfield 284, 3) := by decide +kernel
theorem dX7_restore_11 : decode cX7_restore 11 = .ok (.iload_n 1, 1) := by decide +kernel
theorem dX7_restore_12 : decode cX7_restore 12 = .ok (.baload, 1) := by decide +kernel
theorem dX7_restore_13 : decode cX7_restore 13 = .ok (.ifCond .ne 14, 3) := by decide +kernel
theorem dX7_restore_16 : decode cX7_restore 16 = .ok (.new 75, 3) := by decide +kernel
theorem dX7_restore_19 : decode cX7_restore 19 = .ok (.dup, 1) := by decide +kernel
theorem dX7_restore_20 : decode cX7_restore 20 = .ok (.ldc_w 287, 3) := by decide +kernel
theorem dX7_restore_23 : decode cX7_restore 23 = .ok (.invokespecial 79, 3) := by decide +kernel
theorem dX7_restore_26 : decode cX7_restore 26 = .ok (.athrow, 1) := by decide +kernel
theorem dX7_restore_27 : decode cX7_restore 27 = .ok (.aload_n 0, 1) := by decide +kernel
theorem dX7_restore_28 : decode cX7_restore 28 = .ok (.getfield 50, 3) := by decide +kernel
theorem dX7_restore_31 : decode cX7_restore 31 = .ok (.iload_n 1, 1) := by decide +kernel
theorem dX7_restore_32 : decode cX7_restore 32 = .ok (.aload_n 0, 1) := by decide +kernel
theorem dX7_restore_33 : decode cX7_restore 33 = .ok (.getfield 33, 3) := by decide +kernel
theorem dX7_restore_36 : decode cX7_restore 36 = .ok (.invokevirtual 289, 3) := by decide +kernel
theorem dX7_restore_39 : decode cX7_restore 39 = .ok (.aload_n 0, 1) := by decide +kernel
theorem dX7_restore_40 : decode cX7_restore 40 = .ok (.getfield 43, 3) := by decide +kernel
theorem dX7_restore_43 : decode cX7_restore 43 = .ok (.invokevirtual 97, 3) := by decide +kernel
theorem dX7_restore_46 : decode cX7_restore 46 = .ok (.aload_n 0, 1) := by decide +kernel
theorem dX7_restore_47 : decode cX7_restore 47 = .ok (.getfield 33, 3) := by decide +kernel
theorem dX7_restore_50 : decode cX7_restore 50 = .ok (.getfield 103, 3) := by decide +kernel
theorem dX7_restore_53 : decode cX7_restore 53 = .ok (.ireturn, 1) := by decide +kernel
theorem dX7_raise_0 : decode cX7_raise 0 = .ok (.iload_n 0, 1) := by decide +kernel
theorem dX7_raise_1 : decode cX7_raise 1 = .ok (.iconst 1, 1) := by decide +kernel
theorem dX7_raise_2 : decode cX7_raise 2 = .ok (.if_icmp .ne 14, 3) := by decide +kernel
theorem dX7_raise_5 : decode cX7_raise 5 = .ok (.new 292, 3) := by decide +kernel
theorem dX7_raise_8 : decode cX7_raise 8 = .ok (.dup, 1) := by decide +kernel
theorem dX7_raise_9 : decode cX7_raise 9 = .ok (.ldc_w 294, 3) := by decide +kernel
theorem dX7_raise_12 : decode cX7_raise 12 = .ok (.invokespecial 296, 3) := by decide +kernel
theorem dX7_raise_15 : decode cX7_raise 15 = .ok (.athrow, 1) := by decide +kernel
theorem dX7_raise_16 : decode cX7_raise 16 = .ok (.iload_n 0, 1) := by decide +kernel
theorem dX7_raise_17 : decode cX7_raise 17 = .ok (.iconst 2, 1) := by decide +kernel
theorem dX7_raise_18 : decode cX7_raise 18 = .ok (.if_icmp .ne 14, 3) := by decide +kernel
theorem dX7_raise_21 : decode cX7_raise 21 = .ok (.new 64, 3) := by decide +kernel
theorem dX7_raise_24 : decode cX7_raise 24 = .ok (.dup, 1) := by decide +kernel
theorem dX7_raise_25 : decode cX7_raise 25 = .ok (.ldc_w 297, 3) := by decide +kernel
theorem dX7_raise_28 : decode cX7_raise 28 = .ok (.invokespecial 68, 3) := by decide +kernel
theorem dX7_raise_31 : decode cX7_raise 31 = .ok (.athrow, 1) := by decide +kernel
theorem dX7_raise_32 : decode cX7_raise 32 = .ok (.iload_n 0, 1) := by decide +kernel
theorem dX7_raise_33 : decode cX7_raise 33 = .ok (.iconst 3, 1) := by decide +kernel
theorem dX7_raise_34 : decode cX7_raise 34 = .ok (.if_icmp .ne 14, 3) := by decide +kernel
theorem dX7_raise_37 : decode cX7_raise 37 = .ok (.new 75, 3) := by decide +kernel
theorem dX7_raise_40 : decode cX7_raise 40 = .ok (.dup, 1) := by decide +kernel
theorem dX7_raise_41 : decode cX7_raise 41 = .ok (.ldc_w 299, 3) := by decide +kernel
theorem dX7_raise_44 : decode cX7_raise 44 = .ok (.invokespecial 79, 3) := by decide +kernel
theorem dX7_raise_47 : decode cX7_raise 47 = .ok (.athrow, 1) := by decide +kernel
theorem dX7_raise_48 : decode cX7_raise 48 = .ok (.return_, 1) := by decide +kernel
theorem dX7_requireStreet_0 : decode cX7_requireStreet 0 = .ok (.aload_n 0, 1) := by decide +kernel
theorem dX7_requireStreet_1 : decode cX7_requireStreet 1 = .ok (.getfield 33, 3) := by decide +kernel
theorem dX7_requireStreet_4 : decode cX7_requireStreet 4 = .ok (.iload_n 1, 1) := by decide +kernel
theorem dX7_requireStreet_5 : decode cX7_requireStreet 5 = .ok (.invokevirtual 301, 3) := by decide +kernel
theorem dX7_requireStreet_8 : decode cX7_requireStreet 8 = .ok (.ifCond .ne 14, 3) := by decide +kernel
theorem dX7_requireStreet_11 : decode cX7_requireStreet 11 = .ok (.new 292, 3) := by decide +kernel
theorem dX7_requireStreet_14 : decode cX7_requireStreet 14 = .ok (.dup, 1) := by decide +kernel
theorem dX7_requireStreet_15 : decode cX7_requireStreet 15 = .ok (.ldc_w 304, 3) := by decide +kernel
theorem dX7_requireStreet_18 : decode cX7_requireStreet 18 = .ok (.invokespecial 296, 3) := by decide +kernel
theorem dX7_requireStreet_21 : decode cX7_requireStreet 21 = .ok (.athrow, 1) := by decide +kernel
theorem dX7_requireStreet_22 : decode cX7_requireStreet 22 = .ok (.return_, 1) := by decide +kernel
theorem dX7_requireCrossing_0 : decode cX7_requireCrossing 0 = .ok (.aload_n 0, 1) := by decide +kernel
theorem dX7_requireCrossing_1 : decode cX7_requireCrossing 1 = .ok (.getfield 33, 3) := by decide +kernel
theorem dX7_requireCrossing_4 : decode cX7_requireCrossing 4 = .ok (.iload_n 1, 1) := by decide +kernel
theorem dX7_requireCrossing_5 : decode cX7_requireCrossing 5 = .ok (.invokevirtual 306, 3) := by decide +kernel
theorem dX7_requireCrossing_8 : decode cX7_requireCrossing 8 = .ok (.ifCond .ne 14, 3) := by decide +kernel
theorem dX7_requireCrossing_11 : decode cX7_requireCrossing 11 = .ok (.new 292, 3) := by decide +kernel
theorem dX7_requireCrossing_14 : decode cX7_requireCrossing 14 = .ok (.dup, 1) := by decide +kernel
theorem dX7_requireCrossing_15 : decode cX7_requireCrossing 15 = .ok (.ldc_w 309, 3) := by decide +kernel
theorem dX7_requireCrossing_18 : decode cX7_requireCrossing 18 = .ok (.invokespecial 296, 3) := by decide +kernel
theorem dX7_requireCrossing_21 : decode cX7_requireCrossing 21 = .ok (.athrow, 1) := by decide +kernel
theorem dX7_requireCrossing_22 : decode cX7_requireCrossing 22 = .ok (.return_, 1) := by decide +kernel
theorem dX7_requirePlace_0 : decode cX7_requirePlace 0 = .ok (.iload_n 0, 1) := by decide +kernel
theorem dX7_requirePlace_1 : decode cX7_requirePlace 1 = .ok (.ifCond .ge 14, 3) := by decide +kernel
theorem dX7_requirePlace_4 : decode cX7_requirePlace 4 = .ok (.new 64, 3) := by decide +kernel
theorem dX7_requirePlace_7 : decode cX7_requirePlace 7 = .ok (.dup, 1) := by decide +kernel
theorem dX7_requirePlace_8 : decode cX7_requirePlace 8 = .ok (.ldc_w 311, 3) := by decide +kernel
theorem dX7_requirePlace_11 : decode cX7_requirePlace 11 = .ok (.invokespecial 68, 3) := by decide +kernel
theorem dX7_requirePlace_14 : decode cX7_requirePlace 14 = .ok (.athrow, 1) := by decide +kernel
theorem dX7_requirePlace_15 : decode cX7_requirePlace 15 = .ok (.return_, 1) := by decide +kernel
theorem dX7_requireSlot_0 : decode cX7_requireSlot 0 = .ok (.iload_n 0, 1) := by decide +kernel
theorem dX7_requireSlot_1 : decode cX7_requireSlot 1 = .ok (.ifCond .lt 8, 3) := by decide +kernel
theorem dX7_requireSlot_4 : decode cX7_requireSlot 4 = .ok (.iload_n 0, 1) := by decide +kernel
theorem dX7_requireSlot_5 : decode cX7_requireSlot 5 = .ok (.iconst 2, 1) := by decide +kernel
theorem dX7_requireSlot_6 : decode cX7_requireSlot 6 = .ok (.if_icmp .lt 14, 3) := by decide +kernel
theorem dX7_requireSlot_9 : decode cX7_requireSlot 9 = .ok (.new 292, 3) := by decide +kernel
theorem dX7_requireSlot_12 : decode cX7_requireSlot 12 = .ok (.dup, 1) := by decide +kernel
theorem dX7_requireSlot_13 : decode cX7_requireSlot 13 = .ok (.ldc_w 313, 3) := by decide +kernel
theorem dX7_requireSlot_16 : decode cX7_requireSlot 16 = .ok (.invokespecial 296, 3) := by decide +kernel
theorem dX7_requireSlot_19 : decode cX7_requireSlot 19 = .ok (.athrow, 1) := by decide +kernel
theorem dX7_requireSlot_20 : decode cX7_requireSlot 20 = .ok (.return_, 1) := by decide +kernel
theorem dX7_refusalOfLength_0 : decode cX7_refusalOfLength 0 = .ok (.iload_n 0, 1) := by decide +kernel
theorem dX7_refusalOfLength_1 : decode cX7_refusalOfLength 1 = .ok (.iconst 1, 1) := by decide +kernel
theorem dX7_refusalOfLength_2 : decode cX7_refusalOfLength 2 = .ok (.if_icmp .lt 9, 3) := by decide +kernel
theorem dX7_refusalOfLength_5 : decode cX7_refusalOfLength 5 = .ok (.iload_n 0, 1) := by decide +kernel
theorem dX7_refusalOfLength_6 : decode cX7_refusalOfLength 6 = .ok (.bipush 99, 2) := by decide +kernel
theorem dX7_refusalOfLength_8 : decode cX7_refusalOfLength 8 = .ok (.if_icmp .le 7, 3) := by decide +kernel
theorem dX7_refusalOfLength_11 : decode cX7_refusalOfLength 11 = .ok (.iconst 2, 1) := by decide +kernel
theorem dX7_refusalOfLength_12 : decode cX7_refusalOfLength 12 = .ok (.goto 4, 3) := by decide +kernel
theorem dX7_refusalOfLength_15 : decode cX7_refusalOfLength 15 = .ok (.iconst 0, 1) := by decide +kernel
theorem dX7_refusalOfLength_16 : decode cX7_refusalOfLength 16 = .ok (.ireturn, 1) := by decide +kernel
theorem dX7_acceptTrial_0 : decode cX7_acceptTrial 0 = .ok (.aload_n 0, 1) := by decide +kernel
theorem dX7_acceptTrial_1 : decode cX7_acceptTrial 1 = .ok (.getfield 43, 3) := by decide +kernel
theorem dX7_acceptTrial_4 : decode cX7_acceptTrial 4 = .ok (.aload_n 0, 1) := by decide +kernel
theorem dX7_acceptTrial_5 : decode cX7_acceptTrial 5 = .ok (.getfield 33, 3) := by decide +kernel
theorem dX7_acceptTrial_8 : decode cX7_acceptTrial 8 = .ok (.invokevirtual 315, 3) := by decide +kernel
theorem dX7_acceptTrial_11 : decode cX7_acceptTrial 11 = .ok (.aload_n 0, 1) := by decide +kernel
theorem dX7_acceptTrial_12 : decode cX7_acceptTrial 12 = .ok (.getfield 33, 3) := by decide +kernel
theorem dX7_acceptTrial_15 : decode cX7_acceptTrial 15 = .ok (.aload_n 0, 1) := by decide +kernel
theorem dX7_acceptTrial_16 : decode cX7_acceptTrial 16 = .ok (.getfield 37, 3) := by decide +kernel
theorem dX7_acceptTrial_19 : decode cX7_acceptTrial 19 = .ok (.invokevirtual 93, 3) := by decide +kernel
theorem dX7_acceptTrial_22 : decode cX7_acceptTrial 22 = .ok (.return_, 1) := by decide +kernel
theorem dX7_bestLengthIn_0 : decode cX7_bestLengthIn 0 = .ok (.aload_n 0, 1) := by decide +kernel
theorem dX7_bestLengthIn_1 : decode cX7_bestLengthIn 1 = .ok (.getfield 61, 3) := by decide +kernel
theorem dX7_bestLengthIn_4 : decode cX7_bestLengthIn 4 = .ok (.aload_n 1, 1) := by decide +kernel
theorem dX7_bestLengthIn_5 : decode cX7_bestLengthIn 5 = .ok (.aload_n 1, 1) := by decide +kernel
theorem dX7_bestLengthIn_6 : decode cX7_bestLengthIn 6 = .ok (.getfield 116, 3) := by decide +kernel
theorem dX7_bestLengthIn_9 : decode cX7_bestLengthIn 9 = .ok (.invokevirtual 163, 3) := by decide +kernel
theorem dX7_bestLengthIn_12 : decode cX7_bestLengthIn 12 = .ok (.aload_n 0, 1) := by decide +kernel
theorem dX7_bestLengthIn_13 : decode cX7_bestLengthIn 13 = .ok (.getfield 61, 3) := by decide +kernel
theorem dX7_bestLengthIn_16 : decode cX7_bestLengthIn 16 = .ok (.aload_n 1, 1) := by decide +kernel
theorem dX7_bestLengthIn_17 : decode cX7_bestLengthIn 17 = .ok (.getfield 113, 3) := by decide +kernel
theorem dX7_bestLengthIn_20 : decode cX7_bestLengthIn 20 = .ok (.invokevirtual 167, 3) := by decide +kernel
theorem dX7_bestLengthIn_23 : decode cX7_bestLengthIn 23 = .ok (.ireturn, 1) := by decide +kernel
theorem dX7_lengthWithout_0 : decode cX7_lengthWithout 0 = .ok (.aload_n 0, 1) := by decide +kernel
theorem dX7_lengthWithout_1 : decode cX7_lengthWithout 1 = .ok (.getfield 37, 3) := by decide +kernel
theorem dX7_lengthWithout_4 : decode cX7_lengthWithout 4 = .ok (.aload_n 0, 1) := by decide +kernel
theorem dX7_lengthWithout_5 : decode cX7_lengthWithout 5 = .ok (.getfield 33, 3) := by decide +kernel
theorem dX7_lengthWithout_8 : decode cX7_lengthWithout 8 = .ok (.invokevirtual 93, 3) := by decide +kernel
theorem dX7_lengthWithout_11 : decode cX7_lengthWithout 11 = .ok (.aload_n 0, 1) := by decide +kernel
theorem dX7_lengthWithout_12 : decode cX7_lengthWithout 12 = .ok (.getfield 37, 3) := by decide +kernel
theorem dX7_lengthWithout_15 : decode cX7_lengthWithout 15 = .ok (.iload_n 1, 1) := by decide +kernel
theorem dX7_lengthWithout_16 : decode cX7_lengthWithout 16 = .ok (.iconst 1, 1) := by decide +kernel
theorem dX7_lengthWithout_17 : decode cX7_lengthWithout 17 = .ok (.invokevirtual 207, 3) := by decide +kernel
theorem dX7_lengthWithout_20 : decode cX7_lengthWithout 20 = .ok (.pop, 1) := by decide +kernel
theorem dX7_lengthWithout_21 : decode cX7_lengthWithout 21 = .ok (.aload_n 0, 1) := by decide +kernel
theorem dX7_lengthWithout_22 : decode cX7_lengthWithout 22 = .ok (.aload_n 0, 1) := by decide +kernel
theorem dX7_lengthWithout_23 : decode cX7_lengthWithout 23 = .ok (.getfield 37, 3) := by decide +kernel
theorem dX7_lengthWithout_26 : decode cX7_lengthWithout 26 = .ok (.invokevirtual 119, 3) := by decide +kernel
theorem dX7_lengthWithout_29 : decode cX7_lengthWithout 29 = .ok (.ireturn, 1) := by decide +kernel
theorem dX7_isOnBestWayWithLength_0 : decode cX7_isOnBestWayWithLength 0 = .ok (.aload_n 0, 1) := by decide +kernel
theorem dX7_isOnBestWayWithLength_1 : decode cX7_isOnBestWayWithLength 1 = .ok (.getfield 37, 3) := by decide +kernel
theorem dX7_isOnBestWayWithLength_4 : decode cX7_isOnBestWayWithLength 4 = .ok (.iload_n 1, 1) := by decide +kernel
theorem dX7_isOnBestWayWithLength_5 : decode cX7_isOnBestWayWithLength 5 = .ok (.iload_n 2, 1) := by decide +kernel
theorem dX7_isOnBestWayWithLength_6 : decode cX7_isOnBestWayWithLength 6 = .ok (.invokevirtual 201, 3) := by decide +kernel
theorem dX7_isOnBestWayWithLength_9 : decode cX7_isOnBestWayWithLength 9 = .ok (.ifCond .ne 15, 3) := by decide +kernel
theorem dX7_isOnBestWayWithLength_12 : decode cX7_isOnBestWayWithLength 12 = .ok (.aload_n 0, 1) := by decide +kernel
theorem dX7_isOnBestWayWithLength_13 : decode cX7_isOnBestWayWithLength 13 = .ok (.iload_n 1, 1) := by decide +kernel
theorem dX7_isOnBestWayWithLength_14 : decode cX7_isOnBestWayWithLength 14 = .ok (.invokevirtual 317, 3) := by decide +kernel
theorem dX7_isOnBestWayWithLength_17 : decode cX7_isOnBestWayWithLength 17 = .ok (.ifCond .eq 7, 3) := by decide +kernel
theorem dX7_isOnBestWayWithLength_20 : decode cX7_isOnBestWayWithLength 20 = .ok (.iconst 1, 1) := by decide +kernel
theorem dX7_isOnBestWayWithLength_21 : decode cX7_isOnBestWayWithLength 21 = .ok (.goto 4, 3) := by decide +kernel
theorem dX7_isOnBestWayWithLength_24 : decode cX7_isOnBestWayWithLength 24 = .ok (.iconst 0, 1) := by decide +kernel
theorem dX7_isOnBestWayWithLength_25 : decode cX7_isOnBestWayWithLength 25 = .ok (.ireturn, 1) := by decide +kernel
theorem dX7_neededStreets_0 : decode cX7_neededStreets 0 = .ok (.aload_n 0, 1) := by decide +kernel
theorem dX7_neededStreets_1 : decode cX7_neededStreets 1 = .ok (.getfield 57, 3) := by decide +kernel
theorem dX7_neededStreets_4 : decode cX7_neededStreets 4 = .ok (.aload_n 0, 1) := by decide +kernel
theorem dX7_neededStreets_5 : decode cX7_neededStreets 5 = .ok (.getfield 33, 3) := by decide +kernel
theorem dX7_neededStreets_8 : decode cX7_neededStreets 8 = .ok (.invokevirtual 123, 3) := by decide +kernel
theorem dX7_neededStreets_11 : decode cX7_neededStreets 11 = .ok (.iconst 0, 1) := by decide +kernel
theorem dX7_neededStreets_12 : decode cX7_neededStreets 12 = .ok (.istore_n 1, 1) := by decide +kernel
theorem dX7_neededStreets_13 : decode cX7_neededStreets 13 = .ok (.iconst 0, 1) := by decide +kernel
theorem dX7_neededStreets_14 : decode cX7_neededStreets 14 = .ok (.istore_n 2, 1) := by decide +kernel
theorem dX7_neededStreets_15 : decode cX7_neededStreets 15 = .ok (.iload_n 2, 1) := by decide +kernel
theorem dX7_neededStreets_16 : decode cX7_neededStreets 16 = .ok (.aload_n 0, 1) := by decide +kernel
theorem dX7_neededStreets_17 : decode cX7_neededStreets 17 = .ok (.getfield 33, 3) := by decide +kernel
theorem dX7_neededStreets_20 : decode cX7_neededStreets 20 = .ok (.getfield 103, 3) := by decide +kernel
theorem dX7_neededStreets_23 : decode cX7_neededStreets 23 = .ok (.if_icmp .ge 38, 3) := by decide +kernel
theorem dX7_neededStreets_26 : decode cX7_neededStreets 26 = .ok (.aload_n 0, 1) := by decide +kernel
theorem dX7_neededStreets_27 : decode cX7_neededStreets 27 = .ok (.getfield 57, 3) := by decide +kernel
theorem dX7_neededStreets_30 : decode cX7_neededStreets 30 = .ok (.aload_n 0, 1) := by decide +kernel
theorem dX7_neededStreets_31 : decode cX7_neededStreets 31 = .ok (.getfield 33, 3) := by decide +kernel
theorem dX7_neededStreets_34 : decode cX7_neededStreets 34 = .ok (.iload_n 2, 1) := by decide +kernel
theorem dX7_neededStreets_35 : decode cX7_neededStreets 35 = .ok (.invokevirtual 150, 3) := by decide +kernel
theorem dX7_neededStreets_38 : decode cX7_neededStreets 38 = .ok (.ifCond .eq 17, 3) := by decide +kernel
theorem dX7_neededStreets_41 : decode cX7_neededStreets 41 = .ok (.aload_n 0, 1) := by decide +kernel
theorem dX7_neededStreets_42 : decode cX7_neededStreets 42 = .ok (.iload_n 2, 1) := by decide +kernel
theorem dX7_neededStreets_43 : decode cX7_neededStreets 43 = .ok (.invokevirtual 230, 3) := by decide +kernel
theorem dX7_neededStreets_46 : decode cX7_neededStreets 46 = .ok (.sipush (-999), 3) := by decide +kernel
theorem dX7_neededStreets_49 : decode cX7_neededStreets 49 = .ok (.if_icmp .ne 6, 3) := by decide +kernel
theorem dX7_neededStreets_52 : decode cX7_neededStreets 52 = .ok (.iinc 1 1, 3) := by decide +kernel
theorem dX7_neededStreets_55 : decode cX7_neededStreets 55 = .ok (.iinc 2 1, 3) := by decide +kernel
theorem dX7_neededStreets_58 : decode cX7_neededStreets 58 = .ok (.goto (-43), 3) := by decide +kernel
theorem dX7_neededStreets_61 : decode cX7_neededStreets 61 = .ok (.iload_n 1, 1) := by decide +kernel
theorem dX7_neededStreets_62 : decode cX7_neededStreets 62 = .ok (.ireturn, 1) := by decide +kernel
theorem dX7_countWays_0 : decode cX7_countWays 0 = .ok (.iload_n 1, 1) := by decide +kernel
theorem dX7_countWays_1 : decode cX7_countWays 1 = .ok (.aload_n 0, 1) := by decide +kernel
theorem dX7_countWays_2 : decode cX7_countWays 2 = .ok (.getfield 116, 3) := by decide +kernel
theorem dX7_countWays_5 : decode cX7_countWays 5 = .ok (.if_icmp .ne 8, 3) := by decide +kernel
theorem dX7_countWays_8 : decode cX7_countWays 8 = .ok (.iload 5, 2) := by decide +kernel
theorem dX7_countWays_10 : decode cX7_countWays 10 = .ok (.iconst 1, 1) := by decide +kernel
theorem dX7_countWays_11 : decode cX7_countWays 11 = .ok (.iadd, 1) := by decide +kernel
theorem dX7_countWays_12 : decode cX7_countWays 12 = .ok (.ireturn, 1) := by decide +kernel
theorem dX7_countWays_13 : decode cX7_countWays 13 = .ok (.iload 5, 2) := by decide +kernel
theorem dX7_countWays_15 : decode cX7_countWays 15 = .ok (.istore 6, 2) := by decide +kernel
theorem dX7_countWays_17 : decode cX7_countWays 17 = .ok (.iload 4, 2) := by decide +kernel
theorem dX7_countWays_19 : decode cX7_countWays 19 = .ok (.bipush 9, 2) := by decide +kernel
theorem dX7_countWays_21 : decode cX7_countWays 21 = .ok (.if_icmp .lt 6, 3) := by decide +kernel
theorem dX7_countWays_24 : decode cX7_countWays 24 = .ok (.iload 6, 2) := by decide +kernel
theorem dX7_countWays_26 : decode cX7_countWays 26 = .ok (.ireturn, 1) := by decide +kernel
theorem dX7_countWays_27 : decode cX7_countWays 27 = .ok (.iconst 0, 1) := by decide +kernel
theorem dX7_countWays_28 : decode cX7_countWays 28 = .ok (.istore 7, 2) := by decide +kernel
theorem dX7_countWays_30 : decode cX7_countWays 30 = .ok (.iload 7, 2) := by decide +kernel
theorem dX7_countWays_32 : decode cX7_countWays 32 = .ok (.aload_n 0, 1) := by decide +kernel
theorem dX7_countWays_33 : decode cX7_countWays 33 = .ok (.getfield 103, 3) := by decide +kernel
theorem dX7_countWays_36 : decode cX7_countWays 36 = .ok (.if_icmp .ge 83, 3) := by decide +kernel
theorem dX7_countWays_39 : decode cX7_countWays 39 = .ok (.iload 6, 2) := by decide +kernel
theorem dX7_countWays_41 : decode cX7_countWays 41 = .ok (.sipush 500, 3) := by decide +kernel
theorem dX7_countWays_44 : decode cX7_countWays 44 = .ok (.if_icmp .ge 75, 3) := by decide +kernel
theorem dX7_countWays_47 : decode cX7_countWays 47 = .ok (.aload_n 0, 1) := by decide +kernel
theorem dX7_countWays_48 : decode cX7_countWays 48 = .ok (.iload 7, 2) := by decide +kernel
theorem dX7_countWays_50 : decode cX7_countWays 50 = .ok (.iload_n 1, 1) := by decide +kernel
theorem dX7_countWays_51 : decode cX7_countWays 51 = .ok (.invokevirtual 320, 3) := by decide +kernel
theorem dX7_countWays_54 : decode cX7_countWays 54 = .ok (.istore 8, 2) := by decide +kernel
theorem dX7_countWays_56 : decode cX7_countWays 56 = .ok (.iload 8, 2) := by decide +kernel
theorem dX7_countWays_58 : decode cX7_countWays 58 = .ok (.sipush (-999), 3) := by decide +kernel
theorem dX7_countWays_61 : decode cX7_countWays 61 = .ok (.if_icmp .eq 52, 3) := by decide +kernel
theorem dX7_countWays_64 : decode cX7_countWays 64 = .ok (.iload_n 3, 1) := by decide +kernel
theorem dX7_countWays_65 : decode cX7_countWays 65 = .ok (.iconst 1, 1) := by decide +kernel
theorem dX7_countWays_66 : decode cX7_countWays 66 = .ok (.iload 8, 2) := by decide +kernel
theorem dX7_countWays_68 : decode cX7_countWays 68 = .ok (.ishl, 1) := by decide +kernel
theorem dX7_countWays_69 : decode cX7_countWays 69 = .ok (.iand, 1) := by decide +kernel
theorem dX7_countWays_70 : decode cX7_countWays 70 = .ok (.ifCond .ne 43, 3) := by decide +kernel
theorem dX7_countWays_73 : decode cX7_countWays 73 = .ok (.aload_n 0, 1) := by decide +kernel
theorem dX7_countWays_74 : decode cX7_countWays 74 = .ok (.getfield 144, 3) := by decide +kernel
theorem dX7_countWays_77 : decode cX7_countWays 77 = .ok (.iload 7, 2) := by decide +kernel
theorem dX7_countWays_79 : decode cX7_countWays 79 = .ok (.iaload, 1) := by decide +kernel
theorem dX7_countWays_80 : decode cX7_countWays 80 = .ok (.iload_n 2, 1) := by decide +kernel
theorem dX7_countWays_81 : decode cX7_countWays 81 = .ok (.if_icmp .gt 32, 3) := by decide +kernel
theorem dX7_countWays_84 : decode cX7_countWays 84 = .ok (.aload_n 0, 1) := by decide +kernel
theorem dX7_countWays_85 : decode cX7_countWays 85 = .ok (.iload 8, 2) := by decide +kernel
theorem dX7_countWays_87 : decode cX7_countWays 87 = .ok (.iload_n 2, 1) := by decide +kernel
theorem dX7_countWays_88 : decode cX7_countWays 88 = .ok (.aload_n 0, 1) := by decide +kernel
theorem dX7_countWays_89 : decode cX7_countWays 89 = .ok (.getfield 144, 3) := by decide +kernel
theorem dX7_countWays_92 : decode cX7_countWays 92 = .ok (.iload 7, 2) := by decide +kernel
theorem dX7_countWays_94 : decode cX7_countWays 94 = .ok (.iaload, 1) := by decide +kernel
theorem dX7_countWays_95 : decode cX7_countWays 95 = .ok (.isub, 1) := by decide +kernel
theorem dX7_countWays_96 : decode cX7_countWays 96 = .ok (.iload_n 3, 1) := by decide +kernel
theorem dX7_countWays_97 : decode cX7_countWays 97 = .ok (.iconst 1, 1) := by decide +kernel
theorem dX7_countWays_98 : decode cX7_countWays 98 = .ok (.iload 8, 2) := by decide +kernel
theorem dX7_countWays_100 : decode cX7_countWays 100 = .ok (.ishl, 1) := by decide +kernel
theorem dX7_countWays_101 : decode cX7_countWays 101 = .ok (.ior, 1) := by decide +kernel
theorem dX7_countWays_102 : decode cX7_countWays 102 = .ok (.iload 4, 2) := by decide +kernel
theorem dX7_countWays_104 : decode cX7_countWays 104 = .ok (.iconst 1, 1) := by decide +kernel
theorem dX7_countWays_105 : decode cX7_countWays 105 = .ok (.iadd, 1) := by decide +kernel
theorem dX7_countWays_106 : decode cX7_countWays 106 = .ok (.iload 6, 2) := by decide +kernel
theorem dX7_countWays_108 : decode cX7_countWays 108 = .ok (.invokestatic 249, 3) := by decide +kernel
theorem dX7_countWays_111 : decode cX7_countWays 111 = .ok (.istore 6, 2) := by decide +kernel
theorem dX7_countWays_113 : decode cX7_countWays 113 = .ok (.iinc 7 1, 3) := by decide +kernel
theorem dX7_countWays_116 : decode cX7_countWays 116 = .ok (.goto (-86), 3) := by decide +kernel
theorem dX7_countWays_119 : decode cX7_countWays 119 = .ok (.iload 6, 2) := by decide +kernel
theorem dX7_countWays_121 : decode cX7_countWays 121 = .ok (.ireturn, 1) := by decide +kernel
theorem dX7_planCommandOnTrial_0 : decode cX7_planCommandOnTrial 0 = .ok (.aload_n 0, 1) := by decide +kernel
theorem dX7_planCommandOnTrial_1 : decode cX7_planCommandOnTrial 1 = .ok (.getfield 26, 3) := by decide +kernel
theorem dX7_planCommandOnTrial_4 : decode cX7_planCommandOnTrial 4 = .ok (.getfield 323, 3) := by decide +kernel
theorem dX7_planCommandOnTrial_7 : decode cX7_planCommandOnTrial 7 = .ok (.iload_n 1, 1) := by decide +kernel
theorem dX7_planCommandOnTrial_8 : decode cX7_planCommandOnTrial 8 = .ok (.iaload, 1) := by decide +kernel
theorem dX7_planCommandOnTrial_9 : decode cX7_planCommandOnTrial 9 = .ok (.istore_n 2, 1) := by decide +kernel
theorem dX7_planCommandOnTrial_10 : decode cX7_planCommandOnTrial 10 = .ok (.aload_n 0, 1) := by decide +kernel
theorem dX7_planCommandOnTrial_11 : decode cX7_planCommandOnTrial 11 = .ok (.getfield 26, 3) := by decide +kernel
theorem dX7_planCommandOnTrial_14 : decode cX7_planCommandOnTrial 14 = .ok (.getfield 326, 3) := by decide +kernel
theorem dX7_planCommandOnTrial_17 : decode cX7_planCommandOnTrial 17 = .ok (.iload_n 1, 1) := by decide +kernel
theorem dX7_planCommandOnTrial_18 : decode cX7_planCommandOnTrial 18 = .ok (.iaload, 1) := by decide +kernel
theorem dX7_planCommandOnTrial_19 : decode cX7_planCommandOnTrial 19 = .ok (.istore_n 3, 1) := by decide +kernel
theorem dX7_planCommandOnTrial_20 : decode cX7_planCommandOnTrial 20 = .ok (.aload_n 0, 1) := by decide +kernel
theorem dX7_planCommandOnTrial_21 : decode cX7_planCommandOnTrial 21 = .ok (.getfield 26, 3) := by decide +kernel
theorem dX7_planCommandOnTrial_24 : decode cX7_planCommandOnTrial 24 = .ok (.getfield 329, 3) := by decide +kernel
theorem dX7_planCommandOnTrial_27 : decode cX7_planCommandOnTrial 27 = .ok (.iload_n 1, 1) := by decide +kernel
theorem dX7_planCommandOnTrial_28 : decode cX7_planCommandOnTrial 28 = .ok (.iaload, 1) := by decide +kernel
theorem dX7_planCommandOnTrial_29 : decode cX7_planCommandOnTrial 29 = .ok (.lookupswitch 83 #[(99, 53), (101, 73), (108, 63), (111, 43)], 43) := by decide +kernel
theorem dX7_planCommandOnTrial_72 : decode cX7_planCommandOnTrial 72 = .ok (.aload_n 0, 1) := by decide +kernel
theorem dX7_planCommandOnTrial_73 : decode cX7_planCommandOnTrial 73 = .ok (.getfield 37, 3) := by decide +kernel
theorem dX7_planCommandOnTrial_76 : decode cX7_planCommandOnTrial 76 = .ok (.iload_n 2, 1) := by decide +kernel
theorem dX7_planCommandOnTrial_77 : decode cX7_planCommandOnTrial 77 = .ok (.iconst 0, 1) := by decide +kernel
theorem dX7_planCommandOnTrial_78 : decode cX7_planCommandOnTrial 78 = .ok (.invokevirtual 207, 3) := by decide +kernel
theorem dX7_planCommandOnTrial_81 : decode cX7_planCommandOnTrial 81 = .ok (.ireturn, 1) := by decide +kernel
theorem dX7_planCommandOnTrial_82 : decode cX7_planCommandOnTrial 82 = .ok (.aload_n 0, 1) := by decide +kernel
theorem dX7_planCommandOnTrial_83 : decode cX7_planCommandOnTrial 83 = .ok (.getfield 37, 3) := by decide +kernel
theorem dX7_planCommandOnTrial_86 : decode cX7_planCommandOnTrial 86 = .ok (.iload_n 2, 1) := by decide +kernel
theorem dX7_planCommandOnTrial_87 : decode cX7_planCommandOnTrial 87 = .ok (.iconst 1, 1) := by decide +kernel
theorem dX7_planCommandOnTrial_88 : decode cX7_planCommandOnTrial 88 = .ok (.invokevirtual 207, 3) := by decide +kernel
theorem dX7_planCommandOnTrial_91 : decode cX7_planCommandOnTrial 91 = .ok (.ireturn, 1) := by decide +kernel
theorem dX7_planCommandOnTrial_92 : decode cX7_planCommandOnTrial 92 = .ok (.aload_n 0, 1) := by decide +kernel
theorem dX7_planCommandOnTrial_93 : decode cX7_planCommandOnTrial 93 = .ok (.getfield 37, 3) := by decide +kernel
theorem dX7_planCommandOnTrial_96 : decode cX7_planCommandOnTrial 96 = .ok (.iload_n 2, 1) := by decide +kernel
theorem dX7_planCommandOnTrial_97 : decode cX7_planCommandOnTrial 97 = .ok (.iload_n 3, 1) := by decide +kernel
theorem dX7_planCommandOnTrial_98 : decode cX7_planCommandOnTrial 98 = .ok (.invokevirtual 201, 3) := by decide +kernel
theorem dX7_planCommandOnTrial_101 : decode cX7_planCommandOnTrial 101 = .ok (.ireturn, 1) := by decide +kernel
theorem dX7_planCommandOnTrial_102 : decode cX7_planCommandOnTrial 102 = .ok (.aload_n 0, 1) := by decide +kernel
theorem dX7_planCommandOnTrial_103 : decode cX7_planCommandOnTrial 103 = .ok (.getfield 37, 3) := by decide +kernel
theorem dX7_planCommandOnTrial_106 : decode cX7_planCommandOnTrial 106 = .ok (.iload_n 2, 1) := by decide +kernel
theorem dX7_planCommandOnTrial_107 : decode cX7_planCommandOnTrial 107 = .ok (.iload_n 3, 1) := by decide +kernel
theorem dX7_planCommandOnTrial_108 : decode cX7_planCommandOnTrial 108 = .ok (.invokevirtual 211, 3) := by decide +kernel
theorem dX7_planCommandOnTrial_111 : decode cX7_planCommandOnTrial 111 = .ok (.ireturn, 1) := by decide +kernel
theorem dX7_planCommandOnTrial_112 : decode cX7_planCommandOnTrial 112 = .ok (.aload_n 0, 1) := by decide +kernel
theorem dX7_planCommandOnTrial_113 : decode cX7_planCommandOnTrial 113 = .ok (.getfield 37, 3) := by decide +kernel
theorem dX7_planCommandOnTrial_116 : decode cX7_planCommandOnTrial 116 = .ok (.aload_n 0, 1) := by decide +kernel
theorem dX7_planCommandOnTrial_117 : decode cX7_planCommandOnTrial 117 = .ok (.getfield 37, 3) := by decide +kernel
theorem dX7_planCommandOnTrial_120 : decode cX7_planCommandOnTrial 120 = .ok (.getfield 116, 3) := by decide +kernel
theorem dX7_planCommandOnTrial_123 : decode cX7_planCommandOnTrial 123 = .ok (.aload_n 0, 1) := by decide +kernel
theorem dX7_planCommandOnTrial_124 : decode cX7_planCommandOnTrial 124 = .ok (.getfield 37, 3) := by decide +kernel
theorem dX7_planCommandOnTrial_127 : decode cX7_planCommandOnTrial 127 = .ok (.getfield 113, 3) := by decide +kernel
theorem dX7_planCommandOnTrial_130 : decode cX7_planCommandOnTrial 130 = .ok (.invokevirtual 211, 3) := by decide +kernel
theorem dX7_planCommandOnTrial_133 : decode cX7_planCommandOnTrial 133 = .ok (.ireturn, 1) := by decide +kernel
theorem dX7_leadingGroups_0 : decode cX7_leadingGroups 0 = .ok (.lload_n 0, 1) := by decide +kernel
theorem dX7_leadingGroups_1 : decode cX7_leadingGroups 1 = .ok (.lstore_n 3, 1) := by decide +kernel
theorem dX7_leadingGroups_2 : decode cX7_leadingGroups 2 = .ok (.iconst 0, 1) := by decide +kernel
theorem dX7_leadingGroups_3 : decode cX7_leadingGroups 3 = .ok (.istore 5, 2) := by decide +kernel
theorem dX7_leadingGroups_5 : decode cX7_leadingGroups 5 = .ok (.iload 5, 2) := by decide +kernel
theorem dX7_leadingGroups_7 : decode cX7_leadingGroups 7 = .ok (.iload_n 2, 1) := by decide +kernel
theorem dX7_leadingGroups_8 : decode cX7_leadingGroups 8 = .ok (.if_icmp .ge 15, 3) := by decide +kernel
theorem dX7_leadingGroups_11 : decode cX7_leadingGroups 11 = .ok (.lload_n 3, 1) := by decide +kernel
theorem dX7_leadingGroups_12 : decode cX7_leadingGroups 12 = .ok (.ldc2_w 264, 3) := by decide +kernel
theorem dX7_leadingGroups_15 : decode cX7_leadingGroups 15 = .ok (.ldiv, 1) := by decide +kernel
theorem dX7_leadingGroups_16 : decode cX7_leadingGroups 16 = .ok (.lstore_n 3, 1) := by decide +kernel
theorem dX7_leadingGroups_17 : decode cX7_leadingGroups 17 = .ok (.iinc 5 1, 3) := by decide +kernel
theorem dX7_leadingGroups_20 : decode cX7_leadingGroups 20 = .ok (.goto (-15), 3) := by decide +kernel
theorem dX7_leadingGroups_23 : decode cX7_leadingGroups 23 = .ok (.lload_n 3, 1) := by decide +kernel
theorem dX7_leadingGroups_24 : decode cX7_leadingGroups 24 = .ok (.lreturn, 1) := by decide +kernel
theorem dX7_scriptCommandOnTrial_0 : decode cX7_scriptCommandOnTrial 0 = .ok (.iload_n 1, 1) := by decide +kernel
theorem dX7_scriptCommandOnTrial_1 : decode cX7_scriptCommandOnTrial 1 = .ok (.sipush 1000, 3) := by decide +kernel
theorem dX7_scriptCommandOnTrial_4 : decode cX7_scriptCommandOnTrial 4 = .ok (.idiv, 1) := by decide +kernel
theorem dX7_scriptCommandOnTrial_5 : decode cX7_scriptCommandOnTrial 5 = .ok (.bipush 10, 2) := by decide +kernel
theorem dX7_scriptCommandOnTrial_7 : decode cX7_scriptCommandOnTrial 7 = .ok (.irem, 1) := by decide +kernel
theorem dX7_scriptCommandOnTrial_8 : decode cX7_scriptCommandOnTrial 8 = .ok (.istore_n 2, 1) := by decide +kernel
theorem dX7_scriptCommandOnTrial_9 : decode cX7_scriptCommandOnTrial 9 = .ok (.iload_n 1, 1) := by decide +kernel
theorem dX7_scriptCommandOnTrial_10 : decode cX7_scriptCommandOnTrial 10 = .ok (.bipush 100, 2) := by decide +kernel
theorem dX7_scriptCommandOnTrial_12 : decode cX7_scriptCommandOnTrial 12 = .ok (.idiv, 1) := by decide +kernel
theorem dX7_scriptCommandOnTrial_13 : decode cX7_scriptCommandOnTrial 13 = .ok (.bipush 10, 2) := by decide +kernel
end
section
theorem dX7_scriptCommandOnTrial_15 : decode cX7_scriptCommandOnTrial 15 = .ok (.irem, 1) := by decide +kernel
theorem dX7_scriptCommandOnTrial_16 : decode cX7_scriptCommandOnTrial 16 = .ok (.istore_n 3, 1) := by decide +kernel
theorem dX7_scriptCommandOnTrial_17 : decode cX7_scriptCommandOnTrial 17 = .ok (.iload_n 1, 1) := by decide +kernel
theorem dX7_scriptCommandOnTrial_18 : decode cX7_scriptCommandOnTrial 18 = .ok (.bipush 100, 2) := by decide +kernel
theorem dX7_scriptCommandOnTrial_20 : decode cX7_scriptCommandOnTrial 20 = .ok (.idiv, 1) := by decide +kernel
theorem dX7_scriptCommandOnTrial_21 : decode cX7_scriptCommandOnTrial 21 = .ok (.bipush 100, 2) := by decide +kernel
theorem dX7_scriptCommandOnTrial_23 : decode cX7_scriptCommandOnTrial 23 = .ok (.irem, 1) := by decide +kernel
theorem dX7_scriptCommandOnTrial_24 : decode cX7_scriptCommandOnTrial 24 = .ok (.istore 4, 2) := by decide +kernel
theorem dX7_scriptCommandOnTrial_26 : decode cX7_scriptCommandOnTrial 26 = .ok (.iload_n 1, 1) := by decide +kernel
theorem dX7_scriptCommandOnTrial_27 : decode cX7_scriptCommandOnTrial 27 = .ok (.bipush 100, 2) := by decide +kernel
theorem dX7_scriptCommandOnTrial_29 : decode cX7_scriptCommandOnTrial 29 = .ok (.irem, 1) := by decide +kernel
theorem dX7_scriptCommandOnTrial_30 : decode cX7_scriptCommandOnTrial 30 = .ok (.istore 5, 2) := by decide +kernel
theorem dX7_scriptCommandOnTrial_32 : decode cX7_scriptCommandOnTrial 32 = .ok (.iload_n 1, 1) := by decide +kernel
theorem dX7_scriptCommandOnTrial_33 : decode cX7_scriptCommandOnTrial 33 = .ok (.sipush 10000, 3) := by decide +kernel
theorem dX7_scriptCommandOnTrial_36 : decode cX7_scriptCommandOnTrial 36 = .ok (.idiv, 1) := by decide +kernel
theorem dX7_scriptCommandOnTrial_37 : decode cX7_scriptCommandOnTrial 37 = .ok (.tableswitch 275 1 9 #[51, 71, 94, 114, 156, 179, 208, 228, 255], 51) := by decide +kernel
theorem dX7_scriptCommandOnTrial_88 : decode cX7_scriptCommandOnTrial 88 = .ok (.aload_n 0, 1) := by decide +kernel
theorem dX7_scriptCommandOnTrial_89 : decode cX7_scriptCommandOnTrial 89 = .ok (.getfield 37, 3) := by decide +kernel
theorem dX7_scriptCommandOnTrial_92 : decode cX7_scriptCommandOnTrial 92 = .ok (.iload_n 2, 1) := by decide +kernel
theorem dX7_scriptCommandOnTrial_93 : decode cX7_scriptCommandOnTrial 93 = .ok (.iload_n 3, 1) := by decide +kernel
theorem dX7_scriptCommandOnTrial_94 : decode cX7_scriptCommandOnTrial 94 = .ok (.iload 5, 2) := by decide +kernel
theorem dX7_scriptCommandOnTrial_96 : decode cX7_scriptCommandOnTrial 96 = .ok (.invokevirtual 194, 3) := by decide +kernel
theorem dX7_scriptCommandOnTrial_99 : decode cX7_scriptCommandOnTrial 99 = .ok (.ifCond .ne 7, 3) := by decide +kernel
theorem dX7_scriptCommandOnTrial_102 : decode cX7_scriptCommandOnTrial 102 = .ok (.iconst 1, 1) := by decide +kernel
theorem dX7_scriptCommandOnTrial_103 : decode cX7_scriptCommandOnTrial 103 = .ok (.goto 4, 3) := by decide +kernel
theorem dX7_scriptCommandOnTrial_106 : decode cX7_scriptCommandOnTrial 106 = .ok (.iconst 0, 1) := by decide +kernel
theorem dX7_scriptCommandOnTrial_107 : decode cX7_scriptCommandOnTrial 107 = .ok (.ireturn, 1) := by decide +kernel
theorem dX7_scriptCommandOnTrial_108 : decode cX7_scriptCommandOnTrial 108 = .ok (.iload 5, 2) := by decide +kernel
theorem dX7_scriptCommandOnTrial_110 : decode cX7_scriptCommandOnTrial 110 = .ok (.ifCond .ne 19, 3) := by decide +kernel
theorem dX7_scriptCommandOnTrial_113 : decode cX7_scriptCommandOnTrial 113 = .ok (.aload_n 0, 1) := by decide +kernel
theorem dX7_scriptCommandOnTrial_114 : decode cX7_scriptCommandOnTrial 114 = .ok (.getfield 37, 3) := by decide +kernel
theorem dX7_scriptCommandOnTrial_117 : decode cX7_scriptCommandOnTrial 117 = .ok (.iload 4, 2) := by decide +kernel
theorem dX7_scriptCommandOnTrial_119 : decode cX7_scriptCommandOnTrial 119 = .ok (.invokevirtual 198, 3) := by decide +kernel
theorem dX7_scriptCommandOnTrial_122 : decode cX7_scriptCommandOnTrial 122 = .ok (.ifCond .ne 7, 3) := by decide +kernel
theorem dX7_scriptCommandOnTrial_125 : decode cX7_scriptCommandOnTrial 125 = .ok (.iconst 1, 1) := by decide +kernel
theorem dX7_scriptCommandOnTrial_126 : decode cX7_scriptCommandOnTrial 126 = .ok (.goto 4, 3) := by decide +kernel
theorem dX7_scriptCommandOnTrial_129 : decode cX7_scriptCommandOnTrial 129 = .ok (.iconst 0, 1) := by decide +kernel
theorem dX7_scriptCommandOnTrial_130 : decode cX7_scriptCommandOnTrial 130 = .ok (.ireturn, 1) := by decide +kernel
theorem dX7_scriptCommandOnTrial_131 : decode cX7_scriptCommandOnTrial 131 = .ok (.aload_n 0, 1) := by decide +kernel
theorem dX7_scriptCommandOnTrial_132 : decode cX7_scriptCommandOnTrial 132 = .ok (.getfield 37, 3) := by decide +kernel
theorem dX7_scriptCommandOnTrial_135 : decode cX7_scriptCommandOnTrial 135 = .ok (.iload 4, 2) := by decide +kernel
theorem dX7_scriptCommandOnTrial_137 : decode cX7_scriptCommandOnTrial 137 = .ok (.iload 5, 2) := by decide +kernel
theorem dX7_scriptCommandOnTrial_139 : decode cX7_scriptCommandOnTrial 139 = .ok (.invokevirtual 201, 3) := by decide +kernel
theorem dX7_scriptCommandOnTrial_142 : decode cX7_scriptCommandOnTrial 142 = .ok (.ifCond .ne 7, 3) := by decide +kernel
theorem dX7_scriptCommandOnTrial_145 : decode cX7_scriptCommandOnTrial 145 = .ok (.iconst 1, 1) := by decide +kernel
theorem dX7_scriptCommandOnTrial_146 : decode cX7_scriptCommandOnTrial 146 = .ok (.goto 4, 3) := by decide +kernel
theorem dX7_scriptCommandOnTrial_149 : decode cX7_scriptCommandOnTrial 149 = .ok (.iconst 0, 1) := by decide +kernel
theorem dX7_scriptCommandOnTrial_150 : decode cX7_scriptCommandOnTrial 150 = .ok (.ireturn, 1) := by decide +kernel
theorem dX7_scriptCommandOnTrial_151 : decode cX7_scriptCommandOnTrial 151 = .ok (.iload 5, 2) := by decide +kernel
theorem dX7_scriptCommandOnTrial_153 : decode cX7_scriptCommandOnTrial 153 = .ok (.ifCond .eq 10, 3) := by decide +kernel
theorem dX7_scriptCommandOnTrial_156 : decode cX7_scriptCommandOnTrial 156 = .ok (.iload 5, 2) := by decide +kernel
theorem dX7_scriptCommandOnTrial_158 : decode cX7_scriptCommandOnTrial 158 = .ok (.bipush 10, 2) := by decide +kernel
theorem dX7_scriptCommandOnTrial_160 : decode cX7_scriptCommandOnTrial 160 = .ok (.if_icmp .ne 31, 3) := by decide +kernel
theorem dX7_scriptCommandOnTrial_163 : decode cX7_scriptCommandOnTrial 163 = .ok (.aload_n 0, 1) := by decide +kernel
theorem dX7_scriptCommandOnTrial_164 : decode cX7_scriptCommandOnTrial 164 = .ok (.getfield 37, 3) := by decide +kernel
theorem dX7_scriptCommandOnTrial_167 : decode cX7_scriptCommandOnTrial 167 = .ok (.iload 4, 2) := by decide +kernel
theorem dX7_scriptCommandOnTrial_169 : decode cX7_scriptCommandOnTrial 169 = .ok (.iload 5, 2) := by decide +kernel
theorem dX7_scriptCommandOnTrial_171 : decode cX7_scriptCommandOnTrial 171 = .ok (.bipush 10, 2) := by decide +kernel
theorem dX7_scriptCommandOnTrial_173 : decode cX7_scriptCommandOnTrial 173 = .ok (.if_icmp .ne 7, 3) := by decide +kernel
theorem dX7_scriptCommandOnTrial_176 : decode cX7_scriptCommandOnTrial 176 = .ok (.iconst 1, 1) := by decide +kernel
theorem dX7_scriptCommandOnTrial_177 : decode cX7_scriptCommandOnTrial 177 = .ok (.goto 4, 3) := by decide +kernel
theorem dX7_scriptCommandOnTrial_180 : decode cX7_scriptCommandOnTrial 180 = .ok (.iconst 0, 1) := by decide +kernel
theorem dX7_scriptCommandOnTrial_181 : decode cX7_scriptCommandOnTrial 181 = .ok (.invokevirtual 207, 3) := by decide +kernel
theorem dX7_scriptCommandOnTrial_184 : decode cX7_scriptCommandOnTrial 184 = .ok (.ifCond .ne 7, 3) := by decide +kernel
theorem dX7_scriptCommandOnTrial_187 : decode cX7_scriptCommandOnTrial 187 = .ok (.iconst 1, 1) := by decide +kernel
theorem dX7_scriptCommandOnTrial_188 : decode cX7_scriptCommandOnTrial 188 = .ok (.goto 4, 3) := by decide +kernel
theorem dX7_scriptCommandOnTrial_191 : decode cX7_scriptCommandOnTrial 191 = .ok (.iconst 0, 1) := by decide +kernel
theorem dX7_scriptCommandOnTrial_192 : decode cX7_scriptCommandOnTrial 192 = .ok (.ireturn, 1) := by decide +kernel
theorem dX7_scriptCommandOnTrial_193 : decode cX7_scriptCommandOnTrial 193 = .ok (.iload 5, 2) := by decide +kernel
theorem dX7_scriptCommandOnTrial_195 : decode cX7_scriptCommandOnTrial 195 = .ok (.ifCond .ne 19, 3) := by decide +kernel
theorem dX7_scriptCommandOnTrial_198 : decode cX7_scriptCommandOnTrial 198 = .ok (.aload_n 0, 1) := by decide +kernel
theorem dX7_scriptCommandOnTrial_199 : decode cX7_scriptCommandOnTrial 199 = .ok (.getfield 37, 3) := by decide +kernel
theorem dX7_scriptCommandOnTrial_202 : decode cX7_scriptCommandOnTrial 202 = .ok (.iload_n 2, 1) := by decide +kernel
theorem dX7_scriptCommandOnTrial_203 : decode cX7_scriptCommandOnTrial 203 = .ok (.iload_n 3, 1) := by decide +kernel
theorem dX7_scriptCommandOnTrial_204 : decode cX7_scriptCommandOnTrial 204 = .ok (.invokevirtual 211, 3) := by decide +kernel
theorem dX7_scriptCommandOnTrial_207 : decode cX7_scriptCommandOnTrial 207 = .ok (.ifCond .ne 7, 3) := by decide +kernel
theorem dX7_scriptCommandOnTrial_210 : decode cX7_scriptCommandOnTrial 210 = .ok (.iconst 1, 1) := by decide +kernel
theorem dX7_scriptCommandOnTrial_211 : decode cX7_scriptCommandOnTrial 211 = .ok (.goto 4, 3) := by decide +kernel
theorem dX7_scriptCommandOnTrial_214 : decode cX7_scriptCommandOnTrial 214 = .ok (.iconst 0, 1) := by decide +kernel
theorem dX7_scriptCommandOnTrial_215 : decode cX7_scriptCommandOnTrial 215 = .ok (.ireturn, 1) := by decide +kernel
theorem dX7_scriptCommandOnTrial_216 : decode cX7_scriptCommandOnTrial 216 = .ok (.iload_n 2, 1) := by decide +kernel
theorem dX7_scriptCommandOnTrial_217 : decode cX7_scriptCommandOnTrial 217 = .ok (.ifCond .ne 26, 3) := by decide +kernel
theorem dX7_scriptCommandOnTrial_220 : decode cX7_scriptCommandOnTrial 220 = .ok (.aload_n 0, 1) := by decide +kernel
theorem dX7_scriptCommandOnTrial_221 : decode cX7_scriptCommandOnTrial 221 = .ok (.aload_n 0, 1) := by decide +kernel
theorem dX7_scriptCommandOnTrial_222 : decode cX7_scriptCommandOnTrial 222 = .ok (.getfield 37, 3) := by decide +kernel
theorem dX7_scriptCommandOnTrial_225 : decode cX7_scriptCommandOnTrial 225 = .ok (.invokevirtual 119, 3) := by decide +kernel
theorem dX7_scriptCommandOnTrial_228 : decode cX7_scriptCommandOnTrial 228 = .ok (.iload_n 1, 1) := by decide +kernel
theorem dX7_scriptCommandOnTrial_229 : decode cX7_scriptCommandOnTrial 229 = .ok (.sipush 1000, 3) := by decide +kernel
theorem dX7_scriptCommandOnTrial_232 : decode cX7_scriptCommandOnTrial 232 = .ok (.irem, 1) := by decide +kernel
theorem dX7_scriptCommandOnTrial_233 : decode cX7_scriptCommandOnTrial 233 = .ok (.invokestatic 332, 3) := by decide +kernel
theorem dX7_scriptCommandOnTrial_236 : decode cX7_scriptCommandOnTrial 236 = .ok (.ifCond .eq 7, 3) := by decide +kernel
theorem dX7_scriptCommandOnTrial_239 : decode cX7_scriptCommandOnTrial 239 = .ok (.iconst 1, 1) := by decide +kernel
theorem dX7_scriptCommandOnTrial_240 : decode cX7_scriptCommandOnTrial 240 = .ok (.goto 4, 3) := by decide +kernel
theorem dX7_scriptCommandOnTrial_243 : decode cX7_scriptCommandOnTrial 243 = .ok (.iconst 0, 1) := by decide +kernel
theorem dX7_scriptCommandOnTrial_244 : decode cX7_scriptCommandOnTrial 244 = .ok (.ireturn, 1) := by decide +kernel
theorem dX7_scriptCommandOnTrial_245 : decode cX7_scriptCommandOnTrial 245 = .ok (.iload 5, 2) := by decide +kernel
theorem dX7_scriptCommandOnTrial_247 : decode cX7_scriptCommandOnTrial 247 = .ok (.ifCond .ne 16, 3) := by decide +kernel
theorem dX7_scriptCommandOnTrial_250 : decode cX7_scriptCommandOnTrial 250 = .ok (.aload_n 0, 1) := by decide +kernel
theorem dX7_scriptCommandOnTrial_251 : decode cX7_scriptCommandOnTrial 251 = .ok (.iload 4, 2) := by decide +kernel
theorem dX7_scriptCommandOnTrial_253 : decode cX7_scriptCommandOnTrial 253 = .ok (.invokevirtual 317, 3) := by decide +kernel
theorem dX7_scriptCommandOnTrial_256 : decode cX7_scriptCommandOnTrial 256 = .ok (.ifCond .eq 7, 3) := by decide +kernel
theorem dX7_scriptCommandOnTrial_259 : decode cX7_scriptCommandOnTrial 259 = .ok (.iconst 1, 1) := by decide +kernel
theorem dX7_scriptCommandOnTrial_260 : decode cX7_scriptCommandOnTrial 260 = .ok (.goto 4, 3) := by decide +kernel
theorem dX7_scriptCommandOnTrial_263 : decode cX7_scriptCommandOnTrial 263 = .ok (.iconst 0, 1) := by decide +kernel
theorem dX7_scriptCommandOnTrial_264 : decode cX7_scriptCommandOnTrial 264 = .ok (.ireturn, 1) := by decide +kernel
theorem dX7_scriptCommandOnTrial_265 : decode cX7_scriptCommandOnTrial 265 = .ok (.iload 4, 2) := by decide +kernel
theorem dX7_scriptCommandOnTrial_267 : decode cX7_scriptCommandOnTrial 267 = .ok (.ifCond .ne 23, 3) := by decide +kernel
theorem dX7_scriptCommandOnTrial_270 : decode cX7_scriptCommandOnTrial 270 = .ok (.iload 5, 2) := by decide +kernel
theorem dX7_scriptCommandOnTrial_272 : decode cX7_scriptCommandOnTrial 272 = .ok (.bipush 10, 2) := by decide +kernel
theorem dX7_scriptCommandOnTrial_274 : decode cX7_scriptCommandOnTrial 274 = .ok (.if_icmp .ge 16, 3) := by decide +kernel
theorem dX7_scriptCommandOnTrial_277 : decode cX7_scriptCommandOnTrial 277 = .ok (.aload_n 0, 1) := by decide +kernel
theorem dX7_scriptCommandOnTrial_278 : decode cX7_scriptCommandOnTrial 278 = .ok (.iload 5, 2) := by decide +kernel
theorem dX7_scriptCommandOnTrial_280 : decode cX7_scriptCommandOnTrial 280 = .ok (.invokevirtual 335, 3) := by decide +kernel
theorem dX7_scriptCommandOnTrial_283 : decode cX7_scriptCommandOnTrial 283 = .ok (.ifCond .eq 7, 3) := by decide +kernel
theorem dX7_scriptCommandOnTrial_286 : decode cX7_scriptCommandOnTrial 286 = .ok (.iconst 1, 1) := by decide +kernel
theorem dX7_scriptCommandOnTrial_287 : decode cX7_scriptCommandOnTrial 287 = .ok (.goto 4, 3) := by decide +kernel
theorem dX7_scriptCommandOnTrial_290 : decode cX7_scriptCommandOnTrial 290 = .ok (.iconst 0, 1) := by decide +kernel
theorem dX7_scriptCommandOnTrial_291 : decode cX7_scriptCommandOnTrial 291 = .ok (.ireturn, 1) := by decide +kernel
theorem dX7_scriptCommandOnTrial_292 : decode cX7_scriptCommandOnTrial 292 = .ok (.iload_n 3, 1) := by decide +kernel
theorem dX7_scriptCommandOnTrial_293 : decode cX7_scriptCommandOnTrial 293 = .ok (.ifCond .ne 17, 3) := by decide +kernel
theorem dX7_scriptCommandOnTrial_296 : decode cX7_scriptCommandOnTrial 296 = .ok (.aload_n 0, 1) := by decide +kernel
theorem dX7_scriptCommandOnTrial_297 : decode cX7_scriptCommandOnTrial 297 = .ok (.iload_n 2, 1) := by decide +kernel
theorem dX7_scriptCommandOnTrial_298 : decode cX7_scriptCommandOnTrial 298 = .ok (.iload 5, 2) := by decide +kernel
theorem dX7_scriptCommandOnTrial_300 : decode cX7_scriptCommandOnTrial 300 = .ok (.invokevirtual 338, 3) := by decide +kernel
theorem dX7_scriptCommandOnTrial_303 : decode cX7_scriptCommandOnTrial 303 = .ok (.ifCond .eq 7, 3) := by decide +kernel
theorem dX7_scriptCommandOnTrial_306 : decode cX7_scriptCommandOnTrial 306 = .ok (.iconst 1, 1) := by decide +kernel
theorem dX7_scriptCommandOnTrial_307 : decode cX7_scriptCommandOnTrial 307 = .ok (.goto 4, 3) := by decide +kernel
theorem dX7_scriptCommandOnTrial_310 : decode cX7_scriptCommandOnTrial 310 = .ok (.iconst 0, 1) := by decide +kernel
theorem dX7_scriptCommandOnTrial_311 : decode cX7_scriptCommandOnTrial 311 = .ok (.ireturn, 1) := by decide +kernel
theorem dX7_scriptCommandOnTrial_312 : decode cX7_scriptCommandOnTrial 312 = .ok (.iconst 0, 1) := by decide +kernel
theorem dX7_scriptCommandOnTrial_313 : decode cX7_scriptCommandOnTrial 313 = .ok (.ireturn, 1) := by decide +kernel
theorem dX7_isAtMost_0 : decode cX7_isAtMost 0 = .ok (.iload_n 0, 1) := by decide +kernel
theorem dX7_isAtMost_1 : decode cX7_isAtMost 1 = .ok (.sipush (-999), 3) := by decide +kernel
theorem dX7_isAtMost_4 : decode cX7_isAtMost 4 = .ok (.if_icmp .eq 12, 3) := by decide +kernel
theorem dX7_isAtMost_7 : decode cX7_isAtMost 7 = .ok (.iload_n 0, 1) := by decide +kernel
theorem dX7_isAtMost_8 : decode cX7_isAtMost 8 = .ok (.iload_n 1, 1) := by decide +kernel
theorem dX7_isAtMost_9 : decode cX7_isAtMost 9 = .ok (.if_icmp .gt 7, 3) := by decide +kernel
theorem dX7_isAtMost_12 : decode cX7_isAtMost 12 = .ok (.iconst 1, 1) := by decide +kernel
theorem dX7_isAtMost_13 : decode cX7_isAtMost 13 = .ok (.goto 4, 3) := by decide +kernel
theorem dX7_isAtMost_16 : decode cX7_isAtMost 16 = .ok (.iconst 0, 1) := by decide +kernel
theorem dX7_isAtMost_17 : decode cX7_isAtMost 17 = .ok (.ireturn, 1) := by decide +kernel
theorem dX7_isOnBestWayOfTrial_0 : decode cX7_isOnBestWayOfTrial 0 = .ok (.aload_n 0, 1) := by decide +kernel
theorem dX7_isOnBestWayOfTrial_1 : decode cX7_isOnBestWayOfTrial 1 = .ok (.getfield 61, 3) := by decide +kernel
theorem dX7_isOnBestWayOfTrial_4 : decode cX7_isOnBestWayOfTrial 4 = .ok (.aload_n 0, 1) := by decide +kernel
theorem dX7_isOnBestWayOfTrial_5 : decode cX7_isOnBestWayOfTrial 5 = .ok (.getfield 37, 3) := by decide +kernel
theorem dX7_isOnBestWayOfTrial_8 : decode cX7_isOnBestWayOfTrial 8 = .ok (.invokevirtual 123, 3) := by decide +kernel
theorem dX7_isOnBestWayOfTrial_11 : decode cX7_isOnBestWayOfTrial 11 = .ok (.aload_n 0, 1) := by decide +kernel
theorem dX7_isOnBestWayOfTrial_12 : decode cX7_isOnBestWayOfTrial 12 = .ok (.getfield 37, 3) := by decide +kernel
theorem dX7_isOnBestWayOfTrial_15 : decode cX7_isOnBestWayOfTrial 15 = .ok (.iload_n 1, 1) := by decide +kernel
theorem dX7_isOnBestWayOfTrial_16 : decode cX7_isOnBestWayOfTrial 16 = .ok (.invokevirtual 301, 3) := by decide +kernel
theorem dX7_isOnBestWayOfTrial_19 : decode cX7_isOnBestWayOfTrial 19 = .ok (.ifCond .eq 22, 3) := by decide +kernel
theorem dX7_isOnBestWayOfTrial_22 : decode cX7_isOnBestWayOfTrial 22 = .ok (.aload_n 0, 1) := by decide +kernel
theorem dX7_isOnBestWayOfTrial_23 : decode cX7_isOnBestWayOfTrial 23 = .ok (.getfield 61, 3) := by decide +kernel
theorem dX7_isOnBestWayOfTrial_26 : decode cX7_isOnBestWayOfTrial 26 = .ok (.aload_n 0, 1) := by decide +kernel
theorem dX7_isOnBestWayOfTrial_27 : decode cX7_isOnBestWayOfTrial 27 = .ok (.getfield 37, 3) := by decide +kernel
theorem dX7_isOnBestWayOfTrial_30 : decode cX7_isOnBestWayOfTrial 30 = .ok (.iload_n 1, 1) := by decide +kernel
theorem dX7_isOnBestWayOfTrial_31 : decode cX7_isOnBestWayOfTrial 31 = .ok (.invokevirtual 150, 3) := by decide +kernel
theorem dX7_isOnBestWayOfTrial_34 : decode cX7_isOnBestWayOfTrial 34 = .ok (.ifCond .eq 7, 3) := by decide +kernel
theorem dX7_isOnBestWayOfTrial_37 : decode cX7_isOnBestWayOfTrial 37 = .ok (.iconst 1, 1) := by decide +kernel
theorem dX7_isOnBestWayOfTrial_38 : decode cX7_isOnBestWayOfTrial 38 = .ok (.goto 4, 3) := by decide +kernel
theorem dX7_isOnBestWayOfTrial_41 : decode cX7_isOnBestWayOfTrial 41 = .ok (.iconst 0, 1) := by decide +kernel
theorem dX7_isOnBestWayOfTrial_42 : decode cX7_isOnBestWayOfTrial 42 = .ok (.ireturn, 1) := by decide +kernel
theorem dX7_hasTrialWayOf_0 : decode cX7_hasTrialWayOf 0 = .ok (.aload_n 0, 1) := by decide +kernel
theorem dX7_hasTrialWayOf_1 : decode cX7_hasTrialWayOf 1 = .ok (.getfield 61, 3) := by decide +kernel
theorem dX7_hasTrialWayOf_4 : decode cX7_hasTrialWayOf 4 = .ok (.aload_n 0, 1) := by decide +kernel
theorem dX7_hasTrialWayOf_5 : decode cX7_hasTrialWayOf 5 = .ok (.getfield 37, 3) := by decide +kernel
theorem dX7_hasTrialWayOf_8 : decode cX7_hasTrialWayOf 8 = .ok (.invokevirtual 123, 3) := by decide +kernel
theorem dX7_hasTrialWayOf_11 : decode cX7_hasTrialWayOf 11 = .ok (.aload_n 0, 1) := by decide +kernel
theorem dX7_hasTrialWayOf_12 : decode cX7_hasTrialWayOf 12 = .ok (.getfield 61, 3) := by decide +kernel
theorem dX7_hasTrialWayOf_15 : decode cX7_hasTrialWayOf 15 = .ok (.invokevirtual 126, 3) := by decide +kernel
theorem dX7_hasTrialWayOf_18 : decode cX7_hasTrialWayOf 18 = .ok (.iload_n 1, 1) := by decide +kernel
theorem dX7_hasTrialWayOf_19 : decode cX7_hasTrialWayOf 19 = .ok (.invokestatic 332, 3) := by decide +kernel
theorem dX7_hasTrialWayOf_22 : decode cX7_hasTrialWayOf 22 = .ok (.ireturn, 1) := by decide +kernel
theorem dX7_isNearInTrial_0 : decode cX7_isNearInTrial 0 = .ok (.aload_n 0, 1) := by decide +kernel
theorem dX7_isNearInTrial_1 : decode cX7_isNearInTrial 1 = .ok (.getfield 61, 3) := by decide +kernel
theorem dX7_isNearInTrial_4 : decode cX7_isNearInTrial 4 = .ok (.aload_n 0, 1) := by decide +kernel
theorem dX7_isNearInTrial_5 : decode cX7_isNearInTrial 5 = .ok (.getfield 37, 3) := by decide +kernel
theorem dX7_isNearInTrial_8 : decode cX7_isNearInTrial 8 = .ok (.aload_n 0, 1) := by decide +kernel
theorem dX7_isNearInTrial_9 : decode cX7_isNearInTrial 9 = .ok (.getfield 37, 3) := by decide +kernel
theorem dX7_isNearInTrial_12 : decode cX7_isNearInTrial 12 = .ok (.getfield 113, 3) := by decide +kernel
theorem dX7_isNearInTrial_15 : decode cX7_isNearInTrial 15 = .ok (.invokevirtual 163, 3) := by decide +kernel
theorem dX7_isNearInTrial_18 : decode cX7_isNearInTrial 18 = .ok (.aload_n 0, 1) := by decide +kernel
theorem dX7_isNearInTrial_19 : decode cX7_isNearInTrial 19 = .ok (.getfield 37, 3) := by decide +kernel
theorem dX7_isNearInTrial_22 : decode cX7_isNearInTrial 22 = .ok (.iload_n 1, 1) := by decide +kernel
theorem dX7_isNearInTrial_23 : decode cX7_isNearInTrial 23 = .ok (.invokevirtual 306, 3) := by decide +kernel
theorem dX7_isNearInTrial_26 : decode cX7_isNearInTrial 26 = .ok (.ifCond .eq 22, 3) := by decide +kernel
theorem dX7_isNearInTrial_29 : decode cX7_isNearInTrial 29 = .ok (.aload_n 0, 1) := by decide +kernel
theorem dX7_isNearInTrial_30 : decode cX7_isNearInTrial 30 = .ok (.getfield 61, 3) := by decide +kernel
theorem dX7_isNearInTrial_33 : decode cX7_isNearInTrial 33 = .ok (.iload_n 1, 1) := by decide +kernel
theorem dX7_isNearInTrial_34 : decode cX7_isNearInTrial 34 = .ok (.invokevirtual 167, 3) := by decide +kernel
theorem dX7_isNearInTrial_37 : decode cX7_isNearInTrial 37 = .ok (.iload_n 2, 1) := by decide +kernel
theorem dX7_isNearInTrial_38 : decode cX7_isNearInTrial 38 = .ok (.invokestatic 332, 3) := by decide +kernel
theorem dX7_isNearInTrial_41 : decode cX7_isNearInTrial 41 = .ok (.ifCond .eq 7, 3) := by decide +kernel
theorem dX7_isNearInTrial_44 : decode cX7_isNearInTrial 44 = .ok (.iconst 1, 1) := by decide +kernel
theorem dX7_isNearInTrial_45 : decode cX7_isNearInTrial 45 = .ok (.goto 4, 3) := by decide +kernel
theorem dX7_isNearInTrial_48 : decode cX7_isNearInTrial 48 = .ok (.iconst 0, 1) := by decide +kernel
theorem dX7_isNearInTrial_49 : decode cX7_isNearInTrial 49 = .ok (.ireturn, 1) := by decide +kernel
theorem dX8_init_0 : decode cX8_init 0 = .ok (.aload_n 0, 1) := by decide +kernel
theorem dX8_init_1 : decode cX8_init 1 = .ok (.invokespecial 1, 3) := by decide +kernel
theorem dX8_init_4 : decode cX8_init 4 = .ok (.aload_n 0, 1) := by decide +kernel
theorem dX8_init_5 : decode cX8_init 5 = .ok (.sipush 140, 3) := by decide +kernel
theorem dX8_init_8 : decode cX8_init 8 = .ok (.newarray .int, 2) := by decide +kernel
theorem dX8_init_10 : decode cX8_init 10 = .ok (.putfield 7, 3) := by decide +kernel
theorem dX8_init_13 : decode cX8_init 13 = .ok (.aload_n 0, 1) := by decide +kernel
theorem dX8_init_14 : decode cX8_init 14 = .ok (.bipush 84, 2) := by decide +kernel
theorem dX8_init_16 : decode cX8_init 16 = .ok (.newarray .int, 2) := by decide +kernel
theorem dX8_init_18 : decode cX8_init 18 = .ok (.putfield 13, 3) := by decide +kernel
theorem dX8_init_21 : decode cX8_init 21 = .ok (.aload_n 0, 1) := by decide +kernel
theorem dX8_init_22 : decode cX8_init 22 = .ok (.bipush 84, 2) := by decide +kernel
theorem dX8_init_24 : decode cX8_init 24 = .ok (.newarray .int, 2) := by decide +kernel
theorem dX8_init_26 : decode cX8_init 26 = .ok (.putfield 16, 3) := by decide +kernel
theorem dX8_init_29 : decode cX8_init 29 = .ok (.aload_n 0, 1) := by decide +kernel
theorem dX8_init_30 : decode cX8_init 30 = .ok (.bipush 84, 2) := by decide +kernel
theorem dX8_init_32 : decode cX8_init 32 = .ok (.newarray .int, 2) := by decide +kernel
theorem dX8_init_34 : decode cX8_init 34 = .ok (.putfield 19, 3) := by decide +kernel
theorem dX8_init_37 : decode cX8_init 37 = .ok (.aload_n 0, 1) := by decide +kernel
theorem dX8_init_38 : decode cX8_init 38 = .ok (.sipush 1176, 3) := by decide +kernel
theorem dX8_init_41 : decode cX8_init 41 = .ok (.newarray .int, 2) := by decide +kernel
theorem dX8_init_43 : decode cX8_init 43 = .ok (.putfield 22, 3) := by decide +kernel
theorem dX8_init_46 : decode cX8_init 46 = .ok (.aload_n 0, 1) := by decide +kernel
theorem dX8_init_47 : decode cX8_init 47 = .ok (.sipush 168, 3) := by decide +kernel
theorem dX8_init_50 : decode cX8_init 50 = .ok (.newarray .int, 2) := by decide +kernel
theorem dX8_init_52 : decode cX8_init 52 = .ok (.putfield 25, 3) := by decide +kernel
theorem dX8_init_55 : decode cX8_init 55 = .ok (.aload_n 0, 1) := by decide +kernel
theorem dX8_init_56 : decode cX8_init 56 = .ok (.iconst 2, 1) := by decide +kernel
theorem dX8_init_57 : decode cX8_init 57 = .ok (.newarray .boolean, 2) := by decide +kernel
theorem dX8_init_59 : decode cX8_init 59 = .ok (.putfield 28, 3) := by decide +kernel
theorem dX8_init_62 : decode cX8_init 62 = .ok (.aload_n 0, 1) := by decide +kernel
theorem dX8_init_63 : decode cX8_init 63 = .ok (.bipush 25, 2) := by decide +kernel
theorem dX8_init_65 : decode cX8_init 65 = .ok (.newarray .int, 2) := by decide +kernel
theorem dX8_init_67 : decode cX8_init 67 = .ok (.putfield 32, 3) := by decide +kernel
theorem dX8_init_70 : decode cX8_init 70 = .ok (.aload_n 0, 1) := by decide +kernel
theorem dX8_init_71 : decode cX8_init 71 = .ok (.bipush 81, 2) := by decide +kernel
theorem dX8_init_73 : decode cX8_init 73 = .ok (.newarray .int, 2) := by decide +kernel
theorem dX8_init_75 : decode cX8_init 75 = .ok (.putfield 35, 3) := by decide +kernel
theorem dX8_init_78 : decode cX8_init 78 = .ok (.aload_n 0, 1) := by decide +kernel
theorem dX8_init_79 : decode cX8_init 79 = .ok (.bipush 9, 2) := by decide +kernel
theorem dX8_init_81 : decode cX8_init 81 = .ok (.newarray .int, 2) := by decide +kernel
theorem dX8_init_83 : decode cX8_init 83 = .ok (.putfield 38, 3) := by decide +kernel
theorem dX8_init_86 : decode cX8_init 86 = .ok (.aload_n 0, 1) := by decide +kernel
theorem dX8_init_87 : decode cX8_init 87 = .ok (.bipush 9, 2) := by decide +kernel
theorem dX8_init_89 : decode cX8_init 89 = .ok (.newarray .int, 2) := by decide +kernel
theorem dX8_init_91 : decode cX8_init 91 = .ok (.putfield 41, 3) := by decide +kernel
theorem dX8_init_94 : decode cX8_init 94 = .ok (.aload_n 0, 1) := by decide +kernel
theorem dX8_init_95 : decode cX8_init 95 = .ok (.bipush 10, 2) := by decide +kernel
theorem dX8_init_97 : decode cX8_init 97 = .ok (.newarray .int, 2) := by decide +kernel
theorem dX8_init_99 : decode cX8_init 99 = .ok (.putfield 44, 3) := by decide +kernel
theorem dX8_init_102 : decode cX8_init 102 = .ok (.aload_n 0, 1) := by decide +kernel
theorem dX8_init_103 : decode cX8_init 103 = .ok (.bipush 10, 2) := by decide +kernel
theorem dX8_init_105 : decode cX8_init 105 = .ok (.newarray .int, 2) := by decide +kernel
theorem dX8_init_107 : decode cX8_init 107 = .ok (.putfield 47, 3) := by decide +kernel
theorem dX8_init_110 : decode cX8_init 110 = .ok (.aload_n 0, 1) := by decide +kernel
theorem dX8_init_111 : decode cX8_init 111 = .ok (.bipush 9, 2) := by decide +kernel
theorem dX8_init_113 : decode cX8_init 113 = .ok (.newarray .boolean, 2) := by decide +kernel
theorem dX8_init_115 : decode cX8_init 115 = .ok (.putfield 50, 3) := by decide +kernel
theorem dX8_init_118 : decode cX8_init 118 = .ok (.aload_n 0, 1) := by decide +kernel
theorem dX8_init_119 : decode cX8_init 119 = .ok (.getfield 16, 3) := by decide +kernel
theorem dX8_init_122 : decode cX8_init 122 = .ok (.iconst 2, 1) := by decide +kernel
theorem dX8_init_123 : decode cX8_init 123 = .ok (.invokestatic 53, 3) := by decide +kernel
theorem dX8_init_126 : decode cX8_init 126 = .ok (.aload_n 0, 1) := by decide +kernel
theorem dX8_init_127 : decode cX8_init 127 = .ok (.getfield 16, 3) := by decide +kernel
theorem dX8_init_130 : decode cX8_init 130 = .ok (.iconst 3, 1) := by decide +kernel
theorem dX8_init_131 : decode cX8_init 131 = .ok (.iconst 1, 1) := by decide +kernel
theorem dX8_init_132 : decode cX8_init 132 = .ok (.iastore, 1) := by decide +kernel
theorem dX8_init_133 : decode cX8_init 133 = .ok (.aload_n 0, 1) := by decide +kernel
theorem dX8_init_134 : decode cX8_init 134 = .ok (.iconst 0, 1) := by decide +kernel
theorem dX8_init_135 : decode cX8_init 135 = .ok (.bipush 111, 2) := by decide +kernel
theorem dX8_init_137 : decode cX8_init 137 = .ok (.bipush 112, 2) := by decide +kernel
theorem dX8_init_139 : decode cX8_init 139 = .ok (.bipush 101, 2) := by decide +kernel
theorem dX8_init_141 : decode cX8_init 141 = .ok (.bipush 110, 2) := by decide +kernel
theorem dX8_init_143 : decode cX8_init 143 = .ok (.iconst 0, 1) := by decide +kernel
theorem dX8_init_144 : decode cX8_init 144 = .ok (.invokevirtual 57, 3) := by decide +kernel
theorem dX8_init_147 : decode cX8_init 147 = .ok (.aload_n 0, 1) := by decide +kernel
theorem dX8_init_148 : decode cX8_init 148 = .ok (.iconst 5, 1) := by decide +kernel
theorem dX8_init_149 : decode cX8_init 149 = .ok (.bipush 99, 2) := by decide +kernel
theorem dX8_init_151 : decode cX8_init 151 = .ok (.bipush 108, 2) := by decide +kernel
theorem dX8_init_153 : decode cX8_init 153 = .ok (.bipush 111, 2) := by decide +kernel
theorem dX8_init_155 : decode cX8_init 155 = .ok (.bipush 115, 2) := by decide +kernel
theorem dX8_init_157 : decode cX8_init 157 = .ok (.bipush 101, 2) := by decide +kernel
theorem dX8_init_159 : decode cX8_init 159 = .ok (.invokevirtual 57, 3) := by decide +kernel
theorem dX8_init_162 : decode cX8_init 162 = .ok (.aload_n 0, 1) := by decide +kernel
theorem dX8_init_163 : decode cX8_init 163 = .ok (.bipush 10, 2) := by decide +kernel
theorem dX8_init_165 : decode cX8_init 165 = .ok (.bipush 108, 2) := by decide +kernel
theorem dX8_init_167 : decode cX8_init 167 = .ok (.bipush 111, 2) := by decide +kernel
theorem dX8_init_169 : decode cX8_init 169 = .ok (.bipush 110, 2) := by decide +kernel
theorem dX8_init_171 : decode cX8_init 171 = .ok (.bipush 103, 2) := by decide +kernel
theorem dX8_init_173 : decode cX8_init 173 = .ok (.iconst 0, 1) := by decide +kernel
theorem dX8_init_174 : decode cX8_init 174 = .ok (.invokevirtual 57, 3) := by decide +kernel
theorem dX8_init_177 : decode cX8_init 177 = .ok (.aload_n 0, 1) := by decide +kernel
theorem dX8_init_178 : decode cX8_init 178 = .ok (.bipush 15, 2) := by decide +kernel
theorem dX8_init_180 : decode cX8_init 180 = .ok (.bipush 101, 2) := by decide +kernel
theorem dX8_init_182 : decode cX8_init 182 = .ok (.bipush 110, 2) := by decide +kernel
theorem dX8_init_184 : decode cX8_init 184 = .ok (.bipush 100, 2) := by decide +kernel
theorem dX8_init_186 : decode cX8_init 186 = .ok (.bipush 115, 2) := by decide +kernel
theorem dX8_init_188 : decode cX8_init 188 = .ok (.iconst 0, 1) := by decide +kernel
theorem dX8_init_189 : decode cX8_init 189 = .ok (.invokevirtual 57, 3) := by decide +kernel
theorem dX8_init_192 : decode cX8_init 192 = .ok (.aload_n 0, 1) := by decide +kernel
theorem dX8_init_193 : decode cX8_init 193 = .ok (.bipush 20, 2) := by decide +kernel
theorem dX8_init_195 : decode cX8_init 195 = .ok (.bipush 116, 2) := by decide +kernel
theorem dX8_init_197 : decode cX8_init 197 = .ok (.bipush 117, 2) := by decide +kernel
theorem dX8_init_199 : decode cX8_init 199 = .ok (.bipush 114, 2) := by decide +kernel
theorem dX8_init_201 : decode cX8_init 201 = .ok (.bipush 110, 2) := by decide +kernel
theorem dX8_init_203 : decode cX8_init 203 = .ok (.iconst 0, 1) := by decide +kernel
theorem dX8_init_204 : decode cX8_init 204 = .ok (.invokevirtual 57, 3) := by decide +kernel
theorem dX8_init_207 : decode cX8_init 207 = .ok (.return_, 1) := by decide +kernel
theorem dX8_tell_0 : decode cX8_tell 0 = .ok (.aload_n 0, 1) := by decide +kernel
theorem dX8_tell_1 : decode cX8_tell 1 = .ok (.getfield 32, 3) := by decide +kernel
theorem dX8_tell_4 : decode cX8_tell 4 = .ok (.iload_n 1, 1) := by decide +kernel
theorem dX8_tell_5 : decode cX8_tell 5 = .ok (.iload_n 2, 1) := by decide +kernel
theorem dX8_tell_6 : decode cX8_tell 6 = .ok (.iastore, 1) := by decide +kernel
theorem dX8_tell_7 : decode cX8_tell 7 = .ok (.aload_n 0, 1) := by decide +kernel
theorem dX8_tell_8 : decode cX8_tell 8 = .ok (.getfield 32, 3) := by decide +kernel
theorem dX8_tell_11 : decode cX8_tell 11 = .ok (.iload_n 1, 1) := by decide +kernel
theorem dX8_tell_12 : decode cX8_tell 12 = .ok (.iconst 1, 1) := by decide +kernel
theorem dX8_tell_13 : decode cX8_tell 13 = .ok (.iadd, 1) := by decide +kernel
theorem dX8_tell_14 : decode cX8_tell 14 = .ok (.iload_n 3, 1) := by decide +kernel
theorem dX8_tell_15 : decode cX8_tell 15 = .ok (.iastore, 1) := by decide +kernel
theorem dX8_tell_16 : decode cX8_tell 16 = .ok (.aload_n 0, 1) := by decide +kernel
theorem dX8_tell_17 : decode cX8_tell 17 = .ok (.getfield 32, 3) := by decide +kernel
theorem dX8_tell_20 : decode cX8_tell 20 = .ok (.iload_n 1, 1) := by decide +kernel
theorem dX8_tell_21 : decode cX8_tell 21 = .ok (.iconst 2, 1) := by decide +kernel
theorem dX8_tell_22 : decode cX8_tell 22 = .ok (.iadd, 1) := by decide +kernel
theorem dX8_tell_23 : decode cX8_tell 23 = .ok (.iload 4, 2) := by decide +kernel
theorem dX8_tell_25 : decode cX8_tell 25 = .ok (.iastore, 1) := by decide +kernel
theorem dX8_tell_26 : decode cX8_tell 26 = .ok (.aload_n 0, 1) := by decide +kernel
theorem dX8_tell_27 : decode cX8_tell 27 = .ok (.getfield 32, 3) := by decide +kernel
theorem dX8_tell_30 : decode cX8_tell 30 = .ok (.iload_n 1, 1) := by decide +kernel
theorem dX8_tell_31 : decode cX8_tell 31 = .ok (.iconst 3, 1) := by decide +kernel
theorem dX8_tell_32 : decode cX8_tell 32 = .ok (.iadd, 1) := by decide +kernel
theorem dX8_tell_33 : decode cX8_tell 33 = .ok (.iload 5, 2) := by decide +kernel
theorem dX8_tell_35 : decode cX8_tell 35 = .ok (.iastore, 1) := by decide +kernel
theorem dX8_tell_36 : decode cX8_tell 36 = .ok (.aload_n 0, 1) := by decide +kernel
theorem dX8_tell_37 : decode cX8_tell 37 = .ok (.getfield 32, 3) := by decide +kernel
theorem dX8_tell_40 : decode cX8_tell 40 = .ok (.iload_n 1, 1) := by decide +kernel
theorem dX8_tell_41 : decode cX8_tell 41 = .ok (.iconst 4, 1) := by decide +kernel
theorem dX8_tell_42 : decode cX8_tell 42 = .ok (.iadd, 1) := by decide +kernel
theorem dX8_tell_43 : decode cX8_tell 43 = .ok (.iload 6, 2) := by decide +kernel
theorem dX8_tell_45 : decode cX8_tell 45 = .ok (.iastore, 1) := by decide +kernel
theorem dX8_tell_46 : decode cX8_tell 46 = .ok (.return_, 1) := by decide +kernel
theorem dX8_thrown_0 : decode cX8_thrown 0 = .ok (.aload_n 0, 1) := by decide +kernel
theorem dX8_thrown_1 : decode cX8_thrown 1 = .ok (.getfield 61, 3) := by decide +kernel
theorem dX8_thrown_4 : decode cX8_thrown 4 = .ok (.ireturn, 1) := by decide +kernel
theorem dX8_refused_0 : decode cX8_refused 0 = .ok (.aload_n 0, 1) := by decide +kernel
theorem dX8_refused_1 : decode cX8_refused 1 = .ok (.iload_n 1, 1) := by decide +kernel
theorem dX8_refused_2 : decode cX8_refused 2 = .ok (.putfield 61, 3) := by decide +kernel
theorem dX8_refused_5 : decode cX8_refused 5 = .ok (.iload_n 1, 1) := by decide +kernel
theorem dX8_refused_6 : decode cX8_refused 6 = .ok (.ifCond .le 7, 3) := by decide +kernel
theorem dX8_refused_9 : decode cX8_refused 9 = .ok (.iconst 1, 1) := by decide +kernel
theorem dX8_refused_10 : decode cX8_refused 10 = .ok (.goto 4, 3) := by decide +kernel
theorem dX8_refused_13 : decode cX8_refused 13 = .ok (.iconst 0, 1) := by decide +kernel
theorem dX8_refused_14 : decode cX8_refused 14 = .ok (.ireturn, 1) := by decide +kernel
theorem dX8_in_0 : decode cX8_in 0 = .ok (.lload_n 0, 1) := by decide +kernel
theorem dX8_in_1 : decode cX8_in 1 = .ok (.lload_n 2, 1) := by decide +kernel
theorem dX8_in_2 : decode cX8_in 2 = .ok (.lcmp, 1) := by decide +kernel
theorem dX8_in_3 : decode cX8_in 3 = .ok (.ifCond .lt 14, 3) := by decide +kernel
theorem dX8_in_6 : decode cX8_in 6 = .ok (.lload_n 0, 1) := by decide +kernel
theorem dX8_in_7 : decode cX8_in 7 = .ok (.lload 4, 2) := by decide +kernel
theorem dX8_in_9 : decode cX8_in 9 = .ok (.lcmp, 1) := by decide +kernel
theorem dX8_in_10 : decode cX8_in 10 = .ok (.ifCond .gt 7, 3) := by decide +kernel
theorem dX8_in_13 : decode cX8_in 13 = .ok (.iconst 1, 1) := by decide +kernel
theorem dX8_in_14 : decode cX8_in 14 = .ok (.goto 4, 3) := by decide +kernel
theorem dX8_in_17 : decode cX8_in 17 = .ok (.iconst 0, 1) := by decide +kernel
theorem dX8_in_18 : decode cX8_in 18 = .ok (.ireturn, 1) := by decide +kernel
theorem dX8_clear_0 : decode cX8_clear 0 = .ok (.iconst 0, 1) := by decide +kernel
theorem dX8_clear_1 : decode cX8_clear 1 = .ok (.istore_n 2, 1) := by decide +kernel
theorem dX8_clear_2 : decode cX8_clear 2 = .ok (.iload_n 2, 1) := by decide +kernel
theorem dX8_clear_3 : decode cX8_clear 3 = .ok (.bipush 84, 2) := by decide +kernel
theorem dX8_clear_5 : decode cX8_clear 5 = .ok (.if_icmp .ge 13, 3) := by decide +kernel
theorem dX8_clear_8 : decode cX8_clear 8 = .ok (.aload_n 0, 1) := by decide +kernel
theorem dX8_clear_9 : decode cX8_clear 9 = .ok (.iload_n 2, 1) := by decide +kernel
theorem dX8_clear_10 : decode cX8_clear 10 = .ok (.iconst 0, 1) := by decide +kernel
theorem dX8_clear_11 : decode cX8_clear 11 = .ok (.iastore, 1) := by decide +kernel
theorem dX8_clear_12 : decode cX8_clear 12 = .ok (.iinc 2 1, 3) := by decide +kernel
theorem dX8_clear_15 : decode cX8_clear 15 = .ok (.goto (-13), 3) := by decide +kernel
theorem dX8_clear_18 : decode cX8_clear 18 = .ok (.aload_n 0, 1) := by decide +kernel
theorem dX8_clear_19 : decode cX8_clear 19 = .ok (.iconst 0, 1) := by decide +kernel
theorem dX8_clear_20 : decode cX8_clear 20 = .ok (.iload_n 1, 1) := by decide +kernel
theorem dX8_clear_21 : decode cX8_clear 21 = .ok (.iastore, 1) := by decide +kernel
theorem dX8_clear_22 : decode cX8_clear 22 = .ok (.return_, 1) := by decide +kernel
theorem dX8_copyTown_0 : decode cX8_copyTown 0 = .ok (.iconst 0, 1) := by decide +kernel
theorem dX8_copyTown_1 : decode cX8_copyTown 1 = .ok (.istore 4, 2) := by decide +kernel
theorem dX8_copyTown_3 : decode cX8_copyTown 3 = .ok (.iload 4, 2) := by decide +kernel
theorem dX8_copyTown_5 : decode cX8_copyTown 5 = .ok (.bipush 84, 2) := by decide +kernel
theorem dX8_copyTown_7 : decode cX8_copyTown 7 = .ok (.if_icmp .ge 21, 3) := by decide +kernel
theorem dX8_copyTown_10 : decode cX8_copyTown 10 = .ok (.aload_n 2, 1) := by decide +kernel
theorem dX8_copyTown_11 : decode cX8_copyTown 11 = .ok (.iload_n 3, 1) := by decide +kernel
theorem dX8_copyTown_12 : decode cX8_copyTown 12 = .ok (.iload 4, 2) := by decide +kernel
theorem dX8_copyTown_14 : decode cX8_copyTown 14 = .ok (.iadd, 1) := by decide +kernel
theorem dX8_copyTown_15 : decode cX8_copyTown 15 = .ok (.aload_n 0, 1) := by decide +kernel
theorem dX8_copyTown_16 : decode cX8_copyTown 16 = .ok (.iload_n 1, 1) := by decide +kernel
theorem dX8_copyTown_17 : decode cX8_copyTown 17 = .ok (.iload 4, 2) := by decide +kernel
theorem dX8_copyTown_19 : decode cX8_copyTown 19 = .ok (.iadd, 1) := by decide +kernel
theorem dX8_copyTown_20 : decode cX8_copyTown 20 = .ok (.iaload, 1) := by decide +kernel
theorem dX8_copyTown_21 : decode cX8_copyTown 21 = .ok (.iastore, 1) := by decide +kernel
theorem dX8_copyTown_22 : decode cX8_copyTown 22 = .ok (.iinc 4 1, 3) := by decide +kernel
theorem dX8_copyTown_25 : decode cX8_copyTown 25 = .ok (.goto (-22), 3) := by decide +kernel
theorem dX8_copyTown_28 : decode cX8_copyTown 28 = .ok (.return_, 1) := by decide +kernel
theorem dX8_isCrossing_0 : decode cX8_isCrossing 0 = .ok (.iload_n 1, 1) := by decide +kernel
theorem dX8_isCrossing_1 : decode cX8_isCrossing 1 = .ok (.i2l, 1) := by decide +kernel
theorem dX8_isCrossing_2 : decode cX8_isCrossing 2 = .ok (.lconst 0, 1) := by decide +kernel
theorem dX8_isCrossing_3 : decode cX8_isCrossing 3 = .ok (.aload_n 0, 1) := by decide +kernel
theorem dX8_isCrossing_4 : decode cX8_isCrossing 4 = .ok (.iconst 0, 1) := by decide +kernel
theorem dX8_isCrossing_5 : decode cX8_isCrossing 5 = .ok (.iaload, 1) := by decide +kernel
theorem dX8_isCrossing_6 : decode cX8_isCrossing 6 = .ok (.iconst 1, 1) := by decide +kernel
theorem dX8_isCrossing_7 : decode cX8_isCrossing 7 = .ok (.isub, 1) := by decide +kernel
theorem dX8_isCrossing_8 : decode cX8_isCrossing 8 = .ok (.i2l, 1) := by decide +kernel
theorem dX8_isCrossing_9 : decode cX8_isCrossing 9 = .ok (.invokestatic 65, 3) := by decide +kernel
theorem dX8_isCrossing_12 : decode cX8_isCrossing 12 = .ok (.ireturn, 1) := by decide +kernel
theorem dX8_isStreet_0 : decode cX8_isStreet 0 = .ok (.iload_n 1, 1) := by decide +kernel
theorem dX8_isStreet_1 : decode cX8_isStreet 1 = .ok (.i2l, 1) := by decide +kernel
theorem dX8_isStreet_2 : decode cX8_isStreet 2 = .ok (.lconst 0, 1) := by decide +kernel
theorem dX8_isStreet_3 : decode cX8_isStreet 3 = .ok (.aload_n 0, 1) := by decide +kernel
theorem dX8_isStreet_4 : decode cX8_isStreet 4 = .ok (.iconst 1, 1) := by decide +kernel
theorem dX8_isStreet_5 : decode cX8_isStreet 5 = .ok (.iaload, 1) := by decide +kernel
theorem dX8_isStreet_6 : decode cX8_isStreet 6 = .ok (.iconst 1, 1) := by decide +kernel
theorem dX8_isStreet_7 : decode cX8_isStreet 7 = .ok (.isub, 1) := by decide +kernel
theorem dX8_isStreet_8 : decode cX8_isStreet 8 = .ok (.i2l, 1) := by decide +kernel
theorem dX8_isStreet_9 : decode cX8_isStreet 9 = .ok (.invokestatic 65, 3) := by decide +kernel
theorem dX8_isStreet_12 : decode cX8_isStreet 12 = .ok (.ireturn, 1) := by decide +kernel
theorem dX8_joined_0 : decode cX8_joined 0 = .ok (.iconst 0, 1) := by decide +kernel
theorem dX8_joined_1 : decode cX8_joined 1 = .ok (.istore_n 3, 1) := by decide +kernel
theorem dX8_joined_2 : decode cX8_joined 2 = .ok (.iload_n 3, 1) := by decide +kernel
theorem dX8_joined_3 : decode cX8_joined 3 = .ok (.aload_n 0, 1) := by decide +kernel
theorem dX8_joined_4 : decode cX8_joined 4 = .ok (.iconst 1, 1) := by decide +kernel
theorem dX8_joined_5 : decode cX8_joined 5 = .ok (.iaload, 1) := by decide +kernel
theorem dX8_joined_6 : decode cX8_joined 6 = .ok (.if_icmp .ge 49, 3) := by decide +kernel
theorem dX8_joined_9 : decode cX8_joined 9 = .ok (.aload_n 0, 1) := by decide +kernel
theorem dX8_joined_10 : decode cX8_joined 10 = .ok (.iconst 4, 1) := by decide +kernel
theorem dX8_joined_11 : decode cX8_joined 11 = .ok (.iload_n 3, 1) := by decide +kernel
theorem dX8_joined_12 : decode cX8_joined 12 = .ok (.iadd, 1) := by decide +kernel
theorem dX8_joined_13 : decode cX8_joined 13 = .ok (.iaload, 1) := by decide +kernel
theorem dX8_joined_14 : decode cX8_joined 14 = .ok (.iload_n 1, 1) := by decide +kernel
theorem dX8_joined_15 : decode cX8_joined 15 = .ok (.if_icmp .ne 13, 3) := by decide +kernel
theorem dX8_joined_18 : decode cX8_joined 18 = .ok (.aload_n 0, 1) := by decide +kernel
theorem dX8_joined_19 : decode cX8_joined 19 = .ok (.bipush 24, 2) := by decide +kernel
theorem dX8_joined_21 : decode cX8_joined 21 = .ok (.iload_n 3, 1) := by decide +kernel
theorem dX8_joined_22 : decode cX8_joined 22 = .ok (.iadd, 1) := by decide +kernel
theorem dX8_joined_23 : decode cX8_joined 23 = .ok (.iaload, 1) := by decide +kernel
theorem dX8_joined_24 : decode cX8_joined 24 = .ok (.iload_n 2, 1) := by decide +kernel
theorem dX8_joined_25 : decode cX8_joined 25 = .ok (.if_icmp .eq 22, 3) := by decide +kernel
theorem dX8_joined_28 : decode cX8_joined 28 = .ok (.aload_n 0, 1) := by decide +kernel
theorem dX8_joined_29 : decode cX8_joined 29 = .ok (.iconst 4, 1) := by decide +kernel
theorem dX8_joined_30 : decode cX8_joined 30 = .ok (.iload_n 3, 1) := by decide +kernel
theorem dX8_joined_31 : decode cX8_joined 31 = .ok (.iadd, 1) := by decide +kernel
theorem dX8_joined_32 : decode cX8_joined 32 = .ok (.iaload, 1) := by decide +kernel
theorem dX8_joined_33 : decode cX8_joined 33 = .ok (.iload_n 2, 1) := by decide +kernel
theorem dX8_joined_34 : decode cX8_joined 34 = .ok (.if_icmp .ne 15, 3) := by decide +kernel
theorem dX8_joined_37 : decode cX8_joined 37 = .ok (.aload_n 0, 1) := by decide +kernel
theorem dX8_joined_38 : decode cX8_joined 38 = .ok (.bipush 24, 2) := by decide +kernel
theorem dX8_joined_40 : decode cX8_joined 40 = .ok (.iload_n 3, 1) := by decide +kernel
theorem dX8_joined_41 : decode cX8_joined 41 = .ok (.iadd, 1) := by decide +kernel
theorem dX8_joined_42 : decode cX8_joined 42 = .ok (.iaload, 1) := by decide +kernel
theorem dX8_joined_43 : decode cX8_joined 43 = .ok (.iload_n 1, 1) := by decide +kernel
theorem dX8_joined_44 : decode cX8_joined 44 = .ok (.if_icmp .ne 5, 3) := by decide +kernel
theorem dX8_joined_47 : decode cX8_joined 47 = .ok (.iload_n 3, 1) := by decide +kernel
theorem dX8_joined_48 : decode cX8_joined 48 = .ok (.ireturn, 1) := by decide +kernel
theorem dX8_joined_49 : decode cX8_joined 49 = .ok (.iinc 3 1, 3) := by decide +kernel
theorem dX8_joined_52 : decode cX8_joined 52 = .ok (.goto (-50), 3) := by decide +kernel
theorem dX8_joined_55 : decode cX8_joined 55 = .ok (.sipush (-999), 3) := by decide +kernel
theorem dX8_joined_58 : decode cX8_joined 58 = .ok (.ireturn, 1) := by decide +kernel
theorem dX8_streetsAt_0 : decode cX8_streetsAt 0 = .ok (.iconst 0, 1) := by decide +kernel
theorem dX8_streetsAt_1 : decode cX8_streetsAt 1 = .ok (.istore_n 3, 1) := by decide +kernel
theorem dX8_streetsAt_2 : decode cX8_streetsAt 2 = .ok (.iconst 0, 1) := by decide +kernel
theorem dX8_streetsAt_3 : decode cX8_streetsAt 3 = .ok (.istore 4, 2) := by decide +kernel
theorem dX8_streetsAt_5 : decode cX8_streetsAt 5 = .ok (.iload 4, 2) := by decide +kernel
theorem dX8_streetsAt_7 : decode cX8_streetsAt 7 = .ok (.aload_n 0, 1) := by decide +kernel
theorem dX8_streetsAt_8 : decode cX8_streetsAt 8 = .ok (.iconst 1, 1) := by decide +kernel
theorem dX8_streetsAt_9 : decode cX8_streetsAt 9 = .ok (.iaload, 1) := by decide +kernel
theorem dX8_streetsAt_10 : decode cX8_streetsAt 10 = .ok (.if_icmp .ge 64, 3) := by decide +kernel
theorem dX8_streetsAt_13 : decode cX8_streetsAt 13 = .ok (.aload_n 0, 1) := by decide +kernel
theorem dX8_streetsAt_14 : decode cX8_streetsAt 14 = .ok (.iconst 4, 1) := by decide +kernel
theorem dX8_streetsAt_15 : decode cX8_streetsAt 15 = .ok (.iload 4, 2) := by decide +kernel
theorem dX8_streetsAt_17 : decode cX8_streetsAt 17 = .ok (.iadd, 1) := by decide +kernel
theorem dX8_streetsAt_18 : decode cX8_streetsAt 18 = .ok (.iaload, 1) := by decide +kernel
theorem dX8_streetsAt_19 : decode cX8_streetsAt 19 = .ok (.iload_n 1, 1) := by decide +kernel
theorem dX8_streetsAt_20 : decode cX8_streetsAt 20 = .ok (.if_icmp .eq 14, 3) := by decide +kernel
theorem dX8_streetsAt_23 : decode cX8_streetsAt 23 = .ok (.aload_n 0, 1) := by decide +kernel
theorem dX8_streetsAt_24 : decode cX8_streetsAt 24 = .ok (.bipush 24, 2) := by decide +kernel
theorem dX8_streetsAt_26 : decode cX8_streetsAt 26 = .ok (.iload 4, 2) := by decide +kernel
theorem dX8_streetsAt_28 : decode cX8_streetsAt 28 = .ok (.iadd, 1) := by decide +kernel
theorem dX8_streetsAt_29 : decode cX8_streetsAt 29 = .ok (.iaload, 1) := by decide +kernel
theorem dX8_streetsAt_30 : decode cX8_streetsAt 30 = .ok (.iload_n 1, 1) := by decide +kernel
theorem dX8_streetsAt_31 : decode cX8_streetsAt 31 = .ok (.if_icmp .ne 7, 3) := by decide +kernel
theorem dX8_streetsAt_34 : decode cX8_streetsAt 34 = .ok (.iconst 1, 1) := by decide +kernel
theorem dX8_streetsAt_35 : decode cX8_streetsAt 35 = .ok (.goto 4, 3) := by decide +kernel
theorem dX8_streetsAt_38 : decode cX8_streetsAt 38 = .ok (.iconst 0, 1) := by decide +kernel
theorem dX8_streetsAt_39 : decode cX8_streetsAt 39 = .ok (.istore 5, 2) := by decide +kernel
theorem dX8_streetsAt_41 : decode cX8_streetsAt 41 = .ok (.iload_n 3, 1) := by decide +kernel
theorem dX8_streetsAt_42 : decode cX8_streetsAt 42 = .ok (.iload 5, 2) := by decide +kernel
theorem dX8_streetsAt_44 : decode cX8_streetsAt 44 = .ok (.ifCond .eq 21, 3) := by decide +kernel
theorem dX8_streetsAt_47 : decode cX8_streetsAt 47 = .ok (.iload_n 2, 1) := by decide +kernel
theorem dX8_streetsAt_48 : decode cX8_streetsAt 48 = .ok (.ifCond .eq 13, 3) := by decide +kernel
theorem dX8_streetsAt_51 : decode cX8_streetsAt 51 = .ok (.aload_n 0, 1) := by decide +kernel
theorem dX8_streetsAt_52 : decode cX8_streetsAt 52 = .ok (.bipush 64, 2) := by decide +kernel
theorem dX8_streetsAt_54 : decode cX8_streetsAt 54 = .ok (.iload 4, 2) := by decide +kernel
theorem dX8_streetsAt_56 : decode cX8_streetsAt 56 = .ok (.iadd, 1) := by decide +kernel
theorem dX8_streetsAt_57 : decode cX8_streetsAt 57 = .ok (.iaload, 1) := by decide +kernel
theorem dX8_streetsAt_58 : decode cX8_streetsAt 58 = .ok (.ifCond .ne 7, 3) := by decide +kernel
theorem dX8_streetsAt_61 : decode cX8_streetsAt 61 = .ok (.iconst 1, 1) := by decide +kernel
theorem dX8_streetsAt_62 : decode cX8_streetsAt 62 = .ok (.goto 4, 3) := by decide +kernel
theorem dX8_streetsAt_65 : decode cX8_streetsAt 65 = .ok (.iconst 0, 1) := by decide +kernel
theorem dX8_streetsAt_66 : decode cX8_streetsAt 66 = .ok (.iadd, 1) := by decide +kernel
theorem dX8_streetsAt_67 : decode cX8_streetsAt 67 = .ok (.istore_n 3, 1) := by decide +kernel
theorem dX8_streetsAt_68 : decode cX8_streetsAt 68 = .ok (.iinc 4 1, 3) := by decide +kernel
theorem dX8_streetsAt_71 : decode cX8_streetsAt 71 = .ok (.goto (-66), 3) := by decide +kernel
theorem dX8_streetsAt_74 : decode cX8_streetsAt 74 = .ok (.iload_n 3, 1) := by decide +kernel
theorem dX8_streetsAt_75 : decode cX8_streetsAt 75 = .ok (.ireturn, 1) := by decide +kernel
theorem dX8_build_0 : decode cX8_build 0 = .ok (.aload_n 0, 1) := by decide +kernel
theorem dX8_build_1 : decode cX8_build 1 = .ok (.iconst 1, 1) := by decide +kernel
theorem dX8_build_2 : decode cX8_build 2 = .ok (.iaload, 1) := by decide +kernel
theorem dX8_build_3 : decode cX8_build 3 = .ok (.istore 4, 2) := by decide +kernel
theorem dX8_build_5 : decode cX8_build 5 = .ok (.aload_n 0, 1) := by decide +kernel
theorem dX8_build_6 : decode cX8_build 6 = .ok (.iconst 4, 1) := by decide +kernel
theorem dX8_build_7 : decode cX8_build 7 = .ok (.iload 4, 2) := by decide +kernel
theorem dX8_build_9 : decode cX8_build 9 = .ok (.iadd, 1) := by decide +kernel
theorem dX8_build_10 : decode cX8_build 10 = .ok (.iload_n 1, 1) := by decide +kernel
theorem dX8_build_11 : decode cX8_build 11 = .ok (.iastore, 1) := by decide +kernel
theorem dX8_build_12 : decode cX8_build 12 = .ok (.aload_n 0, 1) := by decide +kernel
theorem dX8_build_13 : decode cX8_build 13 = .ok (.bipush 24, 2) := by decide +kernel
theorem dX8_build_15 : decode cX8_build 15 = .ok (.iload 4, 2) := by decide +kernel
theorem dX8_build_17 : decode cX8_build 17 = .ok (.iadd, 1) := by decide +kernel
theorem dX8_build_18 : decode cX8_build 18 = .ok (.iload_n 2, 1) := by decide +kernel
theorem dX8_build_19 : decode cX8_build 19 = .ok (.iastore, 1) := by decide +kernel
theorem dX8_build_20 : decode cX8_build 20 = .ok (.aload_n 0, 1) := by decide +kernel
theorem dX8_build_21 : decode cX8_build 21 = .ok (.bipush 44, 2) := by decide +kernel
theorem dX8_build_23 : decode cX8_build 23 = .ok (.iload 4, 2) := by decide +kernel
theorem dX8_build_25 : decode cX8_build 25 = .ok (.iadd, 1) := by decide +kernel
theorem dX8_build_26 : decode cX8_build 26 = .ok (.iload_n 3, 1) := by decide +kernel
theorem dX8_build_27 : decode cX8_build 27 = .ok (.iastore, 1) := by decide +kernel
theorem dX8_build_28 : decode cX8_build 28 = .ok (.aload_n 0, 1) := by decide +kernel
theorem dX8_build_29 : decode cX8_build 29 = .ok (.bipush 64, 2) := by decide +kernel
theorem dX8_build_31 : decode cX8_build 31 = .ok (.iload 4, 2) := by decide +kernel
theorem dX8_build_33 : decode cX8_build 33 = .ok (.iadd, 1) := by decide +kernel
theorem dX8_build_34 : decode cX8_build 34 = .ok (.iconst 0, 1) := by decide +kernel
theorem dX8_build_35 : decode cX8_build 35 = .ok (.iastore, 1) := by decide +kernel
theorem dX8_build_36 : decode cX8_build 36 = .ok (.aload_n 0, 1) := by decide +kernel
theorem dX8_build_37 : decode cX8_build 37 = .ok (.iconst 1, 1) := by decide +kernel
theorem dX8_build_38 : decode cX8_build 38 = .ok (.dup2, 1) := by decide +kernel
theorem dX8_build_39 : decode cX8_build 39 = .ok (.iaload, 1) := by decide +kernel
theorem dX8_build_40 : decode cX8_build 40 = .ok (.iconst 1, 1) := by decide +kernel
theorem dX8_build_41 : decode cX8_build 41 = .ok (.iadd, 1) := by decide +kernel
theorem dX8_build_42 : decode cX8_build 42 = .ok (.iastore, 1) := by decide +kernel
theorem dX8_build_43 : decode cX8_build 43 = .ok (.iload 4, 2) := by decide +kernel
theorem dX8_build_45 : decode cX8_build 45 = .ok (.ireturn, 1) := by decide +kernel
theorem dX8_tearDown_0 : decode cX8_tearDown 0 = .ok (.aload_n 0, 1) := by decide +kernel
theorem dX8_tearDown_1 : decode cX8_tearDown 1 = .ok (.iconst 1, 1) := by decide +kernel
theorem dX8_tearDown_2 : decode cX8_tearDown 2 = .ok (.dup2, 1) := by decide +kernel
theorem dX8_tearDown_3 : decode cX8_tearDown 3 = .ok (.iaload, 1) := by decide +kernel
theorem dX8_tearDown_4 : decode cX8_tearDown 4 = .ok (.iconst 1, 1) := by decide +kernel
theorem dX8_tearDown_5 : decode cX8_tearDown 5 = .ok (.isub, 1) := by decide +kernel
theorem dX8_tearDown_6 : decode cX8_tearDown 6 = .ok (.iastore, 1) := by decide +kernel
theorem dX8_tearDown_7 : decode cX8_tearDown 7 = .ok (.iload_n 1, 1) := by decide +kernel
theorem dX8_tearDown_8 : decode cX8_tearDown 8 = .ok (.istore_n 2, 1) := by decide +kernel
theorem dX8_tearDown_9 : decode cX8_tearDown 9 = .ok (.iload_n 2, 1) := by decide +kernel
theorem dX8_tearDown_10 : decode cX8_tearDown 10 = .ok (.aload_n 0, 1) := by decide +kernel
theorem dX8_tearDown_11 : decode cX8_tearDown 11 = .ok (.iconst 1, 1) := by decide +kernel
theorem dX8_tearDown_12 : decode cX8_tearDown 12 = .ok (.iaload, 1) := by decide +kernel
theorem dX8_tearDown_13 : decode cX8_tearDown 13 = .ok (.if_icmp .ge 63, 3) := by decide +kernel
theorem dX8_tearDown_16 : decode cX8_tearDown 16 = .ok (.aload_n 0, 1) := by decide +kernel
theorem dX8_tearDown_17 : decode cX8_tearDown 17 = .ok (.iconst 4, 1) := by decide +kernel
theorem dX8_tearDown_18 : decode cX8_tearDown 18 = .ok (.iload_n 2, 1) := by decide +kernel
theorem dX8_tearDown_19 : decode cX8_tearDown 19 = .ok (.iadd, 1) := by decide +kernel
theorem dX8_tearDown_20 : decode cX8_tearDown 20 = .ok (.aload_n 0, 1) := by decide +kernel
theorem dX8_tearDown_21 : decode cX8_tearDown 21 = .ok (.iconst 4, 1) := by decide +kernel
theorem dX8_tearDown_22 : decode cX8_tearDown 22 = .ok (.iload_n 2, 1) := by decide +kernel
theorem dX8_tearDown_23 : decode cX8_tearDown 23 = .ok (.iadd, 1) := by decide +kernel
theorem dX8_tearDown_24 : decode cX8_tearDown 24 = .ok (.iconst 1, 1) := by decide +kernel
theorem dX8_tearDown_25 : decode cX8_tearDown 25 = .ok (.iadd, 1) := by decide +kernel
theorem dX8_tearDown_26 : decode cX8_tearDown 26 = .ok (.iaload, 1) := by decide +kernel
theorem dX8_tearDown_27 : decode cX8_tearDown 27 = .ok (.iastore, 1) := by decide +kernel
theorem dX8_tearDown_28 : decode cX8_tearDown 28 = .ok (.aload_n 0, 1) := by decide +kernel
theorem dX8_tearDown_29 : decode cX8_tearDown 29 = .ok (.bipush 24, 2) := by decide +kernel
theorem dX8_tearDown_31 : decode cX8_tearDown 31 = .ok (.iload_n 2, 1) := by decide +kernel
theorem dX8_tearDown_32 : decode cX8_tearDown 32 = .ok (.iadd, 1) := by decide +kernel
theorem dX8_tearDown_33 : decode cX8_tearDown 33 = .ok (.aload_n 0, 1) := by decide +kernel
theorem dX8_tearDown_34 : decode cX8_tearDown 34 = .ok (.bipush 24, 2) := by decide +kernel
theorem dX8_tearDown_36 : decode cX8_tearDown 36 = .ok (.iload_n 2, 1) := by decide +kernel
theorem dX8_tearDown_37 : decode cX8_tearDown 37 = .ok (.iadd, 1) := by decide +kernel
theorem dX8_tearDown_38 : decode cX8_tearDown 38 = .ok (.iconst 1, 1) := by decide +kernel
theorem dX8_tearDown_39 : decode cX8_tearDown 39 = .ok (.iadd, 1) := by decide +kernel
theorem dX8_tearDown_40 : decode cX8_tearDown 40 = .ok (.iaload, 1) := by decide +kernel
theorem dX8_tearDown_41 : decode cX8_tearDown 41 = .ok (.iastore, 1) := by decide +kernel
theorem dX8_tearDown_42 : decode cX8_tearDown 42 = .ok (.aload_n 0, 1) := by decide +kernel
theorem dX8_tearDown_43 : decode cX8_tearDown 43 = .ok (.bipush 44, 2) := by decide +kernel
theorem dX8_tearDown_45 : decode cX8_tearDown 45 = .ok (.iload_n 2, 1) := by decide +kernel
theorem dX8_tearDown_46 : decode cX8_tearDown 46 = .ok (.iadd, 1) := by decide +kernel
theorem dX8_tearDown_47 : decode cX8_tearDown 47 = .ok (.aload_n 0, 1) := by decide +kernel
theorem dX8_tearDown_48 : decode cX8_tearDown 48 = .ok (.bipush 44, 2) := by decide +kernel
theorem dX8_tearDown_50 : decode cX8_tearDown 50 = .ok (.iload_n 2, 1) := by decide +kernel
theorem dX8_tearDown_51 : decode cX8_tearDown 51 = .ok (.iadd, 1) := by decide +kernel
theorem dX8_tearDown_52 : decode cX8_tearDown 52 = .ok (.iconst 1, 1) := by decide +kernel
theorem dX8_tearDown_53 : decode cX8_tearDown 53 = .ok (.iadd, 1) := by decide +kernel
theorem dX8_tearDown_54 : decode cX8_tearDown 54 = .ok (.iaload, 1) := by decide +kernel
theorem dX8_tearDown_55 : decode cX8_tearDown 55 = .ok (.iastore, 1) := by decide +kernel
theorem dX8_tearDown_56 : decode cX8_tearDown 56 = .ok (.aload_n 0, 1) := by decide +kernel
theorem dX8_tearDown_57 : decode cX8_tearDown 57 = .ok (.bipush 64, 2) := by decide +kernel
theorem dX8_tearDown_59 : decode cX8_tearDown 59 = .ok (.iload_n 2, 1) := by decide +kernel
theorem dX8_tearDown_60 : decode cX8_tearDown 60 = .ok (.iadd, 1) := by decide +kernel
theorem dX8_tearDown_61 : decode cX8_tearDown 61 = .ok (.aload_n 0, 1) := by decide +kernel
theorem dX8_tearDown_62 : decode cX8_tearDown 62 = .ok (.bipush 64, 2) := by decide +kernel
theorem dX8_tearDown_64 : decode cX8_tearDown 64 = .ok (.iload_n 2, 1) := by decide +kernel
theorem dX8_tearDown_65 : decode cX8_tearDown 65 = .ok (.iadd, 1) := by decide +kernel
theorem dX8_tearDown_66 : decode cX8_tearDown 66 = .ok (.iconst 1, 1) := by decide +kernel
theorem dX8_tearDown_67 : decode cX8_tearDown 67 = .ok (.iadd, 1) := by decide +kernel
theorem dX8_tearDown_68 : decode cX8_tearDown 68 = .ok (.iaload, 1) := by decide +kernel
theorem dX8_tearDown_69 : decode cX8_tearDown 69 = .ok (.iastore, 1) := by decide +kernel
theorem dX8_tearDown_70 : decode cX8_tearDown 70 = .ok (.iinc 2 1, 3) := by decide +kernel
theorem dX8_tearDown_73 : decode cX8_tearDown 73 = .ok (.goto (-64), 3) := by decide +kernel
theorem dX8_tearDown_76 : decode cX8_tearDown 76 = .ok (.return_, 1) := by decide +kernel
theorem dX8_price_0 : decode cX8_price 0 = .ok (.aload_n 0, 1) := by decide +kernel
theorem dX8_price_1 : decode cX8_price 1 = .ok (.getfield 35, 3) := by decide +kernel
theorem dX8_price_4 : decode cX8_price 4 = .ok (.bipush 9, 2) := by decide +kernel
theorem dX8_price_6 : decode cX8_price 6 = .ok (.iload_n 1, 1) := by decide +kernel
theorem dX8_price_7 : decode cX8_price 7 = .ok (.imul, 1) := by decide +kernel
theorem dX8_price_8 : decode cX8_price 8 = .ok (.iload_n 2, 1) := by decide +kernel
theorem dX8_price_9 : decode cX8_price 9 = .ok (.iadd, 1) := by decide +kernel
theorem dX8_price_10 : decode cX8_price 10 = .ok (.iload_n 3, 1) := by decide +kernel
theorem dX8_price_11 : decode cX8_price 11 = .ok (.iastore, 1) := by decide +kernel
theorem dX8_price_12 : decode cX8_price 12 = .ok (.aload_n 0, 1) := by decide +kernel
theorem dX8_price_13 : decode cX8_price 13 = .ok (.getfield 35, 3) := by decide +kernel
theorem dX8_price_16 : decode cX8_price 16 = .ok (.bipush 9, 2) := by decide +kernel
theorem dX8_price_18 : decode cX8_price 18 = .ok (.iload_n 2, 1) := by decide +kernel
theorem dX8_price_19 : decode cX8_price 19 = .ok (.imul, 1) := by decide +kernel
theorem dX8_price_20 : decode cX8_price 20 = .ok (.iload_n 1, 1) := by decide +kernel
theorem dX8_price_21 : decode cX8_price 21 = .ok (.iadd, 1) := by decide +kernel
theorem dX8_price_22 : decode cX8_price 22 = .ok (.iload_n 3, 1) := by decide +kernel
theorem dX8_price_23 : decode cX8_price 23 = .ok (.iastore, 1) := by decide +kernel
theorem dX8_price_24 : decode cX8_price 24 = .ok (.return_, 1) := by decide +kernel
theorem dX8_layCosts_0 : decode cX8_layCosts 0 = .ok (.iconst 0, 1) := by decide +kernel
theorem dX8_layCosts_1 : decode cX8_layCosts 1 = .ok (.istore_n 3, 1) := by decide +kernel
theorem dX8_layCosts_2 : decode cX8_layCosts 2 = .ok (.iload_n 3, 1) := by decide +kernel
theorem dX8_layCosts_3 : decode cX8_layCosts 3 = .ok (.bipush 81, 2) := by decide +kernel
theorem dX8_layCosts_5 : decode cX8_layCosts 5 = .ok (.if_icmp .ge 16, 3) := by decide +kernel
theorem dX8_layCosts_8 : decode cX8_layCosts 8 = .ok (.aload_n 0, 1) := by decide +kernel
theorem dX8_layCosts_9 : decode cX8_layCosts 9 = .ok (.getfield 35, 3) := by decide +kernel
theorem dX8_layCosts_12 : decode cX8_layCosts 12 = .ok (.iload_n 3, 1) := by decide +kernel
theorem dX8_layCosts_13 : decode cX8_layCosts 13 = .ok (.iconst 0, 1) := by decide +kernel
theorem dX8_layCosts_14 : decode cX8_layCosts 14 = .ok (.iastore, 1) := by decide +kernel
theorem dX8_layCosts_15 : decode cX8_layCosts 15 = .ok (.iinc 3 1, 3) := by decide +kernel
theorem dX8_layCosts_18 : decode cX8_layCosts 18 = .ok (.goto (-16), 3) := by decide +kernel
theorem dX8_layCosts_21 : decode cX8_layCosts 21 = .ok (.iconst 0, 1) := by decide +kernel
theorem dX8_layCosts_22 : decode cX8_layCosts 22 = .ok (.istore_n 3, 1) := by decide +kernel
theorem dX8_layCosts_23 : decode cX8_layCosts 23 = .ok (.iload_n 3, 1) := by decide +kernel
theorem dX8_layCosts_24 : decode cX8_layCosts 24 = .ok (.aload_n 1, 1) := by decide +kernel
theorem dX8_layCosts_25 : decode cX8_layCosts 25 = .ok (.iconst 1, 1) := by decide +kernel
theorem dX8_layCosts_26 : decode cX8_layCosts 26 = .ok (.iaload, 1) := by decide +kernel
theorem dX8_layCosts_27 : decode cX8_layCosts 27 = .ok (.if_icmp .ge 49, 3) := by decide +kernel
theorem dX8_layCosts_30 : decode cX8_layCosts 30 = .ok (.aload_n 1, 1) := by decide +kernel
theorem dX8_layCosts_31 : decode cX8_layCosts 31 = .ok (.bipush 64, 2) := by decide +kernel
theorem dX8_layCosts_33 : decode cX8_layCosts 33 = .ok (.iload_n 3, 1) := by decide +kernel
theorem dX8_layCosts_34 : decode cX8_layCosts 34 = .ok (.iadd, 1) := by decide +kernel
theorem dX8_layCosts_35 : decode cX8_layCosts 35 = .ok (.iaload, 1) := by decide +kernel
theorem dX8_layCosts_36 : decode cX8_layCosts 36 = .ok (.ifCond .ne 34, 3) := by decide +kernel
theorem dX8_layCosts_39 : decode cX8_layCosts 39 = .ok (.iload_n 3, 1) := by decide +kernel
theorem dX8_layCosts_40 : decode cX8_layCosts 40 = .ok (.iload_n 2, 1) := by decide +kernel
theorem dX8_layCosts_41 : decode cX8_layCosts 41 = .ok (.if_icmp .eq 29, 3) := by decide +kernel
theorem dX8_layCosts_44 : decode cX8_layCosts 44 = .ok (.aload_n 0, 1) := by decide +kernel
theorem dX8_layCosts_45 : decode cX8_layCosts 45 = .ok (.aload_n 1, 1) := by decide +kernel
theorem dX8_layCosts_46 : decode cX8_layCosts 46 = .ok (.iconst 4, 1) := by decide +kernel
theorem dX8_layCosts_47 : decode cX8_layCosts 47 = .ok (.iload_n 3, 1) := by decide +kernel
theorem dX8_layCosts_48 : decode cX8_layCosts 48 = .ok (.iadd, 1) := by decide +kernel
theorem dX8_layCosts_49 : decode cX8_layCosts 49 = .ok (.iaload, 1) := by decide +kernel
theorem dX8_layCosts_50 : decode cX8_layCosts 50 = .ok (.aload_n 1, 1) := by decide +kernel
theorem dX8_layCosts_51 : decode cX8_layCosts 51 = .ok (.bipush 24, 2) := by decide +kernel
theorem dX8_layCosts_53 : decode cX8_layCosts 53 = .ok (.iload_n 3, 1) := by decide +kernel
theorem dX8_layCosts_54 : decode cX8_layCosts 54 = .ok (.iadd, 1) := by decide +kernel
theorem dX8_layCosts_55 : decode cX8_layCosts 55 = .ok (.iaload, 1) := by decide +kernel
theorem dX8_layCosts_56 : decode cX8_layCosts 56 = .ok (.bipush 100, 2) := by decide +kernel
theorem dX8_layCosts_58 : decode cX8_layCosts 58 = .ok (.aload_n 1, 1) := by decide +kernel
theorem dX8_layCosts_59 : decode cX8_layCosts 59 = .ok (.bipush 44, 2) := by decide +kernel
theorem dX8_layCosts_61 : decode cX8_layCosts 61 = .ok (.iload_n 3, 1) := by decide +kernel
theorem dX8_layCosts_62 : decode cX8_layCosts 62 = .ok (.iadd, 1) := by decide +kernel
theorem dX8_layCosts_63 : decode cX8_layCosts 63 = .ok (.iaload, 1) := by decide +kernel
theorem dX8_layCosts_64 : decode cX8_layCosts 64 = .ok (.imul, 1) := by decide +kernel
theorem dX8_layCosts_65 : decode cX8_layCosts 65 = .ok (.iconst 1, 1) := by decide +kernel
theorem dX8_layCosts_66 : decode cX8_layCosts 66 = .ok (.iadd, 1) := by decide +kernel
theorem dX8_layCosts_67 : decode cX8_layCosts 67 = .ok (.invokevirtual 69, 3) := by decide +kernel
theorem dX8_layCosts_70 : decode cX8_layCosts 70 = .ok (.iinc 3 1, 3) := by decide +kernel
theorem dX8_layCosts_73 : decode cX8_layCosts 73 = .ok (.goto (-50), 3) := by decide +kernel
theorem dX8_layCosts_76 : decode cX8_layCosts 76 = .ok (.return_, 1) := by decide +kernel
theorem dX8_layFar_0 : decode cX8_layFar 0 = .ok (.iconst 0, 1) := by decide +kernel
theorem dX8_layFar_1 : decode cX8_layFar 1 = .ok (.istore_n 3, 1) := by decide +kernel
theorem dX8_layFar_2 : decode cX8_layFar 2 = .ok (.iload_n 3, 1) := by decide +kernel
theorem dX8_layFar_3 : decode cX8_layFar 3 = .ok (.bipush 9, 2) := by decide +kernel
theorem dX8_layFar_5 : decode cX8_layFar 5 = .ok (.if_icmp .ge 17, 3) := by decide +kernel
theorem dX8_layFar_8 : decode cX8_layFar 8 = .ok (.aload_n 0, 1) := by decide +kernel
theorem dX8_layFar_9 : decode cX8_layFar 9 = .ok (.getfield 38, 3) := by decide +kernel
theorem dX8_layFar_12 : decode cX8_layFar 12 = .ok (.iload_n 3, 1) := by decide +kernel
theorem dX8_layFar_13 : decode cX8_layFar 13 = .ok (.ldc 73, 2) := by decide +kernel
theorem dX8_layFar_15 : decode cX8_layFar 15 = .ok (.iastore, 1) := by decide +kernel
theorem dX8_layFar_16 : decode cX8_layFar 16 = .ok (.iinc 3 1, 3) := by decide +kernel
theorem dX8_layFar_19 : decode cX8_layFar 19 = .ok (.goto (-17), 3) := by decide +kernel
theorem dX8_layFar_22 : decode cX8_layFar 22 = .ok (.aload_n 0, 1) := by decide +kernel
theorem dX8_layFar_23 : decode cX8_layFar 23 = .ok (.getfield 38, 3) := by decide +kernel
theorem dX8_layFar_26 : decode cX8_layFar 26 = .ok (.iload_n 2, 1) := by decide +kernel
theorem dX8_layFar_27 : decode cX8_layFar 27 = .ok (.iconst 0, 1) := by decide +kernel
theorem dX8_layFar_28 : decode cX8_layFar 28 = .ok (.iastore, 1) := by decide +kernel
theorem dX8_layFar_29 : decode cX8_layFar 29 = .ok (.iconst 1, 1) := by decide +kernel
theorem dX8_layFar_30 : decode cX8_layFar 30 = .ok (.istore_n 3, 1) := by decide +kernel
theorem dX8_layFar_31 : decode cX8_layFar 31 = .ok (.iload_n 3, 1) := by decide +kernel
theorem dX8_layFar_32 : decode cX8_layFar 32 = .ok (.ifCond .eq 88, 3) := by decide +kernel
theorem dX8_layFar_35 : decode cX8_layFar 35 = .ok (.iconst 0, 1) := by decide +kernel
theorem dX8_layFar_36 : decode cX8_layFar 36 = .ok (.istore_n 3, 1) := by decide +kernel
theorem dX8_layFar_37 : decode cX8_layFar 37 = .ok (.iconst 0, 1) := by decide +kernel
theorem dX8_layFar_38 : decode cX8_layFar 38 = .ok (.istore 4, 2) := by decide +kernel
theorem dX8_layFar_40 : decode cX8_layFar 40 = .ok (.iload 4, 2) := by decide +kernel
theorem dX8_layFar_42 : decode cX8_layFar 42 = .ok (.bipush 81, 2) := by decide +kernel
theorem dX8_layFar_44 : decode cX8_layFar 44 = .ok (.if_icmp .ge 73, 3) := by decide +kernel
theorem dX8_layFar_47 : decode cX8_layFar 47 = .ok (.aload_n 0, 1) := by decide +kernel
theorem dX8_layFar_48 : decode cX8_layFar 48 = .ok (.getfield 35, 3) := by decide +kernel
theorem dX8_layFar_51 : decode cX8_layFar 51 = .ok (.iload 4, 2) := by decide +kernel
theorem dX8_layFar_53 : decode cX8_layFar 53 = .ok (.iaload, 1) := by decide +kernel
theorem dX8_layFar_54 : decode cX8_layFar 54 = .ok (.ifCond .ne 8, 3) := by decide +kernel
theorem dX8_layFar_57 : decode cX8_layFar 57 = .ok (.ldc 73, 2) := by decide +kernel
theorem dX8_layFar_59 : decode cX8_layFar 59 = .ok (.goto 21, 3) := by decide +kernel
theorem dX8_layFar_62 : decode cX8_layFar 62 = .ok (.aload_n 0, 1) := by decide +kernel
theorem dX8_layFar_63 : decode cX8_layFar 63 = .ok (.getfield 35, 3) := by decide +kernel
theorem dX8_layFar_66 : decode cX8_layFar 66 = .ok (.iload 4, 2) := by decide +kernel
theorem dX8_layFar_68 : decode cX8_layFar 68 = .ok (.iaload, 1) := by decide +kernel
theorem dX8_layFar_69 : decode cX8_layFar 69 = .ok (.aload_n 0, 1) := by decide +kernel
theorem dX8_layFar_70 : decode cX8_layFar 70 = .ok (.getfield 38, 3) := by decide +kernel
theorem dX8_layFar_73 : decode cX8_layFar 73 = .ok (.iload 4, 2) := by decide +kernel
theorem dX8_layFar_75 : decode cX8_layFar 75 = .ok (.bipush 9, 2) := by decide +kernel
theorem dX8_layFar_77 : decode cX8_layFar 77 = .ok (.irem, 1) := by decide +kernel
theorem dX8_layFar_78 : decode cX8_layFar 78 = .ok (.iaload, 1) := by decide +kernel
theorem dX8_layFar_79 : decode cX8_layFar 79 = .ok (.iadd, 1) := by decide +kernel
theorem dX8_layFar_80 : decode cX8_layFar 80 = .ok (.istore 5, 2) := by decide +kernel
theorem dX8_layFar_82 : decode cX8_layFar 82 = .ok (.iload 5, 2) := by decide +kernel
theorem dX8_layFar_84 : decode cX8_layFar 84 = .ok (.aload_n 0, 1) := by decide +kernel
theorem dX8_layFar_85 : decode cX8_layFar 85 = .ok (.getfield 38, 3) := by decide +kernel
theorem dX8_layFar_88 : decode cX8_layFar 88 = .ok (.iload 4, 2) := by decide +kernel
theorem dX8_layFar_90 : decode cX8_layFar 90 = .ok (.bipush 9, 2) := by decide +kernel
theorem dX8_layFar_92 : decode cX8_layFar 92 = .ok (.idiv, 1) := by decide +kernel
theorem dX8_layFar_93 : decode cX8_layFar 93 = .ok (.iaload, 1) := by decide +kernel
theorem dX8_layFar_94 : decode cX8_layFar 94 = .ok (.if_icmp .ge 17, 3) := by decide +kernel
theorem dX8_layFar_97 : decode cX8_layFar 97 = .ok (.aload_n 0, 1) := by decide +kernel
theorem dX8_layFar_98 : decode cX8_layFar 98 = .ok (.getfield 38, 3) := by decide +kernel
theorem dX8_layFar_101 : decode cX8_layFar 101 = .ok (.iload 4, 2) := by decide +kernel
theorem dX8_layFar_103 : decode cX8_layFar 103 = .ok (.bipush 9, 2) := by decide +kernel
theorem dX8_layFar_105 : decode cX8_layFar 105 = .ok (.idiv, 1) := by decide +kernel
theorem dX8_layFar_106 : decode cX8_layFar 106 = .ok (.iload 5, 2) := by decide +kernel
theorem dX8_layFar_108 : decode cX8_layFar 108 = .ok (.iastore, 1) := by decide +kernel
theorem dX8_layFar_109 : decode cX8_layFar 109 = .ok (.iconst 1, 1) := by decide +kernel
theorem dX8_layFar_110 : decode cX8_layFar 110 = .ok (.istore_n 3, 1) := by decide +kernel
theorem dX8_layFar_111 : decode cX8_layFar 111 = .ok (.iinc 4 1, 3) := by decide +kernel
theorem dX8_layFar_114 : decode cX8_layFar 114 = .ok (.goto (-74), 3) := by decide +kernel
theorem dX8_layFar_117 : decode cX8_layFar 117 = .ok (.goto (-86), 3) := by decide +kernel
theorem dX8_layFar_120 : decode cX8_layFar 120 = .ok (.return_, 1) := by decide +kernel
theorem dX8_lengthOf_0 : decode cX8_lengthOf 0 = .ok (.iload_n 0, 1) := by decide +kernel
theorem dX8_lengthOf_1 : decode cX8_lengthOf 1 = .ok (.ldc 73, 2) := by decide +kernel
theorem dX8_lengthOf_3 : decode cX8_lengthOf 3 = .ok (.if_icmp .lt 9, 3) := by decide +kernel
theorem dX8_lengthOf_6 : decode cX8_lengthOf 6 = .ok (.sipush (-999), 3) := by decide +kernel
theorem dX8_lengthOf_9 : decode cX8_lengthOf 9 = .ok (.goto 7, 3) := by decide +kernel
theorem dX8_lengthOf_12 : decode cX8_lengthOf 12 = .ok (.iload_n 0, 1) := by decide +kernel
theorem dX8_lengthOf_13 : decode cX8_lengthOf 13 = .ok (.bipush 100, 2) := by decide +kernel
theorem dX8_lengthOf_15 : decode cX8_lengthOf 15 = .ok (.idiv, 1) := by decide +kernel
theorem dX8_lengthOf_16 : decode cX8_lengthOf 16 = .ok (.ireturn, 1) := by decide +kernel
theorem dX8_best_0 : decode cX8_best 0 = .ok (.aload_n 0, 1) := by decide +kernel
theorem dX8_best_1 : decode cX8_best 1 = .ok (.aload_n 1, 1) := by decide +kernel
theorem dX8_best_2 : decode cX8_best 2 = .ok (.aload_n 1, 1) := by decide +kernel
theorem dX8_best_3 : decode cX8_best 3 = .ok (.iconst 3, 1) := by decide +kernel
theorem dX8_best_4 : decode cX8_best 4 = .ok (.iaload, 1) := by decide +kernel
theorem dX8_best_5 : decode cX8_best 5 = .ok (.invokevirtual 74, 3) := by decide +kernel
theorem dX8_best_8 : decode cX8_best 8 = .ok (.aload_n 0, 1) := by decide +kernel
theorem dX8_best_9 : decode cX8_best 9 = .ok (.getfield 38, 3) := by decide +kernel
theorem dX8_best_12 : decode cX8_best 12 = .ok (.aload_n 1, 1) := by decide +kernel
theorem dX8_best_13 : decode cX8_best 13 = .ok (.iconst 2, 1) := by decide +kernel
theorem dX8_best_14 : decode cX8_best 14 = .ok (.iaload, 1) := by decide +kernel
theorem dX8_best_15 : decode cX8_best 15 = .ok (.iaload, 1) := by decide +kernel
theorem dX8_best_16 : decode cX8_best 16 = .ok (.invokestatic 77, 3) := by decide +kernel
theorem dX8_best_19 : decode cX8_best 19 = .ok (.ireturn, 1) := by decide +kernel
theorem dX8_bestBut_0 : decode cX8_bestBut 0 = .ok (.aload_n 0, 1) := by decide +kernel
theorem dX8_bestBut_1 : decode cX8_bestBut 1 = .ok (.aload_n 1, 1) := by decide +kernel
theorem dX8_bestBut_2 : decode cX8_bestBut 2 = .ok (.iload_n 2, 1) := by decide +kernel
theorem dX8_bestBut_3 : decode cX8_bestBut 3 = .ok (.invokevirtual 81, 3) := by decide +kernel
theorem dX8_bestBut_6 : decode cX8_bestBut 6 = .ok (.aload_n 0, 1) := by decide +kernel
theorem dX8_bestBut_7 : decode cX8_bestBut 7 = .ok (.aload_n 1, 1) := by decide +kernel
theorem dX8_bestBut_8 : decode cX8_bestBut 8 = .ok (.invokevirtual 84, 3) := by decide +kernel
theorem dX8_bestBut_11 : decode cX8_bestBut 11 = .ok (.ireturn, 1) := by decide +kernel
theorem dX8_layWay_0 : decode cX8_layWay 0 = .ok (.aload_n 0, 1) := by decide +kernel
theorem dX8_layWay_1 : decode cX8_layWay 1 = .ok (.aload_n 1, 1) := by decide +kernel
theorem dX8_layWay_2 : decode cX8_layWay 2 = .ok (.iload_n 2, 1) := by decide +kernel
theorem dX8_layWay_3 : decode cX8_layWay 3 = .ok (.invokevirtual 88, 3) := by decide +kernel
theorem dX8_layWay_6 : decode cX8_layWay 6 = .ok (.istore_n 3, 1) := by decide +kernel
theorem dX8_layWay_7 : decode cX8_layWay 7 = .ok (.aload_n 0, 1) := by decide +kernel
theorem dX8_layWay_8 : decode cX8_layWay 8 = .ok (.iconst 0, 1) := by decide +kernel
theorem dX8_layWay_9 : decode cX8_layWay 9 = .ok (.putfield 92, 3) := by decide +kernel
theorem dX8_layWay_12 : decode cX8_layWay 12 = .ok (.iload_n 3, 1) := by decide +kernel
theorem dX8_layWay_13 : decode cX8_layWay 13 = .ok (.sipush (-999), 3) := by decide +kernel
theorem dX8_layWay_16 : decode cX8_layWay 16 = .ok (.if_icmp .eq 113, 3) := by decide +kernel
theorem dX8_layWay_19 : decode cX8_layWay 19 = .ok (.aload_n 1, 1) := by decide +kernel
theorem dX8_layWay_20 : decode cX8_layWay 20 = .ok (.iconst 2, 1) := by decide +kernel
theorem dX8_layWay_21 : decode cX8_layWay 21 = .ok (.iaload, 1) := by decide +kernel
theorem dX8_layWay_22 : decode cX8_layWay 22 = .ok (.istore 4, 2) := by decide +kernel
theorem dX8_layWay_24 : decode cX8_layWay 24 = .ok (.aload_n 0, 1) := by decide +kernel
theorem dX8_layWay_25 : decode cX8_layWay 25 = .ok (.getfield 41, 3) := by decide +kernel
theorem dX8_layWay_28 : decode cX8_layWay 28 = .ok (.iconst 0, 1) := by decide +kernel
theorem dX8_layWay_29 : decode cX8_layWay 29 = .ok (.iload 4, 2) := by decide +kernel
theorem dX8_layWay_31 : decode cX8_layWay 31 = .ok (.iastore, 1) := by decide +kernel
theorem dX8_layWay_32 : decode cX8_layWay 32 = .ok (.aload_n 0, 1) := by decide +kernel
theorem dX8_layWay_33 : decode cX8_layWay 33 = .ok (.iconst 1, 1) := by decide +kernel
theorem dX8_layWay_34 : decode cX8_layWay 34 = .ok (.putfield 92, 3) := by decide +kernel
theorem dX8_layWay_37 : decode cX8_layWay 37 = .ok (.iload 4, 2) := by decide +kernel
theorem dX8_layWay_39 : decode cX8_layWay 39 = .ok (.aload_n 1, 1) := by decide +kernel
theorem dX8_layWay_40 : decode cX8_layWay 40 = .ok (.iconst 3, 1) := by decide +kernel
theorem dX8_layWay_41 : decode cX8_layWay 41 = .ok (.iaload, 1) := by decide +kernel
theorem dX8_layWay_42 : decode cX8_layWay 42 = .ok (.if_icmp .eq 87, 3) := by decide +kernel
theorem dX8_layWay_45 : decode cX8_layWay 45 = .ok (.iconst 0, 1) := by decide +kernel
theorem dX8_layWay_46 : decode cX8_layWay 46 = .ok (.istore 5, 2) := by decide +kernel
theorem dX8_layWay_48 : decode cX8_layWay 48 = .ok (.aload_n 0, 1) := by decide +kernel
theorem dX8_layWay_49 : decode cX8_layWay 49 = .ok (.getfield 35, 3) := by decide +kernel
theorem dX8_layWay_52 : decode cX8_layWay 52 = .ok (.bipush 9, 2) := by decide +kernel
theorem dX8_layWay_54 : decode cX8_layWay 54 = .ok (.iload 4, 2) := by decide +kernel
theorem dX8_layWay_56 : decode cX8_layWay 56 = .ok (.imul, 1) := by decide +kernel
theorem dX8_layWay_57 : decode cX8_layWay 57 = .ok (.iload 5, 2) := by decide +kernel
theorem dX8_layWay_59 : decode cX8_layWay 59 = .ok (.iadd, 1) := by decide +kernel
theorem dX8_layWay_60 : decode cX8_layWay 60 = .ok (.iaload, 1) := by decide +kernel
theorem dX8_layWay_61 : decode cX8_layWay 61 = .ok (.ifCond .eq 34, 3) := by decide +kernel
theorem dX8_layWay_64 : decode cX8_layWay 64 = .ok (.aload_n 0, 1) := by decide +kernel
theorem dX8_layWay_65 : decode cX8_layWay 65 = .ok (.getfield 35, 3) := by decide +kernel
theorem dX8_layWay_68 : decode cX8_layWay 68 = .ok (.bipush 9, 2) := by decide +kernel
theorem dX8_layWay_70 : decode cX8_layWay 70 = .ok (.iload 4, 2) := by decide +kernel
theorem dX8_layWay_72 : decode cX8_layWay 72 = .ok (.imul, 1) := by decide +kernel
theorem dX8_layWay_73 : decode cX8_layWay 73 = .ok (.iload 5, 2) := by decide +kernel
theorem dX8_layWay_75 : decode cX8_layWay 75 = .ok (.iadd, 1) := by decide +kernel
theorem dX8_layWay_76 : decode cX8_layWay 76 = .ok (.iaload, 1) := by decide +kernel
theorem dX8_layWay_77 : decode cX8_layWay 77 = .ok (.aload_n 0, 1) := by decide +kernel
theorem dX8_layWay_78 : decode cX8_layWay 78 = .ok (.getfield 38, 3) := by decide +kernel
theorem dX8_layWay_81 : decode cX8_layWay 81 = .ok (.iload 5, 2) := by decide +kernel
theorem dX8_layWay_83 : decode cX8_layWay 83 = .ok (.iaload, 1) := by decide +kernel
theorem dX8_layWay_84 : decode cX8_layWay 84 = .ok (.iadd, 1) := by decide +kernel
theorem dX8_layWay_85 : decode cX8_layWay 85 = .ok (.aload_n 0, 1) := by decide +kernel
theorem dX8_layWay_86 : decode cX8_layWay 86 = .ok (.getfield 38, 3) := by decide +kernel
theorem dX8_layWay_89 : decode cX8_layWay 89 = .ok (.iload 4, 2) := by decide +kernel
theorem dX8_layWay_91 : decode cX8_layWay 91 = .ok (.iaload, 1) := by decide +kernel
theorem dX8_layWay_92 : decode cX8_layWay 92 = .ok (.if_icmp .eq 9, 3) := by decide +kernel
theorem dX8_layWay_95 : decode cX8_layWay 95 = .ok (.iinc 5 1, 3) := by decide +kernel
theorem dX8_layWay_98 : decode cX8_layWay 98 = .ok (.goto (-50), 3) := by decide +kernel
theorem dX8_layWay_101 : decode cX8_layWay 101 = .ok (.iload 5, 2) := by decide +kernel
theorem dX8_layWay_103 : decode cX8_layWay 103 = .ok (.istore 4, 2) := by decide +kernel
theorem dX8_layWay_105 : decode cX8_layWay 105 = .ok (.aload_n 0, 1) := by decide +kernel
theorem dX8_layWay_106 : decode cX8_layWay 106 = .ok (.getfield 41, 3) := by decide +kernel
theorem dX8_layWay_109 : decode cX8_layWay 109 = .ok (.aload_n 0, 1) := by decide +kernel
theorem dX8_layWay_110 : decode cX8_layWay 110 = .ok (.getfield 92, 3) := by decide +kernel
theorem dX8_layWay_113 : decode cX8_layWay 113 = .ok (.iload 4, 2) := by decide +kernel
theorem dX8_layWay_115 : decode cX8_layWay 115 = .ok (.iastore, 1) := by decide +kernel
theorem dX8_layWay_116 : decode cX8_layWay 116 = .ok (.aload_n 0, 1) := by decide +kernel
theorem dX8_layWay_117 : decode cX8_layWay 117 = .ok (.dup, 1) := by decide +kernel
theorem dX8_layWay_118 : decode cX8_layWay 118 = .ok (.getfield 92, 3) := by decide +kernel
theorem dX8_layWay_121 : decode cX8_layWay 121 = .ok (.iconst 1, 1) := by decide +kernel
theorem dX8_layWay_122 : decode cX8_layWay 122 = .ok (.iadd, 1) := by decide +kernel
theorem dX8_layWay_123 : decode cX8_layWay 123 = .ok (.putfield 92, 3) := by decide +kernel
theorem dX8_layWay_126 : decode cX8_layWay 126 = .ok (.goto (-89), 3) := by decide +kernel
theorem dX8_layWay_129 : decode cX8_layWay 129 = .ok (.iload_n 3, 1) := by decide +kernel
theorem dX8_layWay_130 : decode cX8_layWay 130 = .ok (.ireturn, 1) := by decide +kernel
theorem dX8_placeOf_0 : decode cX8_placeOf 0 = .ok (.iconst 0, 1) := by decide +kernel
theorem dX8_placeOf_1 : decode cX8_placeOf 1 = .ok (.istore_n 2, 1) := by decide +kernel
theorem dX8_placeOf_2 : decode cX8_placeOf 2 = .ok (.iload_n 2, 1) := by decide +kernel
theorem dX8_placeOf_3 : decode cX8_placeOf 3 = .ok (.aload_n 0, 1) := by decide +kernel
theorem dX8_placeOf_4 : decode cX8_placeOf 4 = .ok (.getfield 92, 3) := by decide +kernel
theorem dX8_placeOf_7 : decode cX8_placeOf 7 = .ok (.if_icmp .ge 21, 3) := by decide +kernel
theorem dX8_placeOf_10 : decode cX8_placeOf 10 = .ok (.aload_n 0, 1) := by decide +kernel
theorem dX8_placeOf_11 : decode cX8_placeOf 11 = .ok (.getfield 41, 3) := by decide +kernel
theorem dX8_placeOf_14 : decode cX8_placeOf 14 = .ok (.iload_n 2, 1) := by decide +kernel
theorem dX8_placeOf_15 : decode cX8_placeOf 15 = .ok (.iaload, 1) := by decide +kernel
theorem dX8_placeOf_16 : decode cX8_placeOf 16 = .ok (.iload_n 1, 1) := by decide +kernel
theorem dX8_placeOf_17 : decode cX8_placeOf 17 = .ok (.if_icmp .ne 5, 3) := by decide +kernel
theorem dX8_placeOf_20 : decode cX8_placeOf 20 = .ok (.iload_n 2, 1) := by decide +kernel
theorem dX8_placeOf_21 : decode cX8_placeOf 21 = .ok (.ireturn, 1) := by decide +kernel
theorem dX8_placeOf_22 : decode cX8_placeOf 22 = .ok (.iinc 2 1, 3) := by decide +kernel
theorem dX8_placeOf_25 : decode cX8_placeOf 25 = .ok (.goto (-23), 3) := by decide +kernel
theorem dX8_placeOf_28 : decode cX8_placeOf 28 = .ok (.sipush (-999), 3) := by decide +kernel
theorem dX8_placeOf_31 : decode cX8_placeOf 31 = .ok (.ireturn, 1) := by decide +kernel
theorem dX8_isOfWay_0 : decode cX8_isOfWay 0 = .ok (.aload_n 0, 1) := by decide +kernel
theorem dX8_isOfWay_1 : decode cX8_isOfWay 1 = .ok (.aload_n 1, 1) := by decide +kernel
theorem dX8_isOfWay_2 : decode cX8_isOfWay 2 = .ok (.iconst 4, 1) := by decide +kernel
theorem dX8_isOfWay_3 : decode cX8_isOfWay 3 = .ok (.iload_n 2, 1) := by decide +kernel
theorem dX8_isOfWay_4 : decode cX8_isOfWay 4 = .ok (.iadd, 1) := by decide +kernel
theorem dX8_isOfWay_5 : decode cX8_isOfWay 5 = .ok (.iaload, 1) := by decide +kernel
theorem dX8_isOfWay_6 : decode cX8_isOfWay 6 = .ok (.invokevirtual 95, 3) := by decide +kernel
theorem dX8_isOfWay_9 : decode cX8_isOfWay 9 = .ok (.istore_n 3, 1) := by decide +kernel
theorem dX8_isOfWay_10 : decode cX8_isOfWay 10 = .ok (.aload_n 0, 1) := by decide +kernel
theorem dX8_isOfWay_11 : decode cX8_isOfWay 11 = .ok (.aload_n 1, 1) := by decide +kernel
theorem dX8_isOfWay_12 : decode cX8_isOfWay 12 = .ok (.bipush 24, 2) := by decide +kernel
theorem dX8_isOfWay_14 : decode cX8_isOfWay 14 = .ok (.iload_n 2, 1) := by decide +kernel
theorem dX8_isOfWay_15 : decode cX8_isOfWay 15 = .ok (.iadd, 1) := by decide +kernel
theorem dX8_isOfWay_16 : decode cX8_isOfWay 16 = .ok (.iaload, 1) := by decide +kernel
theorem dX8_isOfWay_17 : decode cX8_isOfWay 17 = .ok (.invokevirtual 95, 3) := by decide +kernel
theorem dX8_isOfWay_20 : decode cX8_isOfWay 20 = .ok (.istore 4, 2) := by decide +kernel
theorem dX8_isOfWay_22 : decode cX8_isOfWay 22 = .ok (.iload_n 3, 1) := by decide +kernel
theorem dX8_isOfWay_23 : decode cX8_isOfWay 23 = .ok (.sipush (-999), 3) := by decide +kernel
theorem dX8_isOfWay_26 : decode cX8_isOfWay 26 = .ok (.if_icmp .eq 31, 3) := by decide +kernel
theorem dX8_isOfWay_29 : decode cX8_isOfWay 29 = .ok (.iload 4, 2) := by decide +kernel
theorem dX8_isOfWay_31 : decode cX8_isOfWay 31 = .ok (.sipush (-999), 3) := by decide +kernel
theorem dX8_isOfWay_34 : decode cX8_isOfWay 34 = .ok (.if_icmp .eq 23, 3) := by decide +kernel
theorem dX8_isOfWay_37 : decode cX8_isOfWay 37 = .ok (.iload_n 3, 1) := by decide +kernel
theorem dX8_isOfWay_38 : decode cX8_isOfWay 38 = .ok (.iload 4, 2) := by decide +kernel
theorem dX8_isOfWay_40 : decode cX8_isOfWay 40 = .ok (.isub, 1) := by decide +kernel
theorem dX8_isOfWay_41 : decode cX8_isOfWay 41 = .ok (.iconst 1, 1) := by decide +kernel
theorem dX8_isOfWay_42 : decode cX8_isOfWay 42 = .ok (.if_icmp .eq 11, 3) := by decide +kernel
end
section
theorem dX8_isOfWay_45 : decode cX8_isOfWay 45 = .ok (.iload 4, 2) := by decide +kernel
theorem dX8_isOfWay_47 : decode cX8_isOfWay 47 = .ok (.iload_n 3, 1) := by decide +kernel
theorem dX8_isOfWay_48 : decode cX8_isOfWay 48 = .ok (.isub, 1) := by decide +kernel
theorem dX8_isOfWay_49 : decode cX8_isOfWay 49 = .ok (.iconst 1, 1) := by decide +kernel
theorem dX8_isOfWay_50 : decode cX8_isOfWay 50 = .ok (.if_icmp .ne 7, 3) := by decide +kernel
theorem dX8_isOfWay_53 : decode cX8_isOfWay 53 = .ok (.iconst 1, 1) := by decide +kernel
theorem dX8_isOfWay_54 : decode cX8_isOfWay 54 = .ok (.goto 4, 3) := by decide +kernel
theorem dX8_isOfWay_57 : decode cX8_isOfWay 57 = .ok (.iconst 0, 1) := by decide +kernel
theorem dX8_isOfWay_58 : decode cX8_isOfWay 58 = .ok (.ireturn, 1) := by decide +kernel
theorem dX8_append_0 : decode cX8_append 0 = .ok (.aload_n 0, 1) := by decide +kernel
theorem dX8_append_1 : decode cX8_append 1 = .ok (.iload_n 1, 1) := by decide +kernel
theorem dX8_append_2 : decode cX8_append 2 = .ok (.i2l, 1) := by decide +kernel
theorem dX8_append_3 : decode cX8_append 3 = .ok (.lconst 0, 1) := by decide +kernel
theorem dX8_append_4 : decode cX8_append 4 = .ok (.ldc2_w 98, 3) := by decide +kernel
theorem dX8_append_7 : decode cX8_append 7 = .ok (.invokestatic 65, 3) := by decide +kernel
theorem dX8_append_10 : decode cX8_append 10 = .ok (.ifCond .ne 7, 3) := by decide +kernel
theorem dX8_append_13 : decode cX8_append 13 = .ok (.iconst 1, 1) := by decide +kernel
theorem dX8_append_14 : decode cX8_append 14 = .ok (.goto 18, 3) := by decide +kernel
theorem dX8_append_17 : decode cX8_append 17 = .ok (.aload_n 0, 1) := by decide +kernel
theorem dX8_append_18 : decode cX8_append 18 = .ok (.getfield 100, 3) := by decide +kernel
theorem dX8_append_21 : decode cX8_append 21 = .ok (.sipush 140, 3) := by decide +kernel
theorem dX8_append_24 : decode cX8_append 24 = .ok (.if_icmp .ne 7, 3) := by decide +kernel
theorem dX8_append_27 : decode cX8_append 27 = .ok (.iconst 2, 1) := by decide +kernel
theorem dX8_append_28 : decode cX8_append 28 = .ok (.goto 4, 3) := by decide +kernel
theorem dX8_append_31 : decode cX8_append 31 = .ok (.iconst 0, 1) := by decide +kernel
theorem dX8_append_32 : decode cX8_append 32 = .ok (.invokevirtual 103, 3) := by decide +kernel
theorem dX8_append_35 : decode cX8_append 35 = .ok (.ifCond .eq 5, 3) := by decide +kernel
theorem dX8_append_38 : decode cX8_append 38 = .ok (.iconst 0, 1) := by decide +kernel
theorem dX8_append_39 : decode cX8_append 39 = .ok (.ireturn, 1) := by decide +kernel
theorem dX8_append_40 : decode cX8_append 40 = .ok (.aload_n 0, 1) := by decide +kernel
theorem dX8_append_41 : decode cX8_append 41 = .ok (.getfield 7, 3) := by decide +kernel
theorem dX8_append_44 : decode cX8_append 44 = .ok (.aload_n 0, 1) := by decide +kernel
theorem dX8_append_45 : decode cX8_append 45 = .ok (.getfield 100, 3) := by decide +kernel
theorem dX8_append_48 : decode cX8_append 48 = .ok (.iload_n 1, 1) := by decide +kernel
theorem dX8_append_49 : decode cX8_append 49 = .ok (.iastore, 1) := by decide +kernel
theorem dX8_append_50 : decode cX8_append 50 = .ok (.aload_n 0, 1) := by decide +kernel
theorem dX8_append_51 : decode cX8_append 51 = .ok (.dup, 1) := by decide +kernel
theorem dX8_append_52 : decode cX8_append 52 = .ok (.getfield 100, 3) := by decide +kernel
theorem dX8_append_55 : decode cX8_append 55 = .ok (.iconst 1, 1) := by decide +kernel
theorem dX8_append_56 : decode cX8_append 56 = .ok (.iadd, 1) := by decide +kernel
theorem dX8_append_57 : decode cX8_append 57 = .ok (.putfield 100, 3) := by decide +kernel
theorem dX8_append_60 : decode cX8_append 60 = .ok (.aload_n 0, 1) := by decide +kernel
theorem dX8_append_61 : decode cX8_append 61 = .ok (.getfield 100, 3) := by decide +kernel
theorem dX8_append_64 : decode cX8_append 64 = .ok (.ireturn, 1) := by decide +kernel
theorem dX8_clearText_0 : decode cX8_clearText 0 = .ok (.aload_n 0, 1) := by decide +kernel
theorem dX8_clearText_1 : decode cX8_clearText 1 = .ok (.getfield 100, 3) := by decide +kernel
theorem dX8_clearText_4 : decode cX8_clearText 4 = .ok (.istore_n 1, 1) := by decide +kernel
theorem dX8_clearText_5 : decode cX8_clearText 5 = .ok (.aload_n 0, 1) := by decide +kernel
theorem dX8_clearText_6 : decode cX8_clearText 6 = .ok (.iconst 0, 1) := by decide +kernel
theorem dX8_clearText_7 : decode cX8_clearText 7 = .ok (.putfield 100, 3) := by decide +kernel
theorem dX8_clearText_10 : decode cX8_clearText 10 = .ok (.iload_n 1, 1) := by decide +kernel
theorem dX8_clearText_11 : decode cX8_clearText 11 = .ok (.ireturn, 1) := by decide +kernel
theorem dX8_digit_0 : decode cX8_digit 0 = .ok (.aload_n 0, 1) := by decide +kernel
theorem dX8_digit_1 : decode cX8_digit 1 = .ok (.getfield 107, 3) := by decide +kernel
theorem dX8_digit_4 : decode cX8_digit 4 = .ok (.aload_n 0, 1) := by decide +kernel
theorem dX8_digit_5 : decode cX8_digit 5 = .ok (.getfield 100, 3) := by decide +kernel
theorem dX8_digit_8 : decode cX8_digit 8 = .ok (.if_icmp .ge 18, 3) := by decide +kernel
theorem dX8_digit_11 : decode cX8_digit 11 = .ok (.aload_n 0, 1) := by decide +kernel
theorem dX8_digit_12 : decode cX8_digit 12 = .ok (.getfield 7, 3) := by decide +kernel
theorem dX8_digit_15 : decode cX8_digit 15 = .ok (.aload_n 0, 1) := by decide +kernel
theorem dX8_digit_16 : decode cX8_digit 16 = .ok (.getfield 107, 3) := by decide +kernel
theorem dX8_digit_19 : decode cX8_digit 19 = .ok (.iaload, 1) := by decide +kernel
theorem dX8_digit_20 : decode cX8_digit 20 = .ok (.bipush 48, 2) := by decide +kernel
theorem dX8_digit_22 : decode cX8_digit 22 = .ok (.isub, 1) := by decide +kernel
theorem dX8_digit_23 : decode cX8_digit 23 = .ok (.goto 6, 3) := by decide +kernel
theorem dX8_digit_26 : decode cX8_digit 26 = .ok (.sipush (-999), 3) := by decide +kernel
theorem dX8_digit_29 : decode cX8_digit 29 = .ok (.istore_n 3, 1) := by decide +kernel
theorem dX8_digit_30 : decode cX8_digit 30 = .ok (.iload_n 3, 1) := by decide +kernel
theorem dX8_digit_31 : decode cX8_digit 31 = .ok (.i2l, 1) := by decide +kernel
theorem dX8_digit_32 : decode cX8_digit 32 = .ok (.iload_n 1, 1) := by decide +kernel
theorem dX8_digit_33 : decode cX8_digit 33 = .ok (.i2l, 1) := by decide +kernel
theorem dX8_digit_34 : decode cX8_digit 34 = .ok (.iload_n 2, 1) := by decide +kernel
theorem dX8_digit_35 : decode cX8_digit 35 = .ok (.i2l, 1) := by decide +kernel
theorem dX8_digit_36 : decode cX8_digit 36 = .ok (.invokestatic 65, 3) := by decide +kernel
theorem dX8_digit_39 : decode cX8_digit 39 = .ok (.ifCond .ne 7, 3) := by decide +kernel
theorem dX8_digit_42 : decode cX8_digit 42 = .ok (.sipush (-999), 3) := by decide +kernel
theorem dX8_digit_45 : decode cX8_digit 45 = .ok (.ireturn, 1) := by decide +kernel
theorem dX8_digit_46 : decode cX8_digit 46 = .ok (.aload_n 0, 1) := by decide +kernel
theorem dX8_digit_47 : decode cX8_digit 47 = .ok (.dup, 1) := by decide +kernel
theorem dX8_digit_48 : decode cX8_digit 48 = .ok (.getfield 107, 3) := by decide +kernel
theorem dX8_digit_51 : decode cX8_digit 51 = .ok (.iconst 1, 1) := by decide +kernel
theorem dX8_digit_52 : decode cX8_digit 52 = .ok (.iadd, 1) := by decide +kernel
theorem dX8_digit_53 : decode cX8_digit 53 = .ok (.putfield 107, 3) := by decide +kernel
theorem dX8_digit_56 : decode cX8_digit 56 = .ok (.iload_n 3, 1) := by decide +kernel
theorem dX8_digit_57 : decode cX8_digit 57 = .ok (.ireturn, 1) := by decide +kernel
theorem dX8_readStreet_0 : decode cX8_readStreet 0 = .ok (.aload_n 0, 1) := by decide +kernel
theorem dX8_readStreet_1 : decode cX8_readStreet 1 = .ok (.getfield 13, 3) := by decide +kernel
theorem dX8_readStreet_4 : decode cX8_readStreet 4 = .ok (.iconst 0, 1) := by decide +kernel
theorem dX8_readStreet_5 : decode cX8_readStreet 5 = .ok (.iaload, 1) := by decide +kernel
theorem dX8_readStreet_6 : decode cX8_readStreet 6 = .ok (.istore_n 1, 1) := by decide +kernel
theorem dX8_readStreet_7 : decode cX8_readStreet 7 = .ok (.aload_n 0, 1) := by decide +kernel
theorem dX8_readStreet_8 : decode cX8_readStreet 8 = .ok (.iconst 0, 1) := by decide +kernel
theorem dX8_readStreet_9 : decode cX8_readStreet 9 = .ok (.iload_n 1, 1) := by decide +kernel
theorem dX8_readStreet_10 : decode cX8_readStreet 10 = .ok (.iconst 1, 1) := by decide +kernel
theorem dX8_readStreet_11 : decode cX8_readStreet 11 = .ok (.isub, 1) := by decide +kernel
theorem dX8_readStreet_12 : decode cX8_readStreet 12 = .ok (.invokevirtual 110, 3) := by decide +kernel
theorem dX8_readStreet_15 : decode cX8_readStreet 15 = .ok (.istore_n 2, 1) := by decide +kernel
theorem dX8_readStreet_16 : decode cX8_readStreet 16 = .ok (.iload_n 2, 1) := by decide +kernel
theorem dX8_readStreet_17 : decode cX8_readStreet 17 = .ok (.sipush (-999), 3) := by decide +kernel
theorem dX8_readStreet_20 : decode cX8_readStreet 20 = .ok (.if_icmp .eq 32, 3) := by decide +kernel
theorem dX8_readStreet_23 : decode cX8_readStreet 23 = .ok (.aload_n 0, 1) := by decide +kernel
theorem dX8_readStreet_24 : decode cX8_readStreet 24 = .ok (.getfield 13, 3) := by decide +kernel
theorem dX8_readStreet_27 : decode cX8_readStreet 27 = .ok (.iload_n 2, 1) := by decide +kernel
theorem dX8_readStreet_28 : decode cX8_readStreet 28 = .ok (.iconst 0, 1) := by decide +kernel
theorem dX8_readStreet_29 : decode cX8_readStreet 29 = .ok (.invokestatic 114, 3) := by decide +kernel
theorem dX8_readStreet_32 : decode cX8_readStreet 32 = .ok (.iload_n 1, 1) := by decide +kernel
theorem dX8_readStreet_33 : decode cX8_readStreet 33 = .ok (.iconst 1, 1) := by decide +kernel
theorem dX8_readStreet_34 : decode cX8_readStreet 34 = .ok (.isub, 1) := by decide +kernel
theorem dX8_readStreet_35 : decode cX8_readStreet 35 = .ok (.if_icmp .ne 17, 3) := by decide +kernel
theorem dX8_readStreet_38 : decode cX8_readStreet 38 = .ok (.aload_n 0, 1) := by decide +kernel
theorem dX8_readStreet_39 : decode cX8_readStreet 39 = .ok (.dup, 1) := by decide +kernel
theorem dX8_readStreet_40 : decode cX8_readStreet 40 = .ok (.getfield 107, 3) := by decide +kernel
theorem dX8_readStreet_43 : decode cX8_readStreet 43 = .ok (.iconst 1, 1) := by decide +kernel
theorem dX8_readStreet_44 : decode cX8_readStreet 44 = .ok (.isub, 1) := by decide +kernel
theorem dX8_readStreet_45 : decode cX8_readStreet 45 = .ok (.putfield 107, 3) := by decide +kernel
theorem dX8_readStreet_48 : decode cX8_readStreet 48 = .ok (.sipush (-999), 3) := by decide +kernel
theorem dX8_readStreet_51 : decode cX8_readStreet 51 = .ok (.istore_n 2, 1) := by decide +kernel
theorem dX8_readStreet_52 : decode cX8_readStreet 52 = .ok (.iload_n 2, 1) := by decide +kernel
theorem dX8_readStreet_53 : decode cX8_readStreet 53 = .ok (.sipush (-999), 3) := by decide +kernel
theorem dX8_readStreet_56 : decode cX8_readStreet 56 = .ok (.if_icmp .ne 5, 3) := by decide +kernel
theorem dX8_readStreet_59 : decode cX8_readStreet 59 = .ok (.iconst 0, 1) := by decide +kernel
theorem dX8_readStreet_60 : decode cX8_readStreet 60 = .ok (.ireturn, 1) := by decide +kernel
theorem dX8_readStreet_61 : decode cX8_readStreet 61 = .ok (.aload_n 0, 1) := by decide +kernel
theorem dX8_readStreet_62 : decode cX8_readStreet 62 = .ok (.iconst 0, 1) := by decide +kernel
theorem dX8_readStreet_63 : decode cX8_readStreet 63 = .ok (.iload_n 1, 1) := by decide +kernel
theorem dX8_readStreet_64 : decode cX8_readStreet 64 = .ok (.iconst 1, 1) := by decide +kernel
theorem dX8_readStreet_65 : decode cX8_readStreet 65 = .ok (.isub, 1) := by decide +kernel
theorem dX8_readStreet_66 : decode cX8_readStreet 66 = .ok (.invokevirtual 110, 3) := by decide +kernel
theorem dX8_readStreet_69 : decode cX8_readStreet 69 = .ok (.istore_n 3, 1) := by decide +kernel
theorem dX8_readStreet_70 : decode cX8_readStreet 70 = .ok (.iload_n 3, 1) := by decide +kernel
theorem dX8_readStreet_71 : decode cX8_readStreet 71 = .ok (.sipush (-999), 3) := by decide +kernel
theorem dX8_readStreet_74 : decode cX8_readStreet 74 = .ok (.if_icmp .eq 37, 3) := by decide +kernel
theorem dX8_readStreet_77 : decode cX8_readStreet 77 = .ok (.iload_n 3, 1) := by decide +kernel
theorem dX8_readStreet_78 : decode cX8_readStreet 78 = .ok (.iload_n 2, 1) := by decide +kernel
theorem dX8_readStreet_79 : decode cX8_readStreet 79 = .ok (.if_icmp .eq 18, 3) := by decide +kernel
theorem dX8_readStreet_82 : decode cX8_readStreet 82 = .ok (.aload_n 0, 1) := by decide +kernel
theorem dX8_readStreet_83 : decode cX8_readStreet 83 = .ok (.getfield 13, 3) := by decide +kernel
theorem dX8_readStreet_86 : decode cX8_readStreet 86 = .ok (.iload_n 2, 1) := by decide +kernel
theorem dX8_readStreet_87 : decode cX8_readStreet 87 = .ok (.iload_n 3, 1) := by decide +kernel
theorem dX8_readStreet_88 : decode cX8_readStreet 88 = .ok (.invokestatic 118, 3) := by decide +kernel
theorem dX8_readStreet_91 : decode cX8_readStreet 91 = .ok (.sipush (-999), 3) := by decide +kernel
theorem dX8_readStreet_94 : decode cX8_readStreet 94 = .ok (.if_icmp .eq 17, 3) := by decide +kernel
theorem dX8_readStreet_97 : decode cX8_readStreet 97 = .ok (.aload_n 0, 1) := by decide +kernel
theorem dX8_readStreet_98 : decode cX8_readStreet 98 = .ok (.dup, 1) := by decide +kernel
theorem dX8_readStreet_99 : decode cX8_readStreet 99 = .ok (.getfield 107, 3) := by decide +kernel
theorem dX8_readStreet_102 : decode cX8_readStreet 102 = .ok (.iconst 1, 1) := by decide +kernel
theorem dX8_readStreet_103 : decode cX8_readStreet 103 = .ok (.isub, 1) := by decide +kernel
theorem dX8_readStreet_104 : decode cX8_readStreet 104 = .ok (.putfield 107, 3) := by decide +kernel
theorem dX8_readStreet_107 : decode cX8_readStreet 107 = .ok (.sipush (-999), 3) := by decide +kernel
theorem dX8_readStreet_110 : decode cX8_readStreet 110 = .ok (.istore_n 3, 1) := by decide +kernel
theorem dX8_readStreet_111 : decode cX8_readStreet 111 = .ok (.iload_n 3, 1) := by decide +kernel
theorem dX8_readStreet_112 : decode cX8_readStreet 112 = .ok (.sipush (-999), 3) := by decide +kernel
theorem dX8_readStreet_115 : decode cX8_readStreet 115 = .ok (.if_icmp .ne 9, 3) := by decide +kernel
theorem dX8_readStreet_118 : decode cX8_readStreet 118 = .ok (.sipush (-999), 3) := by decide +kernel
theorem dX8_readStreet_121 : decode cX8_readStreet 121 = .ok (.goto 10, 3) := by decide +kernel
theorem dX8_readStreet_124 : decode cX8_readStreet 124 = .ok (.aload_n 0, 1) := by decide +kernel
theorem dX8_readStreet_125 : decode cX8_readStreet 125 = .ok (.iconst 0, 1) := by decide +kernel
theorem dX8_readStreet_126 : decode cX8_readStreet 126 = .ok (.bipush 9, 2) := by decide +kernel
theorem dX8_readStreet_128 : decode cX8_readStreet 128 = .ok (.invokevirtual 110, 3) := by decide +kernel
theorem dX8_readStreet_131 : decode cX8_readStreet 131 = .ok (.istore 4, 2) := by decide +kernel
theorem dX8_readStreet_133 : decode cX8_readStreet 133 = .ok (.iload 4, 2) := by decide +kernel
theorem dX8_readStreet_135 : decode cX8_readStreet 135 = .ok (.sipush (-999), 3) := by decide +kernel
theorem dX8_readStreet_138 : decode cX8_readStreet 138 = .ok (.if_icmp .ne 9, 3) := by decide +kernel
theorem dX8_readStreet_141 : decode cX8_readStreet 141 = .ok (.sipush (-999), 3) := by decide +kernel
theorem dX8_readStreet_144 : decode cX8_readStreet 144 = .ok (.goto 19, 3) := by decide +kernel
theorem dX8_readStreet_147 : decode cX8_readStreet 147 = .ok (.aload_n 0, 1) := by decide +kernel
theorem dX8_readStreet_148 : decode cX8_readStreet 148 = .ok (.iload 4, 2) := by decide +kernel
theorem dX8_readStreet_150 : decode cX8_readStreet 150 = .ok (.ifCond .ne 7, 3) := by decide +kernel
theorem dX8_readStreet_153 : decode cX8_readStreet 153 = .ok (.iconst 1, 1) := by decide +kernel
theorem dX8_readStreet_154 : decode cX8_readStreet 154 = .ok (.goto 4, 3) := by decide +kernel
theorem dX8_readStreet_157 : decode cX8_readStreet 157 = .ok (.iconst 0, 1) := by decide +kernel
theorem dX8_readStreet_158 : decode cX8_readStreet 158 = .ok (.bipush 9, 2) := by decide +kernel
theorem dX8_readStreet_160 : decode cX8_readStreet 160 = .ok (.invokevirtual 110, 3) := by decide +kernel
theorem dX8_readStreet_163 : decode cX8_readStreet 163 = .ok (.istore 5, 2) := by decide +kernel
theorem dX8_readStreet_165 : decode cX8_readStreet 165 = .ok (.iload 5, 2) := by decide +kernel
theorem dX8_readStreet_167 : decode cX8_readStreet 167 = .ok (.sipush (-999), 3) := by decide +kernel
theorem dX8_readStreet_170 : decode cX8_readStreet 170 = .ok (.if_icmp .ne 5, 3) := by decide +kernel
theorem dX8_readStreet_173 : decode cX8_readStreet 173 = .ok (.iconst 0, 1) := by decide +kernel
theorem dX8_readStreet_174 : decode cX8_readStreet 174 = .ok (.ireturn, 1) := by decide +kernel
theorem dX8_readStreet_175 : decode cX8_readStreet 175 = .ok (.aload_n 0, 1) := by decide +kernel
theorem dX8_readStreet_176 : decode cX8_readStreet 176 = .ok (.getfield 13, 3) := by decide +kernel
theorem dX8_readStreet_179 : decode cX8_readStreet 179 = .ok (.iload_n 2, 1) := by decide +kernel
theorem dX8_readStreet_180 : decode cX8_readStreet 180 = .ok (.iload_n 3, 1) := by decide +kernel
theorem dX8_readStreet_181 : decode cX8_readStreet 181 = .ok (.bipush 10, 2) := by decide +kernel
theorem dX8_readStreet_183 : decode cX8_readStreet 183 = .ok (.iload 4, 2) := by decide +kernel
theorem dX8_readStreet_185 : decode cX8_readStreet 185 = .ok (.imul, 1) := by decide +kernel
theorem dX8_readStreet_186 : decode cX8_readStreet 186 = .ok (.iload 5, 2) := by decide +kernel
theorem dX8_readStreet_188 : decode cX8_readStreet 188 = .ok (.iadd, 1) := by decide +kernel
theorem dX8_readStreet_189 : decode cX8_readStreet 189 = .ok (.invokestatic 122, 3) := by decide +kernel
theorem dX8_readStreet_192 : decode cX8_readStreet 192 = .ok (.istore 6, 2) := by decide +kernel
theorem dX8_readStreet_194 : decode cX8_readStreet 194 = .ok (.aload_n 0, 1) := by decide +kernel
theorem dX8_readStreet_195 : decode cX8_readStreet 195 = .ok (.getfield 107, 3) := by decide +kernel
theorem dX8_readStreet_198 : decode cX8_readStreet 198 = .ok (.aload_n 0, 1) := by decide +kernel
theorem dX8_readStreet_199 : decode cX8_readStreet 199 = .ok (.getfield 100, 3) := by decide +kernel
theorem dX8_readStreet_202 : decode cX8_readStreet 202 = .ok (.if_icmp .ge 38, 3) := by decide +kernel
theorem dX8_readStreet_205 : decode cX8_readStreet 205 = .ok (.aload_n 0, 1) := by decide +kernel
theorem dX8_readStreet_206 : decode cX8_readStreet 206 = .ok (.getfield 7, 3) := by decide +kernel
theorem dX8_readStreet_209 : decode cX8_readStreet 209 = .ok (.aload_n 0, 1) := by decide +kernel
theorem dX8_readStreet_210 : decode cX8_readStreet 210 = .ok (.getfield 107, 3) := by decide +kernel
theorem dX8_readStreet_213 : decode cX8_readStreet 213 = .ok (.iaload, 1) := by decide +kernel
theorem dX8_readStreet_214 : decode cX8_readStreet 214 = .ok (.bipush 120, 2) := by decide +kernel
theorem dX8_readStreet_216 : decode cX8_readStreet 216 = .ok (.if_icmp .ne 24, 3) := by decide +kernel
theorem dX8_readStreet_219 : decode cX8_readStreet 219 = .ok (.aload_n 0, 1) := by decide +kernel
theorem dX8_readStreet_220 : decode cX8_readStreet 220 = .ok (.getfield 13, 3) := by decide +kernel
theorem dX8_readStreet_223 : decode cX8_readStreet 223 = .ok (.bipush 64, 2) := by decide +kernel
theorem dX8_readStreet_225 : decode cX8_readStreet 225 = .ok (.iload 6, 2) := by decide +kernel
theorem dX8_readStreet_227 : decode cX8_readStreet 227 = .ok (.iadd, 1) := by decide +kernel
theorem dX8_readStreet_228 : decode cX8_readStreet 228 = .ok (.iconst 1, 1) := by decide +kernel
theorem dX8_readStreet_229 : decode cX8_readStreet 229 = .ok (.iastore, 1) := by decide +kernel
theorem dX8_readStreet_230 : decode cX8_readStreet 230 = .ok (.aload_n 0, 1) := by decide +kernel
theorem dX8_readStreet_231 : decode cX8_readStreet 231 = .ok (.dup, 1) := by decide +kernel
theorem dX8_readStreet_232 : decode cX8_readStreet 232 = .ok (.getfield 107, 3) := by decide +kernel
theorem dX8_readStreet_235 : decode cX8_readStreet 235 = .ok (.iconst 1, 1) := by decide +kernel
theorem dX8_readStreet_236 : decode cX8_readStreet 236 = .ok (.iadd, 1) := by decide +kernel
theorem dX8_readStreet_237 : decode cX8_readStreet 237 = .ok (.putfield 107, 3) := by decide +kernel
theorem dX8_readStreet_240 : decode cX8_readStreet 240 = .ok (.iconst 1, 1) := by decide +kernel
theorem dX8_readStreet_241 : decode cX8_readStreet 241 = .ok (.ireturn, 1) := by decide +kernel
theorem dX8_readTown_0 : decode cX8_readTown 0 = .ok (.aload_n 0, 1) := by decide +kernel
theorem dX8_readTown_1 : decode cX8_readTown 1 = .ok (.iconst 0, 1) := by decide +kernel
theorem dX8_readTown_2 : decode cX8_readTown 2 = .ok (.putfield 107, 3) := by decide +kernel
theorem dX8_readTown_5 : decode cX8_readTown 5 = .ok (.aload_n 0, 1) := by decide +kernel
theorem dX8_readTown_6 : decode cX8_readTown 6 = .ok (.getfield 100, 3) := by decide +kernel
theorem dX8_readTown_9 : decode cX8_readTown 9 = .ok (.ifCond .eq 14, 3) := by decide +kernel
theorem dX8_readTown_12 : decode cX8_readTown 12 = .ok (.aload_n 0, 1) := by decide +kernel
theorem dX8_readTown_13 : decode cX8_readTown 13 = .ok (.getfield 7, 3) := by decide +kernel
theorem dX8_readTown_16 : decode cX8_readTown 16 = .ok (.iconst 0, 1) := by decide +kernel
theorem dX8_readTown_17 : decode cX8_readTown 17 = .ok (.iaload, 1) := by decide +kernel
theorem dX8_readTown_18 : decode cX8_readTown 18 = .ok (.bipush 84, 2) := by decide +kernel
theorem dX8_readTown_20 : decode cX8_readTown 20 = .ok (.if_icmp .eq 5, 3) := by decide +kernel
theorem dX8_readTown_23 : decode cX8_readTown 23 = .ok (.iconst 0, 1) := by decide +kernel
theorem dX8_readTown_24 : decode cX8_readTown 24 = .ok (.ireturn, 1) := by decide +kernel
theorem dX8_readTown_25 : decode cX8_readTown 25 = .ok (.aload_n 0, 1) := by decide +kernel
theorem dX8_readTown_26 : decode cX8_readTown 26 = .ok (.iconst 1, 1) := by decide +kernel
theorem dX8_readTown_27 : decode cX8_readTown 27 = .ok (.putfield 107, 3) := by decide +kernel
theorem dX8_readTown_30 : decode cX8_readTown 30 = .ok (.aload_n 0, 1) := by decide +kernel
theorem dX8_readTown_31 : decode cX8_readTown 31 = .ok (.iconst 2, 1) := by decide +kernel
theorem dX8_readTown_32 : decode cX8_readTown 32 = .ok (.bipush 9, 2) := by decide +kernel
theorem dX8_readTown_34 : decode cX8_readTown 34 = .ok (.invokevirtual 110, 3) := by decide +kernel
theorem dX8_readTown_37 : decode cX8_readTown 37 = .ok (.istore_n 1, 1) := by decide +kernel
theorem dX8_readTown_38 : decode cX8_readTown 38 = .ok (.iload_n 1, 1) := by decide +kernel
theorem dX8_readTown_39 : decode cX8_readTown 39 = .ok (.sipush (-999), 3) := by decide +kernel
theorem dX8_readTown_42 : decode cX8_readTown 42 = .ok (.if_icmp .ne 5, 3) := by decide +kernel
theorem dX8_readTown_45 : decode cX8_readTown 45 = .ok (.iconst 0, 1) := by decide +kernel
theorem dX8_readTown_46 : decode cX8_readTown 46 = .ok (.ireturn, 1) := by decide +kernel
theorem dX8_readTown_47 : decode cX8_readTown 47 = .ok (.aload_n 0, 1) := by decide +kernel
theorem dX8_readTown_48 : decode cX8_readTown 48 = .ok (.getfield 13, 3) := by decide +kernel
theorem dX8_readTown_51 : decode cX8_readTown 51 = .ok (.iload_n 1, 1) := by decide +kernel
theorem dX8_readTown_52 : decode cX8_readTown 52 = .ok (.invokestatic 53, 3) := by decide +kernel
theorem dX8_readTown_55 : decode cX8_readTown 55 = .ok (.aload_n 0, 1) := by decide +kernel
theorem dX8_readTown_56 : decode cX8_readTown 56 = .ok (.iconst 0, 1) := by decide +kernel
theorem dX8_readTown_57 : decode cX8_readTown 57 = .ok (.iload_n 1, 1) := by decide +kernel
theorem dX8_readTown_58 : decode cX8_readTown 58 = .ok (.iconst 1, 1) := by decide +kernel
theorem dX8_readTown_59 : decode cX8_readTown 59 = .ok (.isub, 1) := by decide +kernel
theorem dX8_readTown_60 : decode cX8_readTown 60 = .ok (.invokevirtual 110, 3) := by decide +kernel
theorem dX8_readTown_63 : decode cX8_readTown 63 = .ok (.istore_n 2, 1) := by decide +kernel
theorem dX8_readTown_64 : decode cX8_readTown 64 = .ok (.iload_n 2, 1) := by decide +kernel
theorem dX8_readTown_65 : decode cX8_readTown 65 = .ok (.sipush (-999), 3) := by decide +kernel
theorem dX8_readTown_68 : decode cX8_readTown 68 = .ok (.if_icmp .ne 5, 3) := by decide +kernel
theorem dX8_readTown_71 : decode cX8_readTown 71 = .ok (.iconst 0, 1) := by decide +kernel
theorem dX8_readTown_72 : decode cX8_readTown 72 = .ok (.ireturn, 1) := by decide +kernel
theorem dX8_readTown_73 : decode cX8_readTown 73 = .ok (.aload_n 0, 1) := by decide +kernel
theorem dX8_readTown_74 : decode cX8_readTown 74 = .ok (.iconst 0, 1) := by decide +kernel
theorem dX8_readTown_75 : decode cX8_readTown 75 = .ok (.iload_n 1, 1) := by decide +kernel
theorem dX8_readTown_76 : decode cX8_readTown 76 = .ok (.iconst 1, 1) := by decide +kernel
theorem dX8_readTown_77 : decode cX8_readTown 77 = .ok (.isub, 1) := by decide +kernel
theorem dX8_readTown_78 : decode cX8_readTown 78 = .ok (.invokevirtual 110, 3) := by decide +kernel
theorem dX8_readTown_81 : decode cX8_readTown 81 = .ok (.istore_n 3, 1) := by decide +kernel
theorem dX8_readTown_82 : decode cX8_readTown 82 = .ok (.iload_n 3, 1) := by decide +kernel
theorem dX8_readTown_83 : decode cX8_readTown 83 = .ok (.iload_n 2, 1) := by decide +kernel
theorem dX8_readTown_84 : decode cX8_readTown 84 = .ok (.if_icmp .ne 15, 3) := by decide +kernel
theorem dX8_readTown_87 : decode cX8_readTown 87 = .ok (.aload_n 0, 1) := by decide +kernel
theorem dX8_readTown_88 : decode cX8_readTown 88 = .ok (.dup, 1) := by decide +kernel
theorem dX8_readTown_89 : decode cX8_readTown 89 = .ok (.getfield 107, 3) := by decide +kernel
theorem dX8_readTown_92 : decode cX8_readTown 92 = .ok (.iconst 1, 1) := by decide +kernel
theorem dX8_readTown_93 : decode cX8_readTown 93 = .ok (.isub, 1) := by decide +kernel
theorem dX8_readTown_94 : decode cX8_readTown 94 = .ok (.putfield 107, 3) := by decide +kernel
theorem dX8_readTown_97 : decode cX8_readTown 97 = .ok (.iconst 0, 1) := by decide +kernel
theorem dX8_readTown_98 : decode cX8_readTown 98 = .ok (.ireturn, 1) := by decide +kernel
theorem dX8_readTown_99 : decode cX8_readTown 99 = .ok (.aload_n 0, 1) := by decide +kernel
theorem dX8_readTown_100 : decode cX8_readTown 100 = .ok (.getfield 13, 3) := by decide +kernel
theorem dX8_readTown_103 : decode cX8_readTown 103 = .ok (.iconst 2, 1) := by decide +kernel
theorem dX8_readTown_104 : decode cX8_readTown 104 = .ok (.iload_n 2, 1) := by decide +kernel
theorem dX8_readTown_105 : decode cX8_readTown 105 = .ok (.iastore, 1) := by decide +kernel
theorem dX8_readTown_106 : decode cX8_readTown 106 = .ok (.aload_n 0, 1) := by decide +kernel
theorem dX8_readTown_107 : decode cX8_readTown 107 = .ok (.getfield 13, 3) := by decide +kernel
theorem dX8_readTown_110 : decode cX8_readTown 110 = .ok (.iconst 3, 1) := by decide +kernel
theorem dX8_readTown_111 : decode cX8_readTown 111 = .ok (.iload_n 3, 1) := by decide +kernel
theorem dX8_readTown_112 : decode cX8_readTown 112 = .ok (.iastore, 1) := by decide +kernel
theorem dX8_readTown_113 : decode cX8_readTown 113 = .ok (.iload_n 3, 1) := by decide +kernel
theorem dX8_readTown_114 : decode cX8_readTown 114 = .ok (.sipush (-999), 3) := by decide +kernel
theorem dX8_readTown_117 : decode cX8_readTown 117 = .ok (.if_icmp .eq 7, 3) := by decide +kernel
theorem dX8_readTown_120 : decode cX8_readTown 120 = .ok (.iconst 1, 1) := by decide +kernel
theorem dX8_readTown_121 : decode cX8_readTown 121 = .ok (.goto 4, 3) := by decide +kernel
theorem dX8_readTown_124 : decode cX8_readTown 124 = .ok (.iconst 0, 1) := by decide +kernel
theorem dX8_readTown_125 : decode cX8_readTown 125 = .ok (.istore 4, 2) := by decide +kernel
theorem dX8_readTown_127 : decode cX8_readTown 127 = .ok (.iload 4, 2) := by decide +kernel
theorem dX8_readTown_129 : decode cX8_readTown 129 = .ok (.ifCond .eq 86, 3) := by decide +kernel
theorem dX8_readTown_132 : decode cX8_readTown 132 = .ok (.aload_n 0, 1) := by decide +kernel
theorem dX8_readTown_133 : decode cX8_readTown 133 = .ok (.getfield 107, 3) := by decide +kernel
theorem dX8_readTown_136 : decode cX8_readTown 136 = .ok (.aload_n 0, 1) := by decide +kernel
theorem dX8_readTown_137 : decode cX8_readTown 137 = .ok (.getfield 100, 3) := by decide +kernel
theorem dX8_readTown_140 : decode cX8_readTown 140 = .ok (.if_icmp .ge 75, 3) := by decide +kernel
theorem dX8_readTown_143 : decode cX8_readTown 143 = .ok (.aload_n 0, 1) := by decide +kernel
theorem dX8_readTown_144 : decode cX8_readTown 144 = .ok (.getfield 7, 3) := by decide +kernel
theorem dX8_readTown_147 : decode cX8_readTown 147 = .ok (.aload_n 0, 1) := by decide +kernel
theorem dX8_readTown_148 : decode cX8_readTown 148 = .ok (.getfield 107, 3) := by decide +kernel
theorem dX8_readTown_151 : decode cX8_readTown 151 = .ok (.iaload, 1) := by decide +kernel
theorem dX8_readTown_152 : decode cX8_readTown 152 = .ok (.bipush 115, 2) := by decide +kernel
theorem dX8_readTown_154 : decode cX8_readTown 154 = .ok (.if_icmp .ne 34, 3) := by decide +kernel
theorem dX8_readTown_157 : decode cX8_readTown 157 = .ok (.aload_n 0, 1) := by decide +kernel
theorem dX8_readTown_158 : decode cX8_readTown 158 = .ok (.getfield 13, 3) := by decide +kernel
theorem dX8_readTown_161 : decode cX8_readTown 161 = .ok (.iconst 1, 1) := by decide +kernel
theorem dX8_readTown_162 : decode cX8_readTown 162 = .ok (.iaload, 1) := by decide +kernel
theorem dX8_readTown_163 : decode cX8_readTown 163 = .ok (.bipush 20, 2) := by decide +kernel
theorem dX8_readTown_165 : decode cX8_readTown 165 = .ok (.if_icmp .ge 23, 3) := by decide +kernel
theorem dX8_readTown_168 : decode cX8_readTown 168 = .ok (.iconst 2, 1) := by decide +kernel
theorem dX8_readTown_169 : decode cX8_readTown 169 = .ok (.aload_n 0, 1) := by decide +kernel
theorem dX8_readTown_170 : decode cX8_readTown 170 = .ok (.getfield 13, 3) := by decide +kernel
theorem dX8_readTown_173 : decode cX8_readTown 173 = .ok (.iconst 1, 1) := by decide +kernel
theorem dX8_readTown_174 : decode cX8_readTown 174 = .ok (.iaload, 1) := by decide +kernel
theorem dX8_readTown_175 : decode cX8_readTown 175 = .ok (.imul, 1) := by decide +kernel
theorem dX8_readTown_176 : decode cX8_readTown 176 = .ok (.iload_n 1, 1) := by decide +kernel
theorem dX8_readTown_177 : decode cX8_readTown 177 = .ok (.iload_n 1, 1) := by decide +kernel
theorem dX8_readTown_178 : decode cX8_readTown 178 = .ok (.iconst 1, 1) := by decide +kernel
theorem dX8_readTown_179 : decode cX8_readTown 179 = .ok (.isub, 1) := by decide +kernel
theorem dX8_readTown_180 : decode cX8_readTown 180 = .ok (.imul, 1) := by decide +kernel
theorem dX8_readTown_181 : decode cX8_readTown 181 = .ok (.if_icmp .ge 7, 3) := by decide +kernel
theorem dX8_readTown_184 : decode cX8_readTown 184 = .ok (.iconst 1, 1) := by decide +kernel
theorem dX8_readTown_185 : decode cX8_readTown 185 = .ok (.goto 4, 3) := by decide +kernel
theorem dX8_readTown_188 : decode cX8_readTown 188 = .ok (.iconst 0, 1) := by decide +kernel
theorem dX8_readTown_189 : decode cX8_readTown 189 = .ok (.istore 4, 2) := by decide +kernel
theorem dX8_readTown_191 : decode cX8_readTown 191 = .ok (.iload 4, 2) := by decide +kernel
theorem dX8_readTown_193 : decode cX8_readTown 193 = .ok (.ifCond .eq (-66), 3) := by decide +kernel
theorem dX8_readTown_196 : decode cX8_readTown 196 = .ok (.aload_n 0, 1) := by decide +kernel
theorem dX8_readTown_197 : decode cX8_readTown 197 = .ok (.dup, 1) := by decide +kernel
theorem dX8_readTown_198 : decode cX8_readTown 198 = .ok (.getfield 107, 3) := by decide +kernel
theorem dX8_readTown_201 : decode cX8_readTown 201 = .ok (.iconst 1, 1) := by decide +kernel
theorem dX8_readTown_202 : decode cX8_readTown 202 = .ok (.iadd, 1) := by decide +kernel
theorem dX8_readTown_203 : decode cX8_readTown 203 = .ok (.putfield 107, 3) := by decide +kernel
theorem dX8_readTown_206 : decode cX8_readTown 206 = .ok (.aload_n 0, 1) := by decide +kernel
theorem dX8_readTown_207 : decode cX8_readTown 207 = .ok (.invokevirtual 126, 3) := by decide +kernel
theorem dX8_readTown_210 : decode cX8_readTown 210 = .ok (.istore 4, 2) := by decide +kernel
theorem dX8_readTown_212 : decode cX8_readTown 212 = .ok (.goto (-85), 3) := by decide +kernel
theorem dX8_readTown_215 : decode cX8_readTown 215 = .ok (.iload 4, 2) := by decide +kernel
theorem dX8_readTown_217 : decode cX8_readTown 217 = .ok (.ireturn, 1) := by decide +kernel
theorem dX8_readWord_0 : decode cX8_readWord 0 = .ok (.aload_n 0, 1) := by decide +kernel
theorem dX8_readWord_1 : decode cX8_readWord 1 = .ok (.iconst 0, 1) := by decide +kernel
theorem dX8_readWord_2 : decode cX8_readWord 2 = .ok (.putfield 130, 3) := by decide +kernel
theorem dX8_readWord_5 : decode cX8_readWord 5 = .ok (.aload_n 0, 1) := by decide +kernel
theorem dX8_readWord_6 : decode cX8_readWord 6 = .ok (.getfield 130, 3) := by decide +kernel
theorem dX8_readWord_9 : decode cX8_readWord 9 = .ok (.iconst 5, 1) := by decide +kernel
theorem dX8_readWord_10 : decode cX8_readWord 10 = .ok (.if_icmp .ge 50, 3) := by decide +kernel
theorem dX8_readWord_13 : decode cX8_readWord 13 = .ok (.aload_n 0, 1) := by decide +kernel
theorem dX8_readWord_14 : decode cX8_readWord 14 = .ok (.getfield 107, 3) := by decide +kernel
theorem dX8_readWord_17 : decode cX8_readWord 17 = .ok (.aload_n 0, 1) := by decide +kernel
theorem dX8_readWord_18 : decode cX8_readWord 18 = .ok (.getfield 100, 3) := by decide +kernel
theorem dX8_readWord_21 : decode cX8_readWord 21 = .ok (.if_icmp .eq 26, 3) := by decide +kernel
theorem dX8_readWord_24 : decode cX8_readWord 24 = .ok (.aload_n 0, 1) := by decide +kernel
theorem dX8_readWord_25 : decode cX8_readWord 25 = .ok (.getfield 32, 3) := by decide +kernel
theorem dX8_readWord_28 : decode cX8_readWord 28 = .ok (.iconst 5, 1) := by decide +kernel
theorem dX8_readWord_29 : decode cX8_readWord 29 = .ok (.aload_n 0, 1) := by decide +kernel
theorem dX8_readWord_30 : decode cX8_readWord 30 = .ok (.getfield 130, 3) := by decide +kernel
theorem dX8_readWord_33 : decode cX8_readWord 33 = .ok (.imul, 1) := by decide +kernel
theorem dX8_readWord_34 : decode cX8_readWord 34 = .ok (.iaload, 1) := by decide +kernel
theorem dX8_readWord_35 : decode cX8_readWord 35 = .ok (.aload_n 0, 1) := by decide +kernel
theorem dX8_readWord_36 : decode cX8_readWord 36 = .ok (.getfield 7, 3) := by decide +kernel
theorem dX8_readWord_39 : decode cX8_readWord 39 = .ok (.aload_n 0, 1) := by decide +kernel
theorem dX8_readWord_40 : decode cX8_readWord 40 = .ok (.getfield 107, 3) := by decide +kernel
theorem dX8_readWord_43 : decode cX8_readWord 43 = .ok (.iaload, 1) := by decide +kernel
theorem dX8_readWord_44 : decode cX8_readWord 44 = .ok (.if_icmp .eq 16, 3) := by decide +kernel
theorem dX8_readWord_47 : decode cX8_readWord 47 = .ok (.aload_n 0, 1) := by decide +kernel
theorem dX8_readWord_48 : decode cX8_readWord 48 = .ok (.dup, 1) := by decide +kernel
theorem dX8_readWord_49 : decode cX8_readWord 49 = .ok (.getfield 130, 3) := by decide +kernel
theorem dX8_readWord_52 : decode cX8_readWord 52 = .ok (.iconst 1, 1) := by decide +kernel
theorem dX8_readWord_53 : decode cX8_readWord 53 = .ok (.iadd, 1) := by decide +kernel
theorem dX8_readWord_54 : decode cX8_readWord 54 = .ok (.putfield 130, 3) := by decide +kernel
theorem dX8_readWord_57 : decode cX8_readWord 57 = .ok (.goto (-52), 3) := by decide +kernel
theorem dX8_readWord_60 : decode cX8_readWord 60 = .ok (.aload_n 0, 1) := by decide +kernel
theorem dX8_readWord_61 : decode cX8_readWord 61 = .ok (.getfield 130, 3) := by decide +kernel
theorem dX8_readWord_64 : decode cX8_readWord 64 = .ok (.iconst 5, 1) := by decide +kernel
theorem dX8_readWord_65 : decode cX8_readWord 65 = .ok (.if_icmp .ne 5, 3) := by decide +kernel
theorem dX8_readWord_68 : decode cX8_readWord 68 = .ok (.iconst 0, 1) := by decide +kernel
theorem dX8_readWord_69 : decode cX8_readWord 69 = .ok (.ireturn, 1) := by decide +kernel
theorem dX8_readWord_70 : decode cX8_readWord 70 = .ok (.iconst 0, 1) := by decide +kernel
theorem dX8_readWord_71 : decode cX8_readWord 71 = .ok (.istore_n 1, 1) := by decide +kernel
theorem dX8_readWord_72 : decode cX8_readWord 72 = .ok (.iload_n 1, 1) := by decide +kernel
theorem dX8_readWord_73 : decode cX8_readWord 73 = .ok (.iconst 5, 1) := by decide +kernel
theorem dX8_readWord_74 : decode cX8_readWord 74 = .ok (.if_icmp .ge 73, 3) := by decide +kernel
theorem dX8_readWord_77 : decode cX8_readWord 77 = .ok (.aload_n 0, 1) := by decide +kernel
theorem dX8_readWord_78 : decode cX8_readWord 78 = .ok (.getfield 32, 3) := by decide +kernel
theorem dX8_readWord_81 : decode cX8_readWord 81 = .ok (.iconst 5, 1) := by decide +kernel
theorem dX8_readWord_82 : decode cX8_readWord 82 = .ok (.aload_n 0, 1) := by decide +kernel
theorem dX8_readWord_83 : decode cX8_readWord 83 = .ok (.getfield 130, 3) := by decide +kernel
theorem dX8_readWord_86 : decode cX8_readWord 86 = .ok (.imul, 1) := by decide +kernel
theorem dX8_readWord_87 : decode cX8_readWord 87 = .ok (.iload_n 1, 1) := by decide +kernel
theorem dX8_readWord_88 : decode cX8_readWord 88 = .ok (.iadd, 1) := by decide +kernel
theorem dX8_readWord_89 : decode cX8_readWord 89 = .ok (.iaload, 1) := by decide +kernel
theorem dX8_readWord_90 : decode cX8_readWord 90 = .ok (.ifCond .eq 57, 3) := by decide +kernel
theorem dX8_readWord_93 : decode cX8_readWord 93 = .ok (.aload_n 0, 1) := by decide +kernel
theorem dX8_readWord_94 : decode cX8_readWord 94 = .ok (.getfield 107, 3) := by decide +kernel
theorem dX8_readWord_97 : decode cX8_readWord 97 = .ok (.aload_n 0, 1) := by decide +kernel
theorem dX8_readWord_98 : decode cX8_readWord 98 = .ok (.getfield 100, 3) := by decide +kernel
theorem dX8_readWord_101 : decode cX8_readWord 101 = .ok (.if_icmp .eq 28, 3) := by decide +kernel
theorem dX8_readWord_104 : decode cX8_readWord 104 = .ok (.aload_n 0, 1) := by decide +kernel
theorem dX8_readWord_105 : decode cX8_readWord 105 = .ok (.getfield 7, 3) := by decide +kernel
theorem dX8_readWord_108 : decode cX8_readWord 108 = .ok (.aload_n 0, 1) := by decide +kernel
theorem dX8_readWord_109 : decode cX8_readWord 109 = .ok (.getfield 107, 3) := by decide +kernel
theorem dX8_readWord_112 : decode cX8_readWord 112 = .ok (.iaload, 1) := by decide +kernel
theorem dX8_readWord_113 : decode cX8_readWord 113 = .ok (.aload_n 0, 1) := by decide +kernel
theorem dX8_readWord_114 : decode cX8_readWord 114 = .ok (.getfield 32, 3) := by decide +kernel
theorem dX8_readWord_117 : decode cX8_readWord 117 = .ok (.iconst 5, 1) := by decide +kernel
theorem dX8_readWord_118 : decode cX8_readWord 118 = .ok (.aload_n 0, 1) := by decide +kernel
theorem dX8_readWord_119 : decode cX8_readWord 119 = .ok (.getfield 130, 3) := by decide +kernel
theorem dX8_readWord_122 : decode cX8_readWord 122 = .ok (.imul, 1) := by decide +kernel
theorem dX8_readWord_123 : decode cX8_readWord 123 = .ok (.iload_n 1, 1) := by decide +kernel
theorem dX8_readWord_124 : decode cX8_readWord 124 = .ok (.iadd, 1) := by decide +kernel
theorem dX8_readWord_125 : decode cX8_readWord 125 = .ok (.iaload, 1) := by decide +kernel
theorem dX8_readWord_126 : decode cX8_readWord 126 = .ok (.if_icmp .eq 5, 3) := by decide +kernel
theorem dX8_readWord_129 : decode cX8_readWord 129 = .ok (.iconst 0, 1) := by decide +kernel
theorem dX8_readWord_130 : decode cX8_readWord 130 = .ok (.ireturn, 1) := by decide +kernel
theorem dX8_readWord_131 : decode cX8_readWord 131 = .ok (.aload_n 0, 1) := by decide +kernel
theorem dX8_readWord_132 : decode cX8_readWord 132 = .ok (.dup, 1) := by decide +kernel
theorem dX8_readWord_133 : decode cX8_readWord 133 = .ok (.getfield 107, 3) := by decide +kernel
theorem dX8_readWord_136 : decode cX8_readWord 136 = .ok (.iconst 1, 1) := by decide +kernel
theorem dX8_readWord_137 : decode cX8_readWord 137 = .ok (.iadd, 1) := by decide +kernel
theorem dX8_readWord_138 : decode cX8_readWord 138 = .ok (.putfield 107, 3) := by decide +kernel
theorem dX8_readWord_141 : decode cX8_readWord 141 = .ok (.iinc 1 1, 3) := by decide +kernel
theorem dX8_readWord_144 : decode cX8_readWord 144 = .ok (.goto (-72), 3) := by decide +kernel
theorem dX8_readWord_147 : decode cX8_readWord 147 = .ok (.iconst 1, 1) := by decide +kernel
theorem dX8_readWord_148 : decode cX8_readWord 148 = .ok (.ireturn, 1) := by decide +kernel
theorem dX8_readBlank_0 : decode cX8_readBlank 0 = .ok (.aload_n 0, 1) := by decide +kernel
theorem dX8_readBlank_1 : decode cX8_readBlank 1 = .ok (.getfield 107, 3) := by decide +kernel
theorem dX8_readBlank_4 : decode cX8_readBlank 4 = .ok (.aload_n 0, 1) := by decide +kernel
theorem dX8_readBlank_5 : decode cX8_readBlank 5 = .ok (.getfield 100, 3) := by decide +kernel
theorem dX8_readBlank_8 : decode cX8_readBlank 8 = .ok (.if_icmp .eq 17, 3) := by decide +kernel
theorem dX8_readBlank_11 : decode cX8_readBlank 11 = .ok (.aload_n 0, 1) := by decide +kernel
theorem dX8_readBlank_12 : decode cX8_readBlank 12 = .ok (.getfield 7, 3) := by decide +kernel
theorem dX8_readBlank_15 : decode cX8_readBlank 15 = .ok (.aload_n 0, 1) := by decide +kernel
theorem dX8_readBlank_16 : decode cX8_readBlank 16 = .ok (.getfield 107, 3) := by decide +kernel
theorem dX8_readBlank_19 : decode cX8_readBlank 19 = .ok (.iaload, 1) := by decide +kernel
theorem dX8_readBlank_20 : decode cX8_readBlank 20 = .ok (.bipush 32, 2) := by decide +kernel
theorem dX8_readBlank_22 : decode cX8_readBlank 22 = .ok (.if_icmp .eq 5, 3) := by decide +kernel
theorem dX8_readBlank_25 : decode cX8_readBlank 25 = .ok (.iconst 0, 1) := by decide +kernel
theorem dX8_readBlank_26 : decode cX8_readBlank 26 = .ok (.ireturn, 1) := by decide +kernel
theorem dX8_readBlank_27 : decode cX8_readBlank 27 = .ok (.aload_n 0, 1) := by decide +kernel
theorem dX8_readBlank_28 : decode cX8_readBlank 28 = .ok (.dup, 1) := by decide +kernel
theorem dX8_readBlank_29 : decode cX8_readBlank 29 = .ok (.getfield 107, 3) := by decide +kernel
theorem dX8_readBlank_32 : decode cX8_readBlank 32 = .ok (.iconst 1, 1) := by decide +kernel
theorem dX8_readBlank_33 : decode cX8_readBlank 33 = .ok (.iadd, 1) := by decide +kernel
theorem dX8_readBlank_34 : decode cX8_readBlank 34 = .ok (.putfield 107, 3) := by decide +kernel
theorem dX8_readBlank_37 : decode cX8_readBlank 37 = .ok (.iconst 1, 1) := by decide +kernel
theorem dX8_readBlank_38 : decode cX8_readBlank 38 = .ok (.ireturn, 1) := by decide +kernel
theorem dX8_readNumber_0 : decode cX8_readNumber 0 = .ok (.aload_n 0, 1) := by decide +kernel
theorem dX8_readNumber_1 : decode cX8_readNumber 1 = .ok (.iconst 0, 1) := by decide +kernel
theorem dX8_readNumber_2 : decode cX8_readNumber 2 = .ok (.bipush 9, 2) := by decide +kernel
theorem dX8_readNumber_4 : decode cX8_readNumber 4 = .ok (.invokevirtual 110, 3) := by decide +kernel
theorem dX8_readNumber_7 : decode cX8_readNumber 7 = .ok (.istore_n 1, 1) := by decide +kernel
theorem dX8_readNumber_8 : decode cX8_readNumber 8 = .ok (.iload_n 1, 1) := by decide +kernel
theorem dX8_readNumber_9 : decode cX8_readNumber 9 = .ok (.sipush (-999), 3) := by decide +kernel
theorem dX8_readNumber_12 : decode cX8_readNumber 12 = .ok (.if_icmp .ne 9, 3) := by decide +kernel
theorem dX8_readNumber_15 : decode cX8_readNumber 15 = .ok (.sipush (-999), 3) := by decide +kernel
theorem dX8_readNumber_18 : decode cX8_readNumber 18 = .ok (.goto 10, 3) := by decide +kernel
theorem dX8_readNumber_21 : decode cX8_readNumber 21 = .ok (.aload_n 0, 1) := by decide +kernel
theorem dX8_readNumber_22 : decode cX8_readNumber 22 = .ok (.iconst 0, 1) := by decide +kernel
theorem dX8_readNumber_23 : decode cX8_readNumber 23 = .ok (.bipush 9, 2) := by decide +kernel
theorem dX8_readNumber_25 : decode cX8_readNumber 25 = .ok (.invokevirtual 110, 3) := by decide +kernel
theorem dX8_readNumber_28 : decode cX8_readNumber 28 = .ok (.istore_n 2, 1) := by decide +kernel
theorem dX8_readNumber_29 : decode cX8_readNumber 29 = .ok (.iload_n 2, 1) := by decide +kernel
theorem dX8_readNumber_30 : decode cX8_readNumber 30 = .ok (.sipush (-999), 3) := by decide +kernel
theorem dX8_readNumber_33 : decode cX8_readNumber 33 = .ok (.if_icmp .ne 7, 3) := by decide +kernel
theorem dX8_readNumber_36 : decode cX8_readNumber 36 = .ok (.iload_n 1, 1) := by decide +kernel
theorem dX8_readNumber_37 : decode cX8_readNumber 37 = .ok (.goto 9, 3) := by decide +kernel
theorem dX8_readNumber_40 : decode cX8_readNumber 40 = .ok (.bipush 10, 2) := by decide +kernel
theorem dX8_readNumber_42 : decode cX8_readNumber 42 = .ok (.iload_n 1, 1) := by decide +kernel
theorem dX8_readNumber_43 : decode cX8_readNumber 43 = .ok (.imul, 1) := by decide +kernel
theorem dX8_readNumber_44 : decode cX8_readNumber 44 = .ok (.iload_n 2, 1) := by decide +kernel
theorem dX8_readNumber_45 : decode cX8_readNumber 45 = .ok (.iadd, 1) := by decide +kernel
theorem dX8_readNumber_46 : decode cX8_readNumber 46 = .ok (.ireturn, 1) := by decide +kernel
theorem dX8_readCommand_0 : decode cX8_readCommand 0 = .ok (.aload_n 0, 1) := by decide +kernel
theorem dX8_readCommand_1 : decode cX8_readCommand 1 = .ok (.invokevirtual 133, 3) := by decide +kernel
theorem dX8_readCommand_4 : decode cX8_readCommand 4 = .ok (.ifCond .ne 5, 3) := by decide +kernel
theorem dX8_readCommand_7 : decode cX8_readCommand 7 = .ok (.iconst 0, 1) := by decide +kernel
theorem dX8_readCommand_8 : decode cX8_readCommand 8 = .ok (.ireturn, 1) := by decide +kernel
theorem dX8_readCommand_9 : decode cX8_readCommand 9 = .ok (.aload_n 0, 1) := by decide +kernel
theorem dX8_readCommand_10 : decode cX8_readCommand 10 = .ok (.getfield 130, 3) := by decide +kernel
theorem dX8_readCommand_13 : decode cX8_readCommand 13 = .ok (.iconst 4, 1) := by decide +kernel
theorem dX8_readCommand_14 : decode cX8_readCommand 14 = .ok (.if_icmp .ne 5, 3) := by decide +kernel
theorem dX8_readCommand_17 : decode cX8_readCommand 17 = .ok (.iconst 1, 1) := by decide +kernel
theorem dX8_readCommand_18 : decode cX8_readCommand 18 = .ok (.ireturn, 1) := by decide +kernel
theorem dX8_readCommand_19 : decode cX8_readCommand 19 = .ok (.aload_n 0, 1) := by decide +kernel
theorem dX8_readCommand_20 : decode cX8_readCommand 20 = .ok (.aload_n 0, 1) := by decide +kernel
theorem dX8_readCommand_21 : decode cX8_readCommand 21 = .ok (.invokevirtual 136, 3) := by decide +kernel
theorem dX8_readCommand_24 : decode cX8_readCommand 24 = .ok (.ifCond .eq 10, 3) := by decide +kernel
theorem dX8_readCommand_27 : decode cX8_readCommand 27 = .ok (.aload_n 0, 1) := by decide +kernel
theorem dX8_readCommand_28 : decode cX8_readCommand 28 = .ok (.invokevirtual 139, 3) := by decide +kernel
theorem dX8_readCommand_31 : decode cX8_readCommand 31 = .ok (.goto 6, 3) := by decide +kernel
theorem dX8_readCommand_34 : decode cX8_readCommand 34 = .ok (.sipush (-999), 3) := by decide +kernel
theorem dX8_readCommand_37 : decode cX8_readCommand 37 = .ok (.putfield 143, 3) := by decide +kernel
theorem dX8_readCommand_40 : decode cX8_readCommand 40 = .ok (.aload_n 0, 1) := by decide +kernel
theorem dX8_readCommand_41 : decode cX8_readCommand 41 = .ok (.getfield 143, 3) := by decide +kernel
theorem dX8_readCommand_44 : decode cX8_readCommand 44 = .ok (.sipush (-999), 3) := by decide +kernel
theorem dX8_readCommand_47 : decode cX8_readCommand 47 = .ok (.if_icmp .eq 11, 3) := by decide +kernel
theorem dX8_readCommand_50 : decode cX8_readCommand 50 = .ok (.aload_n 0, 1) := by decide +kernel
theorem dX8_readCommand_51 : decode cX8_readCommand 51 = .ok (.getfield 130, 3) := by decide +kernel
theorem dX8_readCommand_54 : decode cX8_readCommand 54 = .ok (.iconst 2, 1) := by decide +kernel
theorem dX8_readCommand_55 : decode cX8_readCommand 55 = .ok (.if_icmp .ge 19, 3) := by decide +kernel
theorem dX8_readCommand_58 : decode cX8_readCommand 58 = .ok (.aload_n 0, 1) := by decide +kernel
theorem dX8_readCommand_59 : decode cX8_readCommand 59 = .ok (.getfield 143, 3) := by decide +kernel
theorem dX8_readCommand_62 : decode cX8_readCommand 62 = .ok (.sipush (-999), 3) := by decide +kernel
theorem dX8_readCommand_65 : decode cX8_readCommand 65 = .ok (.if_icmp .eq 7, 3) := by decide +kernel
theorem dX8_readCommand_68 : decode cX8_readCommand 68 = .ok (.iconst 1, 1) := by decide +kernel
theorem dX8_readCommand_69 : decode cX8_readCommand 69 = .ok (.goto 4, 3) := by decide +kernel
theorem dX8_readCommand_72 : decode cX8_readCommand 72 = .ok (.iconst 0, 1) := by decide +kernel
theorem dX8_readCommand_73 : decode cX8_readCommand 73 = .ok (.ireturn, 1) := by decide +kernel
theorem dX8_readCommand_74 : decode cX8_readCommand 74 = .ok (.aload_n 0, 1) := by decide +kernel
theorem dX8_readCommand_75 : decode cX8_readCommand 75 = .ok (.aload_n 0, 1) := by decide +kernel
theorem dX8_readCommand_76 : decode cX8_readCommand 76 = .ok (.invokevirtual 136, 3) := by decide +kernel
theorem dX8_readCommand_79 : decode cX8_readCommand 79 = .ok (.ifCond .eq 10, 3) := by decide +kernel
theorem dX8_readCommand_82 : decode cX8_readCommand 82 = .ok (.aload_n 0, 1) := by decide +kernel
theorem dX8_readCommand_83 : decode cX8_readCommand 83 = .ok (.invokevirtual 139, 3) := by decide +kernel
theorem dX8_readCommand_86 : decode cX8_readCommand 86 = .ok (.goto 6, 3) := by decide +kernel
theorem dX8_readCommand_89 : decode cX8_readCommand 89 = .ok (.sipush (-999), 3) := by decide +kernel
theorem dX8_readCommand_92 : decode cX8_readCommand 92 = .ok (.putfield 146, 3) := by decide +kernel
theorem dX8_readCommand_95 : decode cX8_readCommand 95 = .ok (.aload_n 0, 1) := by decide +kernel
theorem dX8_readCommand_96 : decode cX8_readCommand 96 = .ok (.getfield 146, 3) := by decide +kernel
theorem dX8_readCommand_99 : decode cX8_readCommand 99 = .ok (.sipush (-999), 3) := by decide +kernel
theorem dX8_readCommand_102 : decode cX8_readCommand 102 = .ok (.if_icmp .eq 7, 3) := by decide +kernel
theorem dX8_readCommand_105 : decode cX8_readCommand 105 = .ok (.iconst 1, 1) := by decide +kernel
theorem dX8_readCommand_106 : decode cX8_readCommand 106 = .ok (.goto 4, 3) := by decide +kernel
theorem dX8_readCommand_109 : decode cX8_readCommand 109 = .ok (.iconst 0, 1) := by decide +kernel
theorem dX8_readCommand_110 : decode cX8_readCommand 110 = .ok (.ireturn, 1) := by decide +kernel
theorem dX8_readPlan_0 : decode cX8_readPlan 0 = .ok (.aload_n 0, 1) := by decide +kernel
theorem dX8_readPlan_1 : decode cX8_readPlan 1 = .ok (.iconst 0, 1) := by decide +kernel
theorem dX8_readPlan_2 : decode cX8_readPlan 2 = .ok (.putfield 107, 3) := by decide +kernel
theorem dX8_readPlan_5 : decode cX8_readPlan 5 = .ok (.iconst 1, 1) := by decide +kernel
theorem dX8_readPlan_6 : decode cX8_readPlan 6 = .ok (.istore_n 1, 1) := by decide +kernel
theorem dX8_readPlan_7 : decode cX8_readPlan 7 = .ok (.aload_n 0, 1) := by decide +kernel
theorem dX8_readPlan_8 : decode cX8_readPlan 8 = .ok (.getfield 100, 3) := by decide +kernel
theorem dX8_readPlan_11 : decode cX8_readPlan 11 = .ok (.ifCond .le 7, 3) := by decide +kernel
theorem dX8_readPlan_14 : decode cX8_readPlan 14 = .ok (.iconst 1, 1) := by decide +kernel
theorem dX8_readPlan_15 : decode cX8_readPlan 15 = .ok (.goto 4, 3) := by decide +kernel
theorem dX8_readPlan_18 : decode cX8_readPlan 18 = .ok (.iconst 0, 1) := by decide +kernel
theorem dX8_readPlan_19 : decode cX8_readPlan 19 = .ok (.istore_n 2, 1) := by decide +kernel
theorem dX8_readPlan_20 : decode cX8_readPlan 20 = .ok (.iload_n 1, 1) := by decide +kernel
theorem dX8_readPlan_21 : decode cX8_readPlan 21 = .ok (.ifCond .eq 57, 3) := by decide +kernel
theorem dX8_readPlan_24 : decode cX8_readPlan 24 = .ok (.iload_n 2, 1) := by decide +kernel
theorem dX8_readPlan_25 : decode cX8_readPlan 25 = .ok (.ifCond .eq 53, 3) := by decide +kernel
theorem dX8_readPlan_28 : decode cX8_readPlan 28 = .ok (.aload_n 0, 1) := by decide +kernel
theorem dX8_readPlan_29 : decode cX8_readPlan 29 = .ok (.invokevirtual 149, 3) := by decide +kernel
theorem dX8_readPlan_32 : decode cX8_readPlan 32 = .ok (.istore_n 1, 1) := by decide +kernel
theorem dX8_readPlan_33 : decode cX8_readPlan 33 = .ok (.iload_n 1, 1) := by decide +kernel
theorem dX8_readPlan_34 : decode cX8_readPlan 34 = .ok (.ifCond .eq 18, 3) := by decide +kernel
theorem dX8_readPlan_37 : decode cX8_readPlan 37 = .ok (.aload_n 0, 1) := by decide +kernel
theorem dX8_readPlan_38 : decode cX8_readPlan 38 = .ok (.getfield 107, 3) := by decide +kernel
theorem dX8_readPlan_41 : decode cX8_readPlan 41 = .ok (.aload_n 0, 1) := by decide +kernel
theorem dX8_readPlan_42 : decode cX8_readPlan 42 = .ok (.getfield 100, 3) := by decide +kernel
theorem dX8_readPlan_45 : decode cX8_readPlan 45 = .ok (.if_icmp .ge 7, 3) := by decide +kernel
theorem dX8_readPlan_48 : decode cX8_readPlan 48 = .ok (.iconst 1, 1) := by decide +kernel
theorem dX8_readPlan_49 : decode cX8_readPlan 49 = .ok (.goto 4, 3) := by decide +kernel
theorem dX8_readPlan_52 : decode cX8_readPlan 52 = .ok (.iconst 0, 1) := by decide +kernel
theorem dX8_readPlan_53 : decode cX8_readPlan 53 = .ok (.istore_n 2, 1) := by decide +kernel
theorem dX8_readPlan_54 : decode cX8_readPlan 54 = .ok (.iload_n 1, 1) := by decide +kernel
theorem dX8_readPlan_55 : decode cX8_readPlan 55 = .ok (.ifCond .eq 18, 3) := by decide +kernel
theorem dX8_readPlan_58 : decode cX8_readPlan 58 = .ok (.iload_n 2, 1) := by decide +kernel
theorem dX8_readPlan_59 : decode cX8_readPlan 59 = .ok (.ifCond .eq 10, 3) := by decide +kernel
theorem dX8_readPlan_62 : decode cX8_readPlan 62 = .ok (.aload_n 0, 1) := by decide +kernel
theorem dX8_readPlan_63 : decode cX8_readPlan 63 = .ok (.invokevirtual 136, 3) := by decide +kernel
theorem dX8_readPlan_66 : decode cX8_readPlan 66 = .ok (.ifCond .eq 7, 3) := by decide +kernel
theorem dX8_readPlan_69 : decode cX8_readPlan 69 = .ok (.iconst 1, 1) := by decide +kernel
theorem dX8_readPlan_70 : decode cX8_readPlan 70 = .ok (.goto 4, 3) := by decide +kernel
theorem dX8_readPlan_73 : decode cX8_readPlan 73 = .ok (.iconst 0, 1) := by decide +kernel
theorem dX8_readPlan_74 : decode cX8_readPlan 74 = .ok (.istore_n 1, 1) := by decide +kernel
theorem dX8_readPlan_75 : decode cX8_readPlan 75 = .ok (.goto (-55), 3) := by decide +kernel
theorem dX8_readPlan_78 : decode cX8_readPlan 78 = .ok (.iload_n 1, 1) := by decide +kernel
theorem dX8_readPlan_79 : decode cX8_readPlan 79 = .ok (.ireturn, 1) := by decide +kernel
theorem dX8_errorPosition_0 : decode cX8_errorPosition 0 = .ok (.iload_n 1, 1) := by decide +kernel
theorem dX8_errorPosition_1 : decode cX8_errorPosition 1 = .ok (.ifCond .eq 10, 3) := by decide +kernel
theorem dX8_errorPosition_4 : decode cX8_errorPosition 4 = .ok (.aload_n 0, 1) := by decide +kernel
theorem dX8_errorPosition_5 : decode cX8_errorPosition 5 = .ok (.invokevirtual 152, 3) := by decide +kernel
theorem dX8_errorPosition_8 : decode cX8_errorPosition 8 = .ok (.goto 7, 3) := by decide +kernel
theorem dX8_errorPosition_11 : decode cX8_errorPosition 11 = .ok (.aload_n 0, 1) := by decide +kernel
theorem dX8_errorPosition_12 : decode cX8_errorPosition 12 = .ok (.invokevirtual 155, 3) := by decide +kernel
theorem dX8_errorPosition_15 : decode cX8_errorPosition 15 = .ok (.istore_n 2, 1) := by decide +kernel
theorem dX8_errorPosition_16 : decode cX8_errorPosition 16 = .ok (.iload_n 2, 1) := by decide +kernel
theorem dX8_errorPosition_17 : decode cX8_errorPosition 17 = .ok (.ifCond .eq 9, 3) := by decide +kernel
theorem dX8_errorPosition_20 : decode cX8_errorPosition 20 = .ok (.sipush (-999), 3) := by decide +kernel
theorem dX8_errorPosition_23 : decode cX8_errorPosition 23 = .ok (.goto 7, 3) := by decide +kernel
theorem dX8_errorPosition_26 : decode cX8_errorPosition 26 = .ok (.aload_n 0, 1) := by decide +kernel
theorem dX8_errorPosition_27 : decode cX8_errorPosition 27 = .ok (.getfield 107, 3) := by decide +kernel
theorem dX8_errorPosition_30 : decode cX8_errorPosition 30 = .ok (.ireturn, 1) := by decide +kernel
theorem dX8_forget_0 : decode cX8_forget 0 = .ok (.aload_n 0, 1) := by decide +kernel
theorem dX8_forget_1 : decode cX8_forget 1 = .ok (.iconst 0, 1) := by decide +kernel
theorem dX8_forget_2 : decode cX8_forget 2 = .ok (.putfield 158, 3) := by decide +kernel
theorem dX8_forget_5 : decode cX8_forget 5 = .ok (.return_, 1) := by decide +kernel
theorem dX8_load_0 : decode cX8_load 0 = .ok (.aload_n 0, 1) := by decide +kernel
theorem dX8_load_1 : decode cX8_load 1 = .ok (.aload_n 0, 1) := by decide +kernel
theorem dX8_load_2 : decode cX8_load 2 = .ok (.invokevirtual 155, 3) := by decide +kernel
theorem dX8_load_5 : decode cX8_load 5 = .ok (.ifCond .eq 7, 3) := by decide +kernel
theorem dX8_load_8 : decode cX8_load 8 = .ok (.iconst 0, 1) := by decide +kernel
theorem dX8_load_9 : decode cX8_load 9 = .ok (.goto 4, 3) := by decide +kernel
theorem dX8_load_12 : decode cX8_load 12 = .ok (.iconst 1, 1) := by decide +kernel
theorem dX8_load_13 : decode cX8_load 13 = .ok (.invokevirtual 103, 3) := by decide +kernel
theorem dX8_load_16 : decode cX8_load 16 = .ok (.ifCond .eq 5, 3) := by decide +kernel
theorem dX8_load_19 : decode cX8_load 19 = .ok (.iconst 0, 1) := by decide +kernel
theorem dX8_load_20 : decode cX8_load 20 = .ok (.ireturn, 1) := by decide +kernel
theorem dX8_load_21 : decode cX8_load 21 = .ok (.aload_n 0, 1) := by decide +kernel
theorem dX8_load_22 : decode cX8_load 22 = .ok (.getfield 13, 3) := by decide +kernel
theorem dX8_load_25 : decode cX8_load 25 = .ok (.iconst 0, 1) := by decide +kernel
theorem dX8_load_26 : decode cX8_load 26 = .ok (.aload_n 0, 1) := by decide +kernel
theorem dX8_load_27 : decode cX8_load 27 = .ok (.getfield 16, 3) := by decide +kernel
theorem dX8_load_30 : decode cX8_load 30 = .ok (.iconst 0, 1) := by decide +kernel
theorem dX8_load_31 : decode cX8_load 31 = .ok (.invokestatic 161, 3) := by decide +kernel
theorem dX8_load_34 : decode cX8_load 34 = .ok (.aload_n 0, 1) := by decide +kernel
theorem dX8_load_35 : decode cX8_load 35 = .ok (.invokevirtual 165, 3) := by decide +kernel
theorem dX8_load_38 : decode cX8_load 38 = .ok (.aload_n 0, 1) := by decide +kernel
theorem dX8_load_39 : decode cX8_load 39 = .ok (.getfield 28, 3) := by decide +kernel
theorem dX8_load_42 : decode cX8_load 42 = .ok (.iconst 0, 1) := by decide +kernel
theorem dX8_load_43 : decode cX8_load 43 = .ok (.iconst 0, 1) := by decide +kernel
theorem dX8_load_44 : decode cX8_load 44 = .ok (.bastore, 1) := by decide +kernel
theorem dX8_load_45 : decode cX8_load 45 = .ok (.aload_n 0, 1) := by decide +kernel
theorem dX8_load_46 : decode cX8_load 46 = .ok (.getfield 28, 3) := by decide +kernel
theorem dX8_load_49 : decode cX8_load 49 = .ok (.iconst 1, 1) := by decide +kernel
theorem dX8_load_50 : decode cX8_load 50 = .ok (.iconst 0, 1) := by decide +kernel
theorem dX8_load_51 : decode cX8_load 51 = .ok (.bastore, 1) := by decide +kernel
theorem dX8_load_52 : decode cX8_load 52 = .ok (.aload_n 0, 1) := by decide +kernel
theorem dX8_load_53 : decode cX8_load 53 = .ok (.getfield 16, 3) := by decide +kernel
theorem dX8_load_56 : decode cX8_load 56 = .ok (.iconst 1, 1) := by decide +kernel
theorem dX8_load_57 : decode cX8_load 57 = .ok (.iaload, 1) := by decide +kernel
theorem dX8_load_58 : decode cX8_load 58 = .ok (.ireturn, 1) := by decide +kernel
theorem dX8_about_0 : decode cX8_about 0 = .ok (.aload_n 0, 1) := by decide +kernel
theorem dX8_about_1 : decode cX8_about 1 = .ok (.iload_n 1, 1) := by decide +kernel
theorem dX8_about_2 : decode cX8_about 2 = .ok (.i2l, 1) := by decide +kernel
theorem dX8_about_3 : decode cX8_about 3 = .ok (.lconst 0, 1) := by decide +kernel
theorem dX8_about_4 : decode cX8_about 4 = .ok (.ldc2_w 168, 3) := by decide +kernel
theorem dX8_about_7 : decode cX8_about 7 = .ok (.invokestatic 65, 3) := by decide +kernel
theorem dX8_about_10 : decode cX8_about 10 = .ok (.ifCond .eq 7, 3) := by decide +kernel
theorem dX8_about_13 : decode cX8_about 13 = .ok (.iconst 0, 1) := by decide +kernel
theorem dX8_about_14 : decode cX8_about 14 = .ok (.goto 4, 3) := by decide +kernel
theorem dX8_about_17 : decode cX8_about 17 = .ok (.iconst 1, 1) := by decide +kernel
theorem dX8_about_18 : decode cX8_about 18 = .ok (.invokevirtual 103, 3) := by decide +kernel
theorem dX8_about_21 : decode cX8_about 21 = .ok (.ifCond .eq 5, 3) := by decide +kernel
theorem dX8_about_24 : decode cX8_about 24 = .ok (.iconst 0, 1) := by decide +kernel
theorem dX8_about_25 : decode cX8_about 25 = .ok (.ireturn, 1) := by decide +kernel
theorem dX8_about_26 : decode cX8_about 26 = .ok (.iconst 0, 1) := by decide +kernel
theorem dX8_about_27 : decode cX8_about 27 = .ok (.istore_n 2, 1) := by decide +kernel
theorem dX8_about_28 : decode cX8_about 28 = .ok (.iload_n 1, 1) := by decide +kernel
theorem dX8_about_29 : decode cX8_about 29 = .ok (.tableswitch 145 0 6 #[43, 50, 57, 89, 96, 103, 115], 43) := by decide +kernel
theorem dX8_about_72 : decode cX8_about 72 = .ok (.aload_n 0, 1) := by decide +kernel
theorem dX8_about_73 : decode cX8_about 73 = .ok (.getfield 16, 3) := by decide +kernel
theorem dX8_about_76 : decode cX8_about 76 = .ok (.iconst 0, 1) := by decide +kernel
theorem dX8_about_77 : decode cX8_about 77 = .ok (.iaload, 1) := by decide +kernel
theorem dX8_about_78 : decode cX8_about 78 = .ok (.ireturn, 1) := by decide +kernel
theorem dX8_about_79 : decode cX8_about 79 = .ok (.aload_n 0, 1) := by decide +kernel
theorem dX8_about_80 : decode cX8_about 80 = .ok (.getfield 16, 3) := by decide +kernel
theorem dX8_about_83 : decode cX8_about 83 = .ok (.iconst 1, 1) := by decide +kernel
theorem dX8_about_84 : decode cX8_about 84 = .ok (.iaload, 1) := by decide +kernel
theorem dX8_about_85 : decode cX8_about 85 = .ok (.ireturn, 1) := by decide +kernel
theorem dX8_about_86 : decode cX8_about 86 = .ok (.iconst 0, 1) := by decide +kernel
theorem dX8_about_87 : decode cX8_about 87 = .ok (.istore_n 3, 1) := by decide +kernel
theorem dX8_about_88 : decode cX8_about 88 = .ok (.iload_n 3, 1) := by decide +kernel
theorem dX8_about_89 : decode cX8_about 89 = .ok (.aload_n 0, 1) := by decide +kernel
theorem dX8_about_90 : decode cX8_about 90 = .ok (.getfield 16, 3) := by decide +kernel
theorem dX8_about_93 : decode cX8_about 93 = .ok (.iconst 1, 1) := by decide +kernel
theorem dX8_about_94 : decode cX8_about 94 = .ok (.iaload, 1) := by decide +kernel
theorem dX8_about_95 : decode cX8_about 95 = .ok (.if_icmp .ge 21, 3) := by decide +kernel
theorem dX8_about_98 : decode cX8_about 98 = .ok (.iload_n 2, 1) := by decide +kernel
theorem dX8_about_99 : decode cX8_about 99 = .ok (.aload_n 0, 1) := by decide +kernel
theorem dX8_about_100 : decode cX8_about 100 = .ok (.getfield 16, 3) := by decide +kernel
theorem dX8_about_103 : decode cX8_about 103 = .ok (.bipush 64, 2) := by decide +kernel
theorem dX8_about_105 : decode cX8_about 105 = .ok (.iload_n 3, 1) := by decide +kernel
theorem dX8_about_106 : decode cX8_about 106 = .ok (.iadd, 1) := by decide +kernel
theorem dX8_about_107 : decode cX8_about 107 = .ok (.iaload, 1) := by decide +kernel
theorem dX8_about_108 : decode cX8_about 108 = .ok (.iadd, 1) := by decide +kernel
theorem dX8_about_109 : decode cX8_about 109 = .ok (.istore_n 2, 1) := by decide +kernel
theorem dX8_about_110 : decode cX8_about 110 = .ok (.iinc 3 1, 3) := by decide +kernel
theorem dX8_about_113 : decode cX8_about 113 = .ok (.goto (-25), 3) := by decide +kernel
theorem dX8_about_116 : decode cX8_about 116 = .ok (.iload_n 2, 1) := by decide +kernel
theorem dX8_about_117 : decode cX8_about 117 = .ok (.ireturn, 1) := by decide +kernel
theorem dX8_about_118 : decode cX8_about 118 = .ok (.aload_n 0, 1) := by decide +kernel
theorem dX8_about_119 : decode cX8_about 119 = .ok (.getfield 16, 3) := by decide +kernel
theorem dX8_about_122 : decode cX8_about 122 = .ok (.iconst 2, 1) := by decide +kernel
theorem dX8_about_123 : decode cX8_about 123 = .ok (.iaload, 1) := by decide +kernel
theorem dX8_about_124 : decode cX8_about 124 = .ok (.ireturn, 1) := by decide +kernel
theorem dX8_about_125 : decode cX8_about 125 = .ok (.aload_n 0, 1) := by decide +kernel
theorem dX8_about_126 : decode cX8_about 126 = .ok (.getfield 16, 3) := by decide +kernel
theorem dX8_about_129 : decode cX8_about 129 = .ok (.iconst 3, 1) := by decide +kernel
theorem dX8_about_130 : decode cX8_about 130 = .ok (.iaload, 1) := by decide +kernel
theorem dX8_about_131 : decode cX8_about 131 = .ok (.ireturn, 1) := by decide +kernel
theorem dX8_about_132 : decode cX8_about 132 = .ok (.aload_n 0, 1) := by decide +kernel
theorem dX8_about_133 : decode cX8_about 133 = .ok (.aload_n 0, 1) := by decide +kernel
theorem dX8_about_134 : decode cX8_about 134 = .ok (.getfield 16, 3) := by decide +kernel
theorem dX8_about_137 : decode cX8_about 137 = .ok (.sipush (-999), 3) := by decide +kernel
theorem dX8_about_140 : decode cX8_about 140 = .ok (.invokevirtual 88, 3) := by decide +kernel
theorem dX8_about_143 : decode cX8_about 143 = .ok (.ireturn, 1) := by decide +kernel
theorem dX8_about_144 : decode cX8_about 144 = .ok (.aload_n 0, 1) := by decide +kernel
theorem dX8_about_145 : decode cX8_about 145 = .ok (.aload_n 0, 1) := by decide +kernel
theorem dX8_about_146 : decode cX8_about 146 = .ok (.getfield 16, 3) := by decide +kernel
theorem dX8_about_149 : decode cX8_about 149 = .ok (.sipush (-999), 3) := by decide +kernel
theorem dX8_about_152 : decode cX8_about 152 = .ok (.invokevirtual 170, 3) := by decide +kernel
theorem dX8_about_155 : decode cX8_about 155 = .ok (.sipush (-999), 3) := by decide +kernel
theorem dX8_about_158 : decode cX8_about 158 = .ok (.if_icmp .ne 9, 3) := by decide +kernel
theorem dX8_about_161 : decode cX8_about 161 = .ok (.sipush (-999), 3) := by decide +kernel
theorem dX8_about_164 : decode cX8_about 164 = .ok (.goto 9, 3) := by decide +kernel
theorem dX8_about_167 : decode cX8_about 167 = .ok (.aload_n 0, 1) := by decide +kernel
theorem dX8_about_168 : decode cX8_about 168 = .ok (.getfield 92, 3) := by decide +kernel
theorem dX8_about_171 : decode cX8_about 171 = .ok (.iconst 1, 1) := by decide +kernel
theorem dX8_about_172 : decode cX8_about 172 = .ok (.isub, 1) := by decide +kernel
theorem dX8_about_173 : decode cX8_about 173 = .ok (.ireturn, 1) := by decide +kernel
theorem dX8_about_174 : decode cX8_about 174 = .ok (.aload_n 0, 1) := by decide +kernel
theorem dX8_about_175 : decode cX8_about 175 = .ok (.aload_n 0, 1) := by decide +kernel
theorem dX8_about_176 : decode cX8_about 176 = .ok (.getfield 16, 3) := by decide +kernel
theorem dX8_about_179 : decode cX8_about 179 = .ok (.sipush (-999), 3) := by decide +kernel
theorem dX8_about_182 : decode cX8_about 182 = .ok (.invokevirtual 88, 3) := by decide +kernel
theorem dX8_about_185 : decode cX8_about 185 = .ok (.sipush (-999), 3) := by decide +kernel
theorem dX8_about_188 : decode cX8_about 188 = .ok (.if_icmp .eq 7, 3) := by decide +kernel
theorem dX8_about_191 : decode cX8_about 191 = .ok (.iconst 1, 1) := by decide +kernel
theorem dX8_about_192 : decode cX8_about 192 = .ok (.goto 4, 3) := by decide +kernel
theorem dX8_about_195 : decode cX8_about 195 = .ok (.iconst 0, 1) := by decide +kernel
theorem dX8_about_196 : decode cX8_about 196 = .ok (.istore_n 3, 1) := by decide +kernel
theorem dX8_about_197 : decode cX8_about 197 = .ok (.iconst 0, 1) := by decide +kernel
theorem dX8_about_198 : decode cX8_about 198 = .ok (.istore 4, 2) := by decide +kernel
theorem dX8_about_200 : decode cX8_about 200 = .ok (.iload 4, 2) := by decide +kernel
theorem dX8_about_202 : decode cX8_about 202 = .ok (.aload_n 0, 1) := by decide +kernel
theorem dX8_about_203 : decode cX8_about 203 = .ok (.getfield 16, 3) := by decide +kernel
theorem dX8_about_206 : decode cX8_about 206 = .ok (.iconst 1, 1) := by decide +kernel
theorem dX8_about_207 : decode cX8_about 207 = .ok (.iaload, 1) := by decide +kernel
theorem dX8_about_208 : decode cX8_about 208 = .ok (.if_icmp .ge 50, 3) := by decide +kernel
theorem dX8_about_211 : decode cX8_about 211 = .ok (.iload_n 3, 1) := by decide +kernel
theorem dX8_about_212 : decode cX8_about 212 = .ok (.ifCond .eq 46, 3) := by decide +kernel
theorem dX8_about_215 : decode cX8_about 215 = .ok (.iload_n 2, 1) := by decide +kernel
theorem dX8_about_216 : decode cX8_about 216 = .ok (.aload_n 0, 1) := by decide +kernel
theorem dX8_about_217 : decode cX8_about 217 = .ok (.getfield 16, 3) := by decide +kernel
theorem dX8_about_220 : decode cX8_about 220 = .ok (.bipush 64, 2) := by decide +kernel
theorem dX8_about_222 : decode cX8_about 222 = .ok (.iload 4, 2) := by decide +kernel
theorem dX8_about_224 : decode cX8_about 224 = .ok (.iadd, 1) := by decide +kernel
theorem dX8_about_225 : decode cX8_about 225 = .ok (.iaload, 1) := by decide +kernel
theorem dX8_about_226 : decode cX8_about 226 = .ok (.ifCond .ne 23, 3) := by decide +kernel
theorem dX8_about_229 : decode cX8_about 229 = .ok (.aload_n 0, 1) := by decide +kernel
theorem dX8_about_230 : decode cX8_about 230 = .ok (.aload_n 0, 1) := by decide +kernel
theorem dX8_about_231 : decode cX8_about 231 = .ok (.getfield 16, 3) := by decide +kernel
theorem dX8_about_234 : decode cX8_about 234 = .ok (.iload 4, 2) := by decide +kernel
theorem dX8_about_236 : decode cX8_about 236 = .ok (.invokevirtual 88, 3) := by decide +kernel
theorem dX8_about_239 : decode cX8_about 239 = .ok (.sipush (-999), 3) := by decide +kernel
theorem dX8_about_242 : decode cX8_about 242 = .ok (.if_icmp .ne 7, 3) := by decide +kernel
theorem dX8_about_245 : decode cX8_about 245 = .ok (.iconst 1, 1) := by decide +kernel
theorem dX8_about_246 : decode cX8_about 246 = .ok (.goto 4, 3) := by decide +kernel
theorem dX8_about_249 : decode cX8_about 249 = .ok (.iconst 0, 1) := by decide +kernel
theorem dX8_about_250 : decode cX8_about 250 = .ok (.iadd, 1) := by decide +kernel
theorem dX8_about_251 : decode cX8_about 251 = .ok (.istore_n 2, 1) := by decide +kernel
theorem dX8_about_252 : decode cX8_about 252 = .ok (.iinc 4 1, 3) := by decide +kernel
theorem dX8_about_255 : decode cX8_about 255 = .ok (.goto (-55), 3) := by decide +kernel
theorem dX8_about_258 : decode cX8_about 258 = .ok (.iload_n 2, 1) := by decide +kernel
theorem dX8_about_259 : decode cX8_about 259 = .ok (.ireturn, 1) := by decide +kernel
theorem dX8_street_0 : decode cX8_street 0 = .ok (.aload_n 0, 1) := by decide +kernel
theorem dX8_street_1 : decode cX8_street 1 = .ok (.aload_n 0, 1) := by decide +kernel
theorem dX8_street_2 : decode cX8_street 2 = .ok (.getfield 16, 3) := by decide +kernel
theorem dX8_street_5 : decode cX8_street 5 = .ok (.iload_n 1, 1) := by decide +kernel
theorem dX8_street_6 : decode cX8_street 6 = .ok (.invokestatic 173, 3) := by decide +kernel
theorem dX8_street_9 : decode cX8_street 9 = .ok (.ifCond .ne 7, 3) := by decide +kernel
theorem dX8_street_12 : decode cX8_street 12 = .ok (.iconst 1, 1) := by decide +kernel
theorem dX8_street_13 : decode cX8_street 13 = .ok (.goto 20, 3) := by decide +kernel
theorem dX8_street_16 : decode cX8_street 16 = .ok (.iload_n 2, 1) := by decide +kernel
theorem dX8_street_17 : decode cX8_street 17 = .ok (.i2l, 1) := by decide +kernel
theorem dX8_street_18 : decode cX8_street 18 = .ok (.lconst 0, 1) := by decide +kernel
theorem dX8_street_19 : decode cX8_street 19 = .ok (.ldc2_w 177, 3) := by decide +kernel
theorem dX8_street_22 : decode cX8_street 22 = .ok (.invokestatic 65, 3) := by decide +kernel
theorem dX8_street_25 : decode cX8_street 25 = .ok (.ifCond .eq 7, 3) := by decide +kernel
theorem dX8_street_28 : decode cX8_street 28 = .ok (.iconst 0, 1) := by decide +kernel
theorem dX8_street_29 : decode cX8_street 29 = .ok (.goto 4, 3) := by decide +kernel
theorem dX8_street_32 : decode cX8_street 32 = .ok (.iconst 2, 1) := by decide +kernel
theorem dX8_street_33 : decode cX8_street 33 = .ok (.invokevirtual 103, 3) := by decide +kernel
theorem dX8_street_36 : decode cX8_street 36 = .ok (.ifCond .eq 5, 3) := by decide +kernel
theorem dX8_street_39 : decode cX8_street 39 = .ok (.iconst 0, 1) := by decide +kernel
theorem dX8_street_40 : decode cX8_street 40 = .ok (.ireturn, 1) := by decide +kernel
theorem dX8_street_41 : decode cX8_street 41 = .ok (.aload_n 0, 1) := by decide +kernel
theorem dX8_street_42 : decode cX8_street 42 = .ok (.getfield 16, 3) := by decide +kernel
theorem dX8_street_45 : decode cX8_street 45 = .ok (.iconst 4, 1) := by decide +kernel
theorem dX8_street_46 : decode cX8_street 46 = .ok (.iload_n 1, 1) := by decide +kernel
theorem dX8_street_47 : decode cX8_street 47 = .ok (.iadd, 1) := by decide +kernel
theorem dX8_street_48 : decode cX8_street 48 = .ok (.iaload, 1) := by decide +kernel
theorem dX8_street_49 : decode cX8_street 49 = .ok (.istore_n 3, 1) := by decide +kernel
theorem dX8_street_50 : decode cX8_street 50 = .ok (.aload_n 0, 1) := by decide +kernel
theorem dX8_street_51 : decode cX8_street 51 = .ok (.getfield 16, 3) := by decide +kernel
theorem dX8_street_54 : decode cX8_street 54 = .ok (.bipush 24, 2) := by decide +kernel
theorem dX8_street_56 : decode cX8_street 56 = .ok (.iload_n 1, 1) := by decide +kernel
theorem dX8_street_57 : decode cX8_street 57 = .ok (.iadd, 1) := by decide +kernel
theorem dX8_street_58 : decode cX8_street 58 = .ok (.iaload, 1) := by decide +kernel
theorem dX8_street_59 : decode cX8_street 59 = .ok (.istore 4, 2) := by decide +kernel
theorem dX8_street_61 : decode cX8_street 61 = .ok (.iload_n 2, 1) := by decide +kernel
theorem dX8_street_62 : decode cX8_street 62 = .ok (.tableswitch 76 0 3 #[30, 43, 56, 66], 30) := by decide +kernel
theorem dX8_street_92 : decode cX8_street 92 = .ok (.iload_n 3, 1) := by decide +kernel
theorem dX8_street_93 : decode cX8_street 93 = .ok (.iload 4, 2) := by decide +kernel
theorem dX8_street_95 : decode cX8_street 95 = .ok (.if_icmp .ge 7, 3) := by decide +kernel
theorem dX8_street_98 : decode cX8_street 98 = .ok (.iload_n 3, 1) := by decide +kernel
theorem dX8_street_99 : decode cX8_street 99 = .ok (.goto 5, 3) := by decide +kernel
theorem dX8_street_102 : decode cX8_street 102 = .ok (.iload 4, 2) := by decide +kernel
theorem dX8_street_104 : decode cX8_street 104 = .ok (.ireturn, 1) := by decide +kernel
theorem dX8_street_105 : decode cX8_street 105 = .ok (.iload_n 3, 1) := by decide +kernel
theorem dX8_street_106 : decode cX8_street 106 = .ok (.iload 4, 2) := by decide +kernel
theorem dX8_street_108 : decode cX8_street 108 = .ok (.if_icmp .ge 8, 3) := by decide +kernel
theorem dX8_street_111 : decode cX8_street 111 = .ok (.iload 4, 2) := by decide +kernel
theorem dX8_street_113 : decode cX8_street 113 = .ok (.goto 4, 3) := by decide +kernel
theorem dX8_street_116 : decode cX8_street 116 = .ok (.iload_n 3, 1) := by decide +kernel
theorem dX8_street_117 : decode cX8_street 117 = .ok (.ireturn, 1) := by decide +kernel
theorem dX8_street_118 : decode cX8_street 118 = .ok (.aload_n 0, 1) := by decide +kernel
theorem dX8_street_119 : decode cX8_street 119 = .ok (.getfield 16, 3) := by decide +kernel
theorem dX8_street_122 : decode cX8_street 122 = .ok (.bipush 44, 2) := by decide +kernel
theorem dX8_street_124 : decode cX8_street 124 = .ok (.iload_n 1, 1) := by decide +kernel
theorem dX8_street_125 : decode cX8_street 125 = .ok (.iadd, 1) := by decide +kernel
theorem dX8_street_126 : decode cX8_street 126 = .ok (.iaload, 1) := by decide +kernel
theorem dX8_street_127 : decode cX8_street 127 = .ok (.ireturn, 1) := by decide +kernel
theorem dX8_street_128 : decode cX8_street 128 = .ok (.aload_n 0, 1) := by decide +kernel
theorem dX8_street_129 : decode cX8_street 129 = .ok (.getfield 16, 3) := by decide +kernel
theorem dX8_street_132 : decode cX8_street 132 = .ok (.bipush 64, 2) := by decide +kernel
theorem dX8_street_134 : decode cX8_street 134 = .ok (.iload_n 1, 1) := by decide +kernel
theorem dX8_street_135 : decode cX8_street 135 = .ok (.iadd, 1) := by decide +kernel
theorem dX8_street_136 : decode cX8_street 136 = .ok (.iaload, 1) := by decide +kernel
theorem dX8_street_137 : decode cX8_street 137 = .ok (.ireturn, 1) := by decide +kernel
theorem dX8_street_138 : decode cX8_street 138 = .ok (.aload_n 0, 1) := by decide +kernel
theorem dX8_street_139 : decode cX8_street 139 = .ok (.aload_n 0, 1) := by decide +kernel
theorem dX8_street_140 : decode cX8_street 140 = .ok (.getfield 16, 3) := by decide +kernel
theorem dX8_street_143 : decode cX8_street 143 = .ok (.sipush (-999), 3) := by decide +kernel
theorem dX8_street_146 : decode cX8_street 146 = .ok (.invokevirtual 170, 3) := by decide +kernel
theorem dX8_street_149 : decode cX8_street 149 = .ok (.pop, 1) := by decide +kernel
theorem dX8_street_150 : decode cX8_street 150 = .ok (.aload_n 0, 1) := by decide +kernel
theorem dX8_street_151 : decode cX8_street 151 = .ok (.getfield 16, 3) := by decide +kernel
theorem dX8_street_154 : decode cX8_street 154 = .ok (.bipush 64, 2) := by decide +kernel
theorem dX8_street_156 : decode cX8_street 156 = .ok (.iload_n 1, 1) := by decide +kernel
theorem dX8_street_157 : decode cX8_street 157 = .ok (.iadd, 1) := by decide +kernel
theorem dX8_street_158 : decode cX8_street 158 = .ok (.iaload, 1) := by decide +kernel
theorem dX8_street_159 : decode cX8_street 159 = .ok (.ifCond .ne 19, 3) := by decide +kernel
theorem dX8_street_162 : decode cX8_street 162 = .ok (.aload_n 0, 1) := by decide +kernel
theorem dX8_street_163 : decode cX8_street 163 = .ok (.aload_n 0, 1) := by decide +kernel
theorem dX8_street_164 : decode cX8_street 164 = .ok (.getfield 16, 3) := by decide +kernel
theorem dX8_street_167 : decode cX8_street 167 = .ok (.iload_n 1, 1) := by decide +kernel
theorem dX8_street_168 : decode cX8_street 168 = .ok (.invokevirtual 179, 3) := by decide +kernel
theorem dX8_street_171 : decode cX8_street 171 = .ok (.ifCond .eq 7, 3) := by decide +kernel
theorem dX8_street_174 : decode cX8_street 174 = .ok (.iconst 1, 1) := by decide +kernel
theorem dX8_street_175 : decode cX8_street 175 = .ok (.goto 4, 3) := by decide +kernel
theorem dX8_street_178 : decode cX8_street 178 = .ok (.iconst 0, 1) := by decide +kernel
theorem dX8_street_179 : decode cX8_street 179 = .ok (.ireturn, 1) := by decide +kernel
theorem dX8_crossing_0 : decode cX8_crossing 0 = .ok (.aload_n 0, 1) := by decide +kernel
theorem dX8_crossing_1 : decode cX8_crossing 1 = .ok (.aload_n 0, 1) := by decide +kernel
theorem dX8_crossing_2 : decode cX8_crossing 2 = .ok (.getfield 16, 3) := by decide +kernel
theorem dX8_crossing_5 : decode cX8_crossing 5 = .ok (.iload_n 1, 1) := by decide +kernel
theorem dX8_crossing_6 : decode cX8_crossing 6 = .ok (.invokestatic 182, 3) := by decide +kernel
theorem dX8_crossing_9 : decode cX8_crossing 9 = .ok (.ifCond .ne 7, 3) := by decide +kernel
theorem dX8_crossing_12 : decode cX8_crossing 12 = .ok (.iconst 1, 1) := by decide +kernel
theorem dX8_crossing_13 : decode cX8_crossing 13 = .ok (.goto 20, 3) := by decide +kernel
theorem dX8_crossing_16 : decode cX8_crossing 16 = .ok (.iload_n 2, 1) := by decide +kernel
theorem dX8_crossing_17 : decode cX8_crossing 17 = .ok (.i2l, 1) := by decide +kernel
theorem dX8_crossing_18 : decode cX8_crossing 18 = .ok (.lconst 0, 1) := by decide +kernel
theorem dX8_crossing_19 : decode cX8_crossing 19 = .ok (.ldc2_w 185, 3) := by decide +kernel
theorem dX8_crossing_22 : decode cX8_crossing 22 = .ok (.invokestatic 65, 3) := by decide +kernel
theorem dX8_crossing_25 : decode cX8_crossing 25 = .ok (.ifCond .eq 7, 3) := by decide +kernel
theorem dX8_crossing_28 : decode cX8_crossing 28 = .ok (.iconst 0, 1) := by decide +kernel
theorem dX8_crossing_29 : decode cX8_crossing 29 = .ok (.goto 4, 3) := by decide +kernel
theorem dX8_crossing_32 : decode cX8_crossing 32 = .ok (.iconst 2, 1) := by decide +kernel
theorem dX8_crossing_33 : decode cX8_crossing 33 = .ok (.invokevirtual 103, 3) := by decide +kernel
theorem dX8_crossing_36 : decode cX8_crossing 36 = .ok (.ifCond .eq 5, 3) := by decide +kernel
theorem dX8_crossing_39 : decode cX8_crossing 39 = .ok (.iconst 0, 1) := by decide +kernel
theorem dX8_crossing_40 : decode cX8_crossing 40 = .ok (.ireturn, 1) := by decide +kernel
theorem dX8_crossing_41 : decode cX8_crossing 41 = .ok (.iload_n 2, 1) := by decide +kernel
theorem dX8_crossing_42 : decode cX8_crossing 42 = .ok (.ifCond .ne 13, 3) := by decide +kernel
theorem dX8_crossing_45 : decode cX8_crossing 45 = .ok (.aload_n 0, 1) := by decide +kernel
theorem dX8_crossing_46 : decode cX8_crossing 46 = .ok (.getfield 16, 3) := by decide +kernel
theorem dX8_crossing_49 : decode cX8_crossing 49 = .ok (.iload_n 1, 1) := by decide +kernel
theorem dX8_crossing_50 : decode cX8_crossing 50 = .ok (.iconst 1, 1) := by decide +kernel
theorem dX8_crossing_51 : decode cX8_crossing 51 = .ok (.invokestatic 114, 3) := by decide +kernel
theorem dX8_crossing_54 : decode cX8_crossing 54 = .ok (.ireturn, 1) := by decide +kernel
theorem dX8_crossing_55 : decode cX8_crossing 55 = .ok (.iload_n 2, 1) := by decide +kernel
theorem dX8_crossing_56 : decode cX8_crossing 56 = .ok (.iconst 3, 1) := by decide +kernel
theorem dX8_crossing_57 : decode cX8_crossing 57 = .ok (.if_icmp .ne 21, 3) := by decide +kernel
theorem dX8_crossing_60 : decode cX8_crossing 60 = .ok (.aload_n 0, 1) := by decide +kernel
theorem dX8_crossing_61 : decode cX8_crossing 61 = .ok (.aload_n 0, 1) := by decide +kernel
theorem dX8_crossing_62 : decode cX8_crossing 62 = .ok (.getfield 16, 3) := by decide +kernel
theorem dX8_crossing_65 : decode cX8_crossing 65 = .ok (.sipush (-999), 3) := by decide +kernel
theorem dX8_crossing_68 : decode cX8_crossing 68 = .ok (.invokevirtual 170, 3) := by decide +kernel
theorem dX8_crossing_71 : decode cX8_crossing 71 = .ok (.pop, 1) := by decide +kernel
theorem dX8_crossing_72 : decode cX8_crossing 72 = .ok (.aload_n 0, 1) := by decide +kernel
theorem dX8_crossing_73 : decode cX8_crossing 73 = .ok (.iload_n 1, 1) := by decide +kernel
theorem dX8_crossing_74 : decode cX8_crossing 74 = .ok (.invokevirtual 95, 3) := by decide +kernel
theorem dX8_crossing_77 : decode cX8_crossing 77 = .ok (.ireturn, 1) := by decide +kernel
theorem dX8_crossing_78 : decode cX8_crossing 78 = .ok (.aload_n 0, 1) := by decide +kernel
theorem dX8_crossing_79 : decode cX8_crossing 79 = .ok (.aload_n 0, 1) := by decide +kernel
theorem dX8_crossing_80 : decode cX8_crossing 80 = .ok (.getfield 16, 3) := by decide +kernel
theorem dX8_crossing_83 : decode cX8_crossing 83 = .ok (.sipush (-999), 3) := by decide +kernel
theorem dX8_crossing_86 : decode cX8_crossing 86 = .ok (.invokevirtual 81, 3) := by decide +kernel
theorem dX8_crossing_89 : decode cX8_crossing 89 = .ok (.aload_n 0, 1) := by decide +kernel
theorem dX8_crossing_90 : decode cX8_crossing 90 = .ok (.aload_n 0, 1) := by decide +kernel
theorem dX8_crossing_91 : decode cX8_crossing 91 = .ok (.getfield 16, 3) := by decide +kernel
theorem dX8_crossing_94 : decode cX8_crossing 94 = .ok (.iload_n 2, 1) := by decide +kernel
theorem dX8_crossing_95 : decode cX8_crossing 95 = .ok (.iconst 1, 1) := by decide +kernel
theorem dX8_crossing_96 : decode cX8_crossing 96 = .ok (.if_icmp .ne 12, 3) := by decide +kernel
theorem dX8_crossing_99 : decode cX8_crossing 99 = .ok (.aload_n 0, 1) := by decide +kernel
theorem dX8_crossing_100 : decode cX8_crossing 100 = .ok (.getfield 16, 3) := by decide +kernel
theorem dX8_crossing_103 : decode cX8_crossing 103 = .ok (.iconst 2, 1) := by decide +kernel
theorem dX8_crossing_104 : decode cX8_crossing 104 = .ok (.iaload, 1) := by decide +kernel
theorem dX8_crossing_105 : decode cX8_crossing 105 = .ok (.goto 9, 3) := by decide +kernel
theorem dX8_crossing_108 : decode cX8_crossing 108 = .ok (.aload_n 0, 1) := by decide +kernel
end
section
theorem dX8_crossing_109 : decode cX8_crossing 109 = .ok (.getfield 16, 3) := by decide +kernel
theorem dX8_crossing_112 : decode cX8_crossing 112 = .ok (.iconst 3, 1) := by decide +kernel
theorem dX8_crossing_113 : decode cX8_crossing 113 = .ok (.iaload, 1) := by decide +kernel
theorem dX8_crossing_114 : decode cX8_crossing 114 = .ok (.invokevirtual 74, 3) := by decide +kernel
theorem dX8_crossing_117 : decode cX8_crossing 117 = .ok (.aload_n 0, 1) := by decide +kernel
theorem dX8_crossing_118 : decode cX8_crossing 118 = .ok (.getfield 38, 3) := by decide +kernel
theorem dX8_crossing_121 : decode cX8_crossing 121 = .ok (.iload_n 1, 1) := by decide +kernel
theorem dX8_crossing_122 : decode cX8_crossing 122 = .ok (.iaload, 1) := by decide +kernel
theorem dX8_crossing_123 : decode cX8_crossing 123 = .ok (.invokestatic 77, 3) := by decide +kernel
theorem dX8_crossing_126 : decode cX8_crossing 126 = .ok (.ireturn, 1) := by decide +kernel
theorem dX8_between_0 : decode cX8_between 0 = .ok (.aload_n 0, 1) := by decide +kernel
theorem dX8_between_1 : decode cX8_between 1 = .ok (.aload_n 0, 1) := by decide +kernel
theorem dX8_between_2 : decode cX8_between 2 = .ok (.getfield 16, 3) := by decide +kernel
theorem dX8_between_5 : decode cX8_between 5 = .ok (.iload_n 1, 1) := by decide +kernel
theorem dX8_between_6 : decode cX8_between 6 = .ok (.invokestatic 182, 3) := by decide +kernel
theorem dX8_between_9 : decode cX8_between 9 = .ok (.ifCond .eq 18, 3) := by decide +kernel
theorem dX8_between_12 : decode cX8_between 12 = .ok (.aload_n 0, 1) := by decide +kernel
theorem dX8_between_13 : decode cX8_between 13 = .ok (.getfield 16, 3) := by decide +kernel
theorem dX8_between_16 : decode cX8_between 16 = .ok (.iload_n 2, 1) := by decide +kernel
theorem dX8_between_17 : decode cX8_between 17 = .ok (.invokestatic 182, 3) := by decide +kernel
theorem dX8_between_20 : decode cX8_between 20 = .ok (.ifCond .eq 7, 3) := by decide +kernel
theorem dX8_between_23 : decode cX8_between 23 = .ok (.iconst 0, 1) := by decide +kernel
theorem dX8_between_24 : decode cX8_between 24 = .ok (.goto 4, 3) := by decide +kernel
theorem dX8_between_27 : decode cX8_between 27 = .ok (.iconst 1, 1) := by decide +kernel
theorem dX8_between_28 : decode cX8_between 28 = .ok (.invokevirtual 103, 3) := by decide +kernel
theorem dX8_between_31 : decode cX8_between 31 = .ok (.ifCond .eq 5, 3) := by decide +kernel
theorem dX8_between_34 : decode cX8_between 34 = .ok (.iconst 0, 1) := by decide +kernel
theorem dX8_between_35 : decode cX8_between 35 = .ok (.ireturn, 1) := by decide +kernel
theorem dX8_between_36 : decode cX8_between 36 = .ok (.aload_n 0, 1) := by decide +kernel
theorem dX8_between_37 : decode cX8_between 37 = .ok (.getfield 16, 3) := by decide +kernel
theorem dX8_between_40 : decode cX8_between 40 = .ok (.iload_n 1, 1) := by decide +kernel
theorem dX8_between_41 : decode cX8_between 41 = .ok (.iload_n 2, 1) := by decide +kernel
theorem dX8_between_42 : decode cX8_between 42 = .ok (.invokestatic 118, 3) := by decide +kernel
theorem dX8_between_45 : decode cX8_between 45 = .ok (.ireturn, 1) := by decide +kernel
theorem dX8_at_0 : decode cX8_at 0 = .ok (.iload_n 1, 1) := by decide +kernel
theorem dX8_at_1 : decode cX8_at 1 = .ok (.aload_n 0, 1) := by decide +kernel
theorem dX8_at_2 : decode cX8_at 2 = .ok (.getfield 92, 3) := by decide +kernel
theorem dX8_at_5 : decode cX8_at 5 = .ok (.if_icmp .ge 12, 3) := by decide +kernel
theorem dX8_at_8 : decode cX8_at 8 = .ok (.aload_n 0, 1) := by decide +kernel
theorem dX8_at_9 : decode cX8_at 9 = .ok (.getfield 41, 3) := by decide +kernel
theorem dX8_at_12 : decode cX8_at 12 = .ok (.iload_n 1, 1) := by decide +kernel
theorem dX8_at_13 : decode cX8_at 13 = .ok (.iaload, 1) := by decide +kernel
theorem dX8_at_14 : decode cX8_at 14 = .ok (.goto 6, 3) := by decide +kernel
theorem dX8_at_17 : decode cX8_at 17 = .ok (.sipush (-999), 3) := by decide +kernel
theorem dX8_at_20 : decode cX8_at 20 = .ok (.ireturn, 1) := by decide +kernel
theorem dX8_wayAt_0 : decode cX8_wayAt 0 = .ok (.aload_n 0, 1) := by decide +kernel
theorem dX8_wayAt_1 : decode cX8_wayAt 1 = .ok (.iload_n 1, 1) := by decide +kernel
theorem dX8_wayAt_2 : decode cX8_wayAt 2 = .ok (.ifCond .ge 7, 3) := by decide +kernel
theorem dX8_wayAt_5 : decode cX8_wayAt 5 = .ok (.iconst 1, 1) := by decide +kernel
theorem dX8_wayAt_6 : decode cX8_wayAt 6 = .ok (.goto 4, 3) := by decide +kernel
theorem dX8_wayAt_9 : decode cX8_wayAt 9 = .ok (.iconst 0, 1) := by decide +kernel
theorem dX8_wayAt_10 : decode cX8_wayAt 10 = .ok (.invokevirtual 103, 3) := by decide +kernel
theorem dX8_wayAt_13 : decode cX8_wayAt 13 = .ok (.ifCond .eq 5, 3) := by decide +kernel
theorem dX8_wayAt_16 : decode cX8_wayAt 16 = .ok (.iconst 0, 1) := by decide +kernel
theorem dX8_wayAt_17 : decode cX8_wayAt 17 = .ok (.ireturn, 1) := by decide +kernel
theorem dX8_wayAt_18 : decode cX8_wayAt 18 = .ok (.aload_n 0, 1) := by decide +kernel
theorem dX8_wayAt_19 : decode cX8_wayAt 19 = .ok (.aload_n 0, 1) := by decide +kernel
theorem dX8_wayAt_20 : decode cX8_wayAt 20 = .ok (.getfield 16, 3) := by decide +kernel
theorem dX8_wayAt_23 : decode cX8_wayAt 23 = .ok (.sipush (-999), 3) := by decide +kernel
theorem dX8_wayAt_26 : decode cX8_wayAt 26 = .ok (.invokevirtual 170, 3) := by decide +kernel
theorem dX8_wayAt_29 : decode cX8_wayAt 29 = .ok (.pop, 1) := by decide +kernel
theorem dX8_wayAt_30 : decode cX8_wayAt 30 = .ok (.aload_n 0, 1) := by decide +kernel
theorem dX8_wayAt_31 : decode cX8_wayAt 31 = .ok (.iload_n 1, 1) := by decide +kernel
theorem dX8_wayAt_32 : decode cX8_wayAt 32 = .ok (.invokevirtual 187, 3) := by decide +kernel
theorem dX8_wayAt_35 : decode cX8_wayAt 35 = .ok (.ireturn, 1) := by decide +kernel
theorem dX8_remember_0 : decode cX8_remember 0 = .ok (.aload_n 0, 1) := by decide +kernel
theorem dX8_remember_1 : decode cX8_remember 1 = .ok (.getfield 158, 3) := by decide +kernel
theorem dX8_remember_4 : decode cX8_remember 4 = .ok (.bipush 14, 2) := by decide +kernel
theorem dX8_remember_6 : decode cX8_remember 6 = .ok (.if_icmp .ne 43, 3) := by decide +kernel
theorem dX8_remember_9 : decode cX8_remember 9 = .ok (.iconst 0, 1) := by decide +kernel
theorem dX8_remember_10 : decode cX8_remember 10 = .ok (.istore_n 1, 1) := by decide +kernel
theorem dX8_remember_11 : decode cX8_remember 11 = .ok (.iload_n 1, 1) := by decide +kernel
theorem dX8_remember_12 : decode cX8_remember 12 = .ok (.sipush 1092, 3) := by decide +kernel
theorem dX8_remember_15 : decode cX8_remember 15 = .ok (.if_icmp .ge 24, 3) := by decide +kernel
theorem dX8_remember_18 : decode cX8_remember 18 = .ok (.aload_n 0, 1) := by decide +kernel
theorem dX8_remember_19 : decode cX8_remember 19 = .ok (.getfield 22, 3) := by decide +kernel
theorem dX8_remember_22 : decode cX8_remember 22 = .ok (.iload_n 1, 1) := by decide +kernel
theorem dX8_remember_23 : decode cX8_remember 23 = .ok (.aload_n 0, 1) := by decide +kernel
theorem dX8_remember_24 : decode cX8_remember 24 = .ok (.getfield 22, 3) := by decide +kernel
theorem dX8_remember_27 : decode cX8_remember 27 = .ok (.iload_n 1, 1) := by decide +kernel
theorem dX8_remember_28 : decode cX8_remember 28 = .ok (.bipush 84, 2) := by decide +kernel
theorem dX8_remember_30 : decode cX8_remember 30 = .ok (.iadd, 1) := by decide +kernel
theorem dX8_remember_31 : decode cX8_remember 31 = .ok (.iaload, 1) := by decide +kernel
theorem dX8_remember_32 : decode cX8_remember 32 = .ok (.iastore, 1) := by decide +kernel
theorem dX8_remember_33 : decode cX8_remember 33 = .ok (.iinc 1 1, 3) := by decide +kernel
theorem dX8_remember_36 : decode cX8_remember 36 = .ok (.goto (-25), 3) := by decide +kernel
theorem dX8_remember_39 : decode cX8_remember 39 = .ok (.aload_n 0, 1) := by decide +kernel
theorem dX8_remember_40 : decode cX8_remember 40 = .ok (.dup, 1) := by decide +kernel
theorem dX8_remember_41 : decode cX8_remember 41 = .ok (.getfield 158, 3) := by decide +kernel
theorem dX8_remember_44 : decode cX8_remember 44 = .ok (.iconst 1, 1) := by decide +kernel
theorem dX8_remember_45 : decode cX8_remember 45 = .ok (.isub, 1) := by decide +kernel
theorem dX8_remember_46 : decode cX8_remember 46 = .ok (.putfield 158, 3) := by decide +kernel
theorem dX8_remember_49 : decode cX8_remember 49 = .ok (.aload_n 0, 1) := by decide +kernel
theorem dX8_remember_50 : decode cX8_remember 50 = .ok (.getfield 16, 3) := by decide +kernel
theorem dX8_remember_53 : decode cX8_remember 53 = .ok (.iconst 0, 1) := by decide +kernel
theorem dX8_remember_54 : decode cX8_remember 54 = .ok (.aload_n 0, 1) := by decide +kernel
theorem dX8_remember_55 : decode cX8_remember 55 = .ok (.getfield 22, 3) := by decide +kernel
theorem dX8_remember_58 : decode cX8_remember 58 = .ok (.bipush 84, 2) := by decide +kernel
theorem dX8_remember_60 : decode cX8_remember 60 = .ok (.aload_n 0, 1) := by decide +kernel
theorem dX8_remember_61 : decode cX8_remember 61 = .ok (.getfield 158, 3) := by decide +kernel
theorem dX8_remember_64 : decode cX8_remember 64 = .ok (.imul, 1) := by decide +kernel
theorem dX8_remember_65 : decode cX8_remember 65 = .ok (.invokestatic 161, 3) := by decide +kernel
theorem dX8_remember_68 : decode cX8_remember 68 = .ok (.aload_n 0, 1) := by decide +kernel
theorem dX8_remember_69 : decode cX8_remember 69 = .ok (.dup, 1) := by decide +kernel
theorem dX8_remember_70 : decode cX8_remember 70 = .ok (.getfield 158, 3) := by decide +kernel
theorem dX8_remember_73 : decode cX8_remember 73 = .ok (.iconst 1, 1) := by decide +kernel
theorem dX8_remember_74 : decode cX8_remember 74 = .ok (.iadd, 1) := by decide +kernel
theorem dX8_remember_75 : decode cX8_remember 75 = .ok (.putfield 158, 3) := by decide +kernel
theorem dX8_remember_78 : decode cX8_remember 78 = .ok (.return_, 1) := by decide +kernel
theorem dX8_addCrossing_0 : decode cX8_addCrossing 0 = .ok (.aload_n 0, 1) := by decide +kernel
theorem dX8_addCrossing_1 : decode cX8_addCrossing 1 = .ok (.aload_n 0, 1) := by decide +kernel
theorem dX8_addCrossing_2 : decode cX8_addCrossing 2 = .ok (.getfield 16, 3) := by decide +kernel
theorem dX8_addCrossing_5 : decode cX8_addCrossing 5 = .ok (.iconst 0, 1) := by decide +kernel
theorem dX8_addCrossing_6 : decode cX8_addCrossing 6 = .ok (.iaload, 1) := by decide +kernel
theorem dX8_addCrossing_7 : decode cX8_addCrossing 7 = .ok (.bipush 9, 2) := by decide +kernel
theorem dX8_addCrossing_9 : decode cX8_addCrossing 9 = .ok (.if_icmp .ne 7, 3) := by decide +kernel
theorem dX8_addCrossing_12 : decode cX8_addCrossing 12 = .ok (.iconst 1, 1) := by decide +kernel
theorem dX8_addCrossing_13 : decode cX8_addCrossing 13 = .ok (.goto 4, 3) := by decide +kernel
theorem dX8_addCrossing_16 : decode cX8_addCrossing 16 = .ok (.iconst 0, 1) := by decide +kernel
theorem dX8_addCrossing_17 : decode cX8_addCrossing 17 = .ok (.invokevirtual 103, 3) := by decide +kernel
theorem dX8_addCrossing_20 : decode cX8_addCrossing 20 = .ok (.ifCond .eq 5, 3) := by decide +kernel
theorem dX8_addCrossing_23 : decode cX8_addCrossing 23 = .ok (.iconst 0, 1) := by decide +kernel
theorem dX8_addCrossing_24 : decode cX8_addCrossing 24 = .ok (.ireturn, 1) := by decide +kernel
theorem dX8_addCrossing_25 : decode cX8_addCrossing 25 = .ok (.aload_n 0, 1) := by decide +kernel
theorem dX8_addCrossing_26 : decode cX8_addCrossing 26 = .ok (.invokevirtual 190, 3) := by decide +kernel
theorem dX8_addCrossing_29 : decode cX8_addCrossing 29 = .ok (.aload_n 0, 1) := by decide +kernel
theorem dX8_addCrossing_30 : decode cX8_addCrossing 30 = .ok (.getfield 16, 3) := by decide +kernel
theorem dX8_addCrossing_33 : decode cX8_addCrossing 33 = .ok (.iconst 0, 1) := by decide +kernel
theorem dX8_addCrossing_34 : decode cX8_addCrossing 34 = .ok (.dup2, 1) := by decide +kernel
theorem dX8_addCrossing_35 : decode cX8_addCrossing 35 = .ok (.iaload, 1) := by decide +kernel
theorem dX8_addCrossing_36 : decode cX8_addCrossing 36 = .ok (.iconst 1, 1) := by decide +kernel
theorem dX8_addCrossing_37 : decode cX8_addCrossing 37 = .ok (.iadd, 1) := by decide +kernel
theorem dX8_addCrossing_38 : decode cX8_addCrossing 38 = .ok (.iastore, 1) := by decide +kernel
theorem dX8_addCrossing_39 : decode cX8_addCrossing 39 = .ok (.aload_n 0, 1) := by decide +kernel
theorem dX8_addCrossing_40 : decode cX8_addCrossing 40 = .ok (.getfield 16, 3) := by decide +kernel
theorem dX8_addCrossing_43 : decode cX8_addCrossing 43 = .ok (.iconst 0, 1) := by decide +kernel
theorem dX8_addCrossing_44 : decode cX8_addCrossing 44 = .ok (.iaload, 1) := by decide +kernel
theorem dX8_addCrossing_45 : decode cX8_addCrossing 45 = .ok (.iconst 1, 1) := by decide +kernel
theorem dX8_addCrossing_46 : decode cX8_addCrossing 46 = .ok (.isub, 1) := by decide +kernel
theorem dX8_addCrossing_47 : decode cX8_addCrossing 47 = .ok (.ireturn, 1) := by decide +kernel
theorem dX8_whyNotBuild_0 : decode cX8_whyNotBuild 0 = .ok (.aload_n 0, 1) := by decide +kernel
theorem dX8_whyNotBuild_1 : decode cX8_whyNotBuild 1 = .ok (.iload_n 1, 1) := by decide +kernel
theorem dX8_whyNotBuild_2 : decode cX8_whyNotBuild 2 = .ok (.invokestatic 182, 3) := by decide +kernel
theorem dX8_whyNotBuild_5 : decode cX8_whyNotBuild 5 = .ok (.ifCond .eq 11, 3) := by decide +kernel
theorem dX8_whyNotBuild_8 : decode cX8_whyNotBuild 8 = .ok (.aload_n 0, 1) := by decide +kernel
theorem dX8_whyNotBuild_9 : decode cX8_whyNotBuild 9 = .ok (.iload_n 2, 1) := by decide +kernel
theorem dX8_whyNotBuild_10 : decode cX8_whyNotBuild 10 = .ok (.invokestatic 182, 3) := by decide +kernel
theorem dX8_whyNotBuild_13 : decode cX8_whyNotBuild 13 = .ok (.ifCond .ne 5, 3) := by decide +kernel
theorem dX8_whyNotBuild_16 : decode cX8_whyNotBuild 16 = .ok (.iconst 1, 1) := by decide +kernel
theorem dX8_whyNotBuild_17 : decode cX8_whyNotBuild 17 = .ok (.ireturn, 1) := by decide +kernel
theorem dX8_whyNotBuild_18 : decode cX8_whyNotBuild 18 = .ok (.iload_n 1, 1) := by decide +kernel
theorem dX8_whyNotBuild_19 : decode cX8_whyNotBuild 19 = .ok (.iload_n 2, 1) := by decide +kernel
theorem dX8_whyNotBuild_20 : decode cX8_whyNotBuild 20 = .ok (.if_icmp .eq 15, 3) := by decide +kernel
theorem dX8_whyNotBuild_23 : decode cX8_whyNotBuild 23 = .ok (.iload_n 3, 1) := by decide +kernel
theorem dX8_whyNotBuild_24 : decode cX8_whyNotBuild 24 = .ok (.i2l, 1) := by decide +kernel
theorem dX8_whyNotBuild_25 : decode cX8_whyNotBuild 25 = .ok (.lconst 1, 1) := by decide +kernel
theorem dX8_whyNotBuild_26 : decode cX8_whyNotBuild 26 = .ok (.ldc2_w 193, 3) := by decide +kernel
theorem dX8_whyNotBuild_29 : decode cX8_whyNotBuild 29 = .ok (.invokestatic 65, 3) := by decide +kernel
theorem dX8_whyNotBuild_32 : decode cX8_whyNotBuild 32 = .ok (.ifCond .ne 5, 3) := by decide +kernel
theorem dX8_whyNotBuild_35 : decode cX8_whyNotBuild 35 = .ok (.iconst 2, 1) := by decide +kernel
theorem dX8_whyNotBuild_36 : decode cX8_whyNotBuild 36 = .ok (.ireturn, 1) := by decide +kernel
theorem dX8_whyNotBuild_37 : decode cX8_whyNotBuild 37 = .ok (.aload_n 0, 1) := by decide +kernel
theorem dX8_whyNotBuild_38 : decode cX8_whyNotBuild 38 = .ok (.iload_n 1, 1) := by decide +kernel
theorem dX8_whyNotBuild_39 : decode cX8_whyNotBuild 39 = .ok (.iload_n 2, 1) := by decide +kernel
theorem dX8_whyNotBuild_40 : decode cX8_whyNotBuild 40 = .ok (.invokestatic 118, 3) := by decide +kernel
theorem dX8_whyNotBuild_43 : decode cX8_whyNotBuild 43 = .ok (.sipush (-999), 3) := by decide +kernel
theorem dX8_whyNotBuild_46 : decode cX8_whyNotBuild 46 = .ok (.if_icmp .ne 11, 3) := by decide +kernel
theorem dX8_whyNotBuild_49 : decode cX8_whyNotBuild 49 = .ok (.aload_n 0, 1) := by decide +kernel
theorem dX8_whyNotBuild_50 : decode cX8_whyNotBuild 50 = .ok (.iconst 1, 1) := by decide +kernel
theorem dX8_whyNotBuild_51 : decode cX8_whyNotBuild 51 = .ok (.iaload, 1) := by decide +kernel
theorem dX8_whyNotBuild_52 : decode cX8_whyNotBuild 52 = .ok (.bipush 20, 2) := by decide +kernel
theorem dX8_whyNotBuild_54 : decode cX8_whyNotBuild 54 = .ok (.if_icmp .ne 7, 3) := by decide +kernel
theorem dX8_whyNotBuild_57 : decode cX8_whyNotBuild 57 = .ok (.iconst 3, 1) := by decide +kernel
theorem dX8_whyNotBuild_58 : decode cX8_whyNotBuild 58 = .ok (.goto 4, 3) := by decide +kernel
theorem dX8_whyNotBuild_61 : decode cX8_whyNotBuild 61 = .ok (.iconst 0, 1) := by decide +kernel
theorem dX8_whyNotBuild_62 : decode cX8_whyNotBuild 62 = .ok (.ireturn, 1) := by decide +kernel
theorem dX8_addStreet_0 : decode cX8_addStreet 0 = .ok (.aload_n 0, 1) := by decide +kernel
theorem dX8_addStreet_1 : decode cX8_addStreet 1 = .ok (.aload_n 0, 1) := by decide +kernel
theorem dX8_addStreet_2 : decode cX8_addStreet 2 = .ok (.getfield 16, 3) := by decide +kernel
theorem dX8_addStreet_5 : decode cX8_addStreet 5 = .ok (.iload_n 1, 1) := by decide +kernel
theorem dX8_addStreet_6 : decode cX8_addStreet 6 = .ok (.iload_n 2, 1) := by decide +kernel
theorem dX8_addStreet_7 : decode cX8_addStreet 7 = .ok (.iload_n 3, 1) := by decide +kernel
theorem dX8_addStreet_8 : decode cX8_addStreet 8 = .ok (.invokestatic 195, 3) := by decide +kernel
theorem dX8_addStreet_11 : decode cX8_addStreet 11 = .ok (.invokevirtual 103, 3) := by decide +kernel
theorem dX8_addStreet_14 : decode cX8_addStreet 14 = .ok (.ifCond .eq 5, 3) := by decide +kernel
theorem dX8_addStreet_17 : decode cX8_addStreet 17 = .ok (.iconst 0, 1) := by decide +kernel
theorem dX8_addStreet_18 : decode cX8_addStreet 18 = .ok (.ireturn, 1) := by decide +kernel
theorem dX8_addStreet_19 : decode cX8_addStreet 19 = .ok (.aload_n 0, 1) := by decide +kernel
theorem dX8_addStreet_20 : decode cX8_addStreet 20 = .ok (.invokevirtual 190, 3) := by decide +kernel
theorem dX8_addStreet_23 : decode cX8_addStreet 23 = .ok (.aload_n 0, 1) := by decide +kernel
theorem dX8_addStreet_24 : decode cX8_addStreet 24 = .ok (.getfield 16, 3) := by decide +kernel
theorem dX8_addStreet_27 : decode cX8_addStreet 27 = .ok (.iload_n 1, 1) := by decide +kernel
theorem dX8_addStreet_28 : decode cX8_addStreet 28 = .ok (.iload_n 2, 1) := by decide +kernel
theorem dX8_addStreet_29 : decode cX8_addStreet 29 = .ok (.iload_n 3, 1) := by decide +kernel
theorem dX8_addStreet_30 : decode cX8_addStreet 30 = .ok (.invokestatic 122, 3) := by decide +kernel
theorem dX8_addStreet_33 : decode cX8_addStreet 33 = .ok (.ireturn, 1) := by decide +kernel
theorem dX8_removeStreet_0 : decode cX8_removeStreet 0 = .ok (.aload_n 0, 1) := by decide +kernel
theorem dX8_removeStreet_1 : decode cX8_removeStreet 1 = .ok (.aload_n 0, 1) := by decide +kernel
theorem dX8_removeStreet_2 : decode cX8_removeStreet 2 = .ok (.getfield 16, 3) := by decide +kernel
theorem dX8_removeStreet_5 : decode cX8_removeStreet 5 = .ok (.iload_n 1, 1) := by decide +kernel
theorem dX8_removeStreet_6 : decode cX8_removeStreet 6 = .ok (.invokestatic 173, 3) := by decide +kernel
theorem dX8_removeStreet_9 : decode cX8_removeStreet 9 = .ok (.ifCond .eq 7, 3) := by decide +kernel
theorem dX8_removeStreet_12 : decode cX8_removeStreet 12 = .ok (.iconst 0, 1) := by decide +kernel
theorem dX8_removeStreet_13 : decode cX8_removeStreet 13 = .ok (.goto 4, 3) := by decide +kernel
theorem dX8_removeStreet_16 : decode cX8_removeStreet 16 = .ok (.iconst 1, 1) := by decide +kernel
theorem dX8_removeStreet_17 : decode cX8_removeStreet 17 = .ok (.invokevirtual 103, 3) := by decide +kernel
theorem dX8_removeStreet_20 : decode cX8_removeStreet 20 = .ok (.ifCond .eq 5, 3) := by decide +kernel
theorem dX8_removeStreet_23 : decode cX8_removeStreet 23 = .ok (.iconst 0, 1) := by decide +kernel
theorem dX8_removeStreet_24 : decode cX8_removeStreet 24 = .ok (.ireturn, 1) := by decide +kernel
theorem dX8_removeStreet_25 : decode cX8_removeStreet 25 = .ok (.aload_n 0, 1) := by decide +kernel
theorem dX8_removeStreet_26 : decode cX8_removeStreet 26 = .ok (.invokevirtual 190, 3) := by decide +kernel
theorem dX8_removeStreet_29 : decode cX8_removeStreet 29 = .ok (.aload_n 0, 1) := by decide +kernel
theorem dX8_removeStreet_30 : decode cX8_removeStreet 30 = .ok (.getfield 16, 3) := by decide +kernel
theorem dX8_removeStreet_33 : decode cX8_removeStreet 33 = .ok (.iload_n 1, 1) := by decide +kernel
theorem dX8_removeStreet_34 : decode cX8_removeStreet 34 = .ok (.invokestatic 198, 3) := by decide +kernel
theorem dX8_removeStreet_37 : decode cX8_removeStreet 37 = .ok (.aload_n 0, 1) := by decide +kernel
theorem dX8_removeStreet_38 : decode cX8_removeStreet 38 = .ok (.aload_n 0, 1) := by decide +kernel
theorem dX8_removeStreet_39 : decode cX8_removeStreet 39 = .ok (.getfield 16, 3) := by decide +kernel
theorem dX8_removeStreet_42 : decode cX8_removeStreet 42 = .ok (.sipush (-999), 3) := by decide +kernel
theorem dX8_removeStreet_45 : decode cX8_removeStreet 45 = .ok (.invokevirtual 88, 3) := by decide +kernel
theorem dX8_removeStreet_48 : decode cX8_removeStreet 48 = .ok (.ireturn, 1) := by decide +kernel
theorem dX8_setLength_0 : decode cX8_setLength 0 = .ok (.aload_n 0, 1) := by decide +kernel
theorem dX8_setLength_1 : decode cX8_setLength 1 = .ok (.aload_n 0, 1) := by decide +kernel
theorem dX8_setLength_2 : decode cX8_setLength 2 = .ok (.getfield 16, 3) := by decide +kernel
theorem dX8_setLength_5 : decode cX8_setLength 5 = .ok (.iload_n 1, 1) := by decide +kernel
theorem dX8_setLength_6 : decode cX8_setLength 6 = .ok (.invokestatic 173, 3) := by decide +kernel
theorem dX8_setLength_9 : decode cX8_setLength 9 = .ok (.ifCond .ne 7, 3) := by decide +kernel
theorem dX8_setLength_12 : decode cX8_setLength 12 = .ok (.iconst 1, 1) := by decide +kernel
theorem dX8_setLength_13 : decode cX8_setLength 13 = .ok (.goto 20, 3) := by decide +kernel
theorem dX8_setLength_16 : decode cX8_setLength 16 = .ok (.iload_n 2, 1) := by decide +kernel
theorem dX8_setLength_17 : decode cX8_setLength 17 = .ok (.i2l, 1) := by decide +kernel
theorem dX8_setLength_18 : decode cX8_setLength 18 = .ok (.lconst 1, 1) := by decide +kernel
theorem dX8_setLength_19 : decode cX8_setLength 19 = .ok (.ldc2_w 193, 3) := by decide +kernel
theorem dX8_setLength_22 : decode cX8_setLength 22 = .ok (.invokestatic 65, 3) := by decide +kernel
theorem dX8_setLength_25 : decode cX8_setLength 25 = .ok (.ifCond .eq 7, 3) := by decide +kernel
theorem dX8_setLength_28 : decode cX8_setLength 28 = .ok (.iconst 0, 1) := by decide +kernel
theorem dX8_setLength_29 : decode cX8_setLength 29 = .ok (.goto 4, 3) := by decide +kernel
theorem dX8_setLength_32 : decode cX8_setLength 32 = .ok (.iconst 2, 1) := by decide +kernel
theorem dX8_setLength_33 : decode cX8_setLength 33 = .ok (.invokevirtual 103, 3) := by decide +kernel
theorem dX8_setLength_36 : decode cX8_setLength 36 = .ok (.ifCond .eq 5, 3) := by decide +kernel
theorem dX8_setLength_39 : decode cX8_setLength 39 = .ok (.iconst 0, 1) := by decide +kernel
theorem dX8_setLength_40 : decode cX8_setLength 40 = .ok (.ireturn, 1) := by decide +kernel
theorem dX8_setLength_41 : decode cX8_setLength 41 = .ok (.aload_n 0, 1) := by decide +kernel
theorem dX8_setLength_42 : decode cX8_setLength 42 = .ok (.invokevirtual 190, 3) := by decide +kernel
theorem dX8_setLength_45 : decode cX8_setLength 45 = .ok (.aload_n 0, 1) := by decide +kernel
theorem dX8_setLength_46 : decode cX8_setLength 46 = .ok (.getfield 16, 3) := by decide +kernel
theorem dX8_setLength_49 : decode cX8_setLength 49 = .ok (.bipush 44, 2) := by decide +kernel
theorem dX8_setLength_51 : decode cX8_setLength 51 = .ok (.iload_n 1, 1) := by decide +kernel
theorem dX8_setLength_52 : decode cX8_setLength 52 = .ok (.iadd, 1) := by decide +kernel
theorem dX8_setLength_53 : decode cX8_setLength 53 = .ok (.iaload, 1) := by decide +kernel
theorem dX8_setLength_54 : decode cX8_setLength 54 = .ok (.istore_n 3, 1) := by decide +kernel
theorem dX8_setLength_55 : decode cX8_setLength 55 = .ok (.aload_n 0, 1) := by decide +kernel
theorem dX8_setLength_56 : decode cX8_setLength 56 = .ok (.getfield 16, 3) := by decide +kernel
theorem dX8_setLength_59 : decode cX8_setLength 59 = .ok (.bipush 44, 2) := by decide +kernel
theorem dX8_setLength_61 : decode cX8_setLength 61 = .ok (.iload_n 1, 1) := by decide +kernel
theorem dX8_setLength_62 : decode cX8_setLength 62 = .ok (.iadd, 1) := by decide +kernel
theorem dX8_setLength_63 : decode cX8_setLength 63 = .ok (.iload_n 2, 1) := by decide +kernel
theorem dX8_setLength_64 : decode cX8_setLength 64 = .ok (.iastore, 1) := by decide +kernel
theorem dX8_setLength_65 : decode cX8_setLength 65 = .ok (.iload_n 3, 1) := by decide +kernel
theorem dX8_setLength_66 : decode cX8_setLength 66 = .ok (.ireturn, 1) := by decide +kernel
theorem dX8_close_0 : decode cX8_close 0 = .ok (.aload_n 0, 1) := by decide +kernel
theorem dX8_close_1 : decode cX8_close 1 = .ok (.aload_n 0, 1) := by decide +kernel
theorem dX8_close_2 : decode cX8_close 2 = .ok (.getfield 16, 3) := by decide +kernel
theorem dX8_close_5 : decode cX8_close 5 = .ok (.iload_n 1, 1) := by decide +kernel
theorem dX8_close_6 : decode cX8_close 6 = .ok (.invokestatic 173, 3) := by decide +kernel
theorem dX8_close_9 : decode cX8_close 9 = .ok (.ifCond .eq 7, 3) := by decide +kernel
theorem dX8_close_12 : decode cX8_close 12 = .ok (.iconst 0, 1) := by decide +kernel
theorem dX8_close_13 : decode cX8_close 13 = .ok (.goto 4, 3) := by decide +kernel
theorem dX8_close_16 : decode cX8_close 16 = .ok (.iconst 1, 1) := by decide +kernel
theorem dX8_close_17 : decode cX8_close 17 = .ok (.invokevirtual 103, 3) := by decide +kernel
theorem dX8_close_20 : decode cX8_close 20 = .ok (.ifCond .eq 5, 3) := by decide +kernel
theorem dX8_close_23 : decode cX8_close 23 = .ok (.iconst 0, 1) := by decide +kernel
theorem dX8_close_24 : decode cX8_close 24 = .ok (.ireturn, 1) := by decide +kernel
theorem dX8_close_25 : decode cX8_close 25 = .ok (.aload_n 0, 1) := by decide +kernel
theorem dX8_close_26 : decode cX8_close 26 = .ok (.invokevirtual 190, 3) := by decide +kernel
theorem dX8_close_29 : decode cX8_close 29 = .ok (.aload_n 0, 1) := by decide +kernel
theorem dX8_close_30 : decode cX8_close 30 = .ok (.getfield 16, 3) := by decide +kernel
theorem dX8_close_33 : decode cX8_close 33 = .ok (.bipush 64, 2) := by decide +kernel
theorem dX8_close_35 : decode cX8_close 35 = .ok (.iload_n 1, 1) := by decide +kernel
theorem dX8_close_36 : decode cX8_close 36 = .ok (.iadd, 1) := by decide +kernel
theorem dX8_close_37 : decode cX8_close 37 = .ok (.iload_n 2, 1) := by decide +kernel
theorem dX8_close_38 : decode cX8_close 38 = .ok (.ifCond .eq 7, 3) := by decide +kernel
theorem dX8_close_41 : decode cX8_close 41 = .ok (.iconst 1, 1) := by decide +kernel
theorem dX8_close_42 : decode cX8_close 42 = .ok (.goto 4, 3) := by decide +kernel
theorem dX8_close_45 : decode cX8_close 45 = .ok (.iconst 0, 1) := by decide +kernel
theorem dX8_close_46 : decode cX8_close 46 = .ok (.iastore, 1) := by decide +kernel
theorem dX8_close_47 : decode cX8_close 47 = .ok (.aload_n 0, 1) := by decide +kernel
theorem dX8_close_48 : decode cX8_close 48 = .ok (.aload_n 0, 1) := by decide +kernel
theorem dX8_close_49 : decode cX8_close 49 = .ok (.getfield 16, 3) := by decide +kernel
theorem dX8_close_52 : decode cX8_close 52 = .ok (.sipush (-999), 3) := by decide +kernel
theorem dX8_close_55 : decode cX8_close 55 = .ok (.invokevirtual 88, 3) := by decide +kernel
theorem dX8_close_58 : decode cX8_close 58 = .ok (.ireturn, 1) := by decide +kernel
theorem dX8_setEnds_0 : decode cX8_setEnds 0 = .ok (.aload_n 0, 1) := by decide +kernel
theorem dX8_setEnds_1 : decode cX8_setEnds 1 = .ok (.aload_n 0, 1) := by decide +kernel
theorem dX8_setEnds_2 : decode cX8_setEnds 2 = .ok (.getfield 16, 3) := by decide +kernel
theorem dX8_setEnds_5 : decode cX8_setEnds 5 = .ok (.iload_n 1, 1) := by decide +kernel
theorem dX8_setEnds_6 : decode cX8_setEnds 6 = .ok (.invokestatic 182, 3) := by decide +kernel
theorem dX8_setEnds_9 : decode cX8_setEnds 9 = .ok (.ifCond .eq 14, 3) := by decide +kernel
theorem dX8_setEnds_12 : decode cX8_setEnds 12 = .ok (.aload_n 0, 1) := by decide +kernel
theorem dX8_setEnds_13 : decode cX8_setEnds 13 = .ok (.getfield 16, 3) := by decide +kernel
theorem dX8_setEnds_16 : decode cX8_setEnds 16 = .ok (.iload_n 2, 1) := by decide +kernel
theorem dX8_setEnds_17 : decode cX8_setEnds 17 = .ok (.invokestatic 182, 3) := by decide +kernel
theorem dX8_setEnds_20 : decode cX8_setEnds 20 = .ok (.ifCond .ne 7, 3) := by decide +kernel
theorem dX8_setEnds_23 : decode cX8_setEnds 23 = .ok (.iconst 1, 1) := by decide +kernel
theorem dX8_setEnds_24 : decode cX8_setEnds 24 = .ok (.goto 13, 3) := by decide +kernel
theorem dX8_setEnds_27 : decode cX8_setEnds 27 = .ok (.iload_n 1, 1) := by decide +kernel
theorem dX8_setEnds_28 : decode cX8_setEnds 28 = .ok (.iload_n 2, 1) := by decide +kernel
theorem dX8_setEnds_29 : decode cX8_setEnds 29 = .ok (.if_icmp .ne 7, 3) := by decide +kernel
theorem dX8_setEnds_32 : decode cX8_setEnds 32 = .ok (.iconst 2, 1) := by decide +kernel
theorem dX8_setEnds_33 : decode cX8_setEnds 33 = .ok (.goto 4, 3) := by decide +kernel
theorem dX8_setEnds_36 : decode cX8_setEnds 36 = .ok (.iconst 0, 1) := by decide +kernel
theorem dX8_setEnds_37 : decode cX8_setEnds 37 = .ok (.invokevirtual 103, 3) := by decide +kernel
theorem dX8_setEnds_40 : decode cX8_setEnds 40 = .ok (.ifCond .eq 5, 3) := by decide +kernel
theorem dX8_setEnds_43 : decode cX8_setEnds 43 = .ok (.iconst 0, 1) := by decide +kernel
theorem dX8_setEnds_44 : decode cX8_setEnds 44 = .ok (.ireturn, 1) := by decide +kernel
theorem dX8_setEnds_45 : decode cX8_setEnds 45 = .ok (.aload_n 0, 1) := by decide +kernel
theorem dX8_setEnds_46 : decode cX8_setEnds 46 = .ok (.invokevirtual 190, 3) := by decide +kernel
theorem dX8_setEnds_49 : decode cX8_setEnds 49 = .ok (.aload_n 0, 1) := by decide +kernel
theorem dX8_setEnds_50 : decode cX8_setEnds 50 = .ok (.getfield 16, 3) := by decide +kernel
theorem dX8_setEnds_53 : decode cX8_setEnds 53 = .ok (.iconst 2, 1) := by decide +kernel
theorem dX8_setEnds_54 : decode cX8_setEnds 54 = .ok (.iload_n 1, 1) := by decide +kernel
theorem dX8_setEnds_55 : decode cX8_setEnds 55 = .ok (.iastore, 1) := by decide +kernel
theorem dX8_setEnds_56 : decode cX8_setEnds 56 = .ok (.aload_n 0, 1) := by decide +kernel
theorem dX8_setEnds_57 : decode cX8_setEnds 57 = .ok (.getfield 16, 3) := by decide +kernel
theorem dX8_setEnds_60 : decode cX8_setEnds 60 = .ok (.iconst 3, 1) := by decide +kernel
theorem dX8_setEnds_61 : decode cX8_setEnds 61 = .ok (.iload_n 2, 1) := by decide +kernel
theorem dX8_setEnds_62 : decode cX8_setEnds 62 = .ok (.iastore, 1) := by decide +kernel
theorem dX8_setEnds_63 : decode cX8_setEnds 63 = .ok (.aload_n 0, 1) := by decide +kernel
theorem dX8_setEnds_64 : decode cX8_setEnds 64 = .ok (.aload_n 0, 1) := by decide +kernel
theorem dX8_setEnds_65 : decode cX8_setEnds 65 = .ok (.getfield 16, 3) := by decide +kernel
theorem dX8_setEnds_68 : decode cX8_setEnds 68 = .ok (.sipush (-999), 3) := by decide +kernel
theorem dX8_setEnds_71 : decode cX8_setEnds 71 = .ok (.invokevirtual 88, 3) := by decide +kernel
theorem dX8_setEnds_74 : decode cX8_setEnds 74 = .ok (.ireturn, 1) := by decide +kernel
theorem dX8_command_0 : decode cX8_command 0 = .ok (.aload_n 0, 1) := by decide +kernel
theorem dX8_command_1 : decode cX8_command 1 = .ok (.getfield 16, 3) := by decide +kernel
theorem dX8_command_4 : decode cX8_command 4 = .ok (.iconst 2, 1) := by decide +kernel
theorem dX8_command_5 : decode cX8_command 5 = .ok (.iaload, 1) := by decide +kernel
theorem dX8_command_6 : decode cX8_command 6 = .ok (.istore_n 1, 1) := by decide +kernel
theorem dX8_command_7 : decode cX8_command 7 = .ok (.aload_n 0, 1) := by decide +kernel
theorem dX8_command_8 : decode cX8_command 8 = .ok (.getfield 130, 3) := by decide +kernel
theorem dX8_command_11 : decode cX8_command 11 = .ok (.tableswitch 175 0 3 #[29, 29, 63, 112], 29) := by decide +kernel
theorem dX8_command_40 : decode cX8_command 40 = .ok (.aload_n 0, 1) := by decide +kernel
theorem dX8_command_41 : decode cX8_command 41 = .ok (.getfield 16, 3) := by decide +kernel
theorem dX8_command_44 : decode cX8_command 44 = .ok (.aload_n 0, 1) := by decide +kernel
theorem dX8_command_45 : decode cX8_command 45 = .ok (.getfield 143, 3) := by decide +kernel
theorem dX8_command_48 : decode cX8_command 48 = .ok (.invokestatic 173, 3) := by decide +kernel
theorem dX8_command_51 : decode cX8_command 51 = .ok (.ifCond .ne 5, 3) := by decide +kernel
theorem dX8_command_54 : decode cX8_command 54 = .ok (.iconst 0, 1) := by decide +kernel
theorem dX8_command_55 : decode cX8_command 55 = .ok (.ireturn, 1) := by decide +kernel
theorem dX8_command_56 : decode cX8_command 56 = .ok (.aload_n 0, 1) := by decide +kernel
theorem dX8_command_57 : decode cX8_command 57 = .ok (.getfield 16, 3) := by decide +kernel
theorem dX8_command_60 : decode cX8_command 60 = .ok (.bipush 64, 2) := by decide +kernel
theorem dX8_command_62 : decode cX8_command 62 = .ok (.aload_n 0, 1) := by decide +kernel
theorem dX8_command_63 : decode cX8_command 63 = .ok (.getfield 143, 3) := by decide +kernel
theorem dX8_command_66 : decode cX8_command 66 = .ok (.iadd, 1) := by decide +kernel
theorem dX8_command_67 : decode cX8_command 67 = .ok (.aload_n 0, 1) := by decide +kernel
theorem dX8_command_68 : decode cX8_command 68 = .ok (.getfield 130, 3) := by decide +kernel
theorem dX8_command_71 : decode cX8_command 71 = .ok (.iastore, 1) := by decide +kernel
theorem dX8_command_72 : decode cX8_command 72 = .ok (.iconst 1, 1) := by decide +kernel
theorem dX8_command_73 : decode cX8_command 73 = .ok (.ireturn, 1) := by decide +kernel
theorem dX8_command_74 : decode cX8_command 74 = .ok (.aload_n 0, 1) := by decide +kernel
theorem dX8_command_75 : decode cX8_command 75 = .ok (.getfield 16, 3) := by decide +kernel
theorem dX8_command_78 : decode cX8_command 78 = .ok (.aload_n 0, 1) := by decide +kernel
theorem dX8_command_79 : decode cX8_command 79 = .ok (.getfield 143, 3) := by decide +kernel
theorem dX8_command_82 : decode cX8_command 82 = .ok (.invokestatic 173, 3) := by decide +kernel
theorem dX8_command_85 : decode cX8_command 85 = .ok (.ifCond .eq 18, 3) := by decide +kernel
theorem dX8_command_88 : decode cX8_command 88 = .ok (.aload_n 0, 1) := by decide +kernel
theorem dX8_command_89 : decode cX8_command 89 = .ok (.getfield 146, 3) := by decide +kernel
theorem dX8_command_92 : decode cX8_command 92 = .ok (.i2l, 1) := by decide +kernel
theorem dX8_command_93 : decode cX8_command 93 = .ok (.lconst 1, 1) := by decide +kernel
theorem dX8_command_94 : decode cX8_command 94 = .ok (.ldc2_w 193, 3) := by decide +kernel
theorem dX8_command_97 : decode cX8_command 97 = .ok (.invokestatic 65, 3) := by decide +kernel
theorem dX8_command_100 : decode cX8_command 100 = .ok (.ifCond .ne 5, 3) := by decide +kernel
theorem dX8_command_103 : decode cX8_command 103 = .ok (.iconst 0, 1) := by decide +kernel
theorem dX8_command_104 : decode cX8_command 104 = .ok (.ireturn, 1) := by decide +kernel
theorem dX8_command_105 : decode cX8_command 105 = .ok (.aload_n 0, 1) := by decide +kernel
theorem dX8_command_106 : decode cX8_command 106 = .ok (.getfield 16, 3) := by decide +kernel
theorem dX8_command_109 : decode cX8_command 109 = .ok (.bipush 44, 2) := by decide +kernel
theorem dX8_command_111 : decode cX8_command 111 = .ok (.aload_n 0, 1) := by decide +kernel
theorem dX8_command_112 : decode cX8_command 112 = .ok (.getfield 143, 3) := by decide +kernel
theorem dX8_command_115 : decode cX8_command 115 = .ok (.iadd, 1) := by decide +kernel
theorem dX8_command_116 : decode cX8_command 116 = .ok (.aload_n 0, 1) := by decide +kernel
theorem dX8_command_117 : decode cX8_command 117 = .ok (.getfield 146, 3) := by decide +kernel
theorem dX8_command_120 : decode cX8_command 120 = .ok (.iastore, 1) := by decide +kernel
theorem dX8_command_121 : decode cX8_command 121 = .ok (.iconst 1, 1) := by decide +kernel
theorem dX8_command_122 : decode cX8_command 122 = .ok (.ireturn, 1) := by decide +kernel
theorem dX8_command_123 : decode cX8_command 123 = .ok (.aload_n 0, 1) := by decide +kernel
theorem dX8_command_124 : decode cX8_command 124 = .ok (.getfield 16, 3) := by decide +kernel
theorem dX8_command_127 : decode cX8_command 127 = .ok (.aload_n 0, 1) := by decide +kernel
theorem dX8_command_128 : decode cX8_command 128 = .ok (.getfield 143, 3) := by decide +kernel
theorem dX8_command_131 : decode cX8_command 131 = .ok (.invokestatic 182, 3) := by decide +kernel
theorem dX8_command_134 : decode cX8_command 134 = .ok (.ifCond .eq 28, 3) := by decide +kernel
theorem dX8_command_137 : decode cX8_command 137 = .ok (.aload_n 0, 1) := by decide +kernel
theorem dX8_command_138 : decode cX8_command 138 = .ok (.getfield 16, 3) := by decide +kernel
theorem dX8_command_141 : decode cX8_command 141 = .ok (.aload_n 0, 1) := by decide +kernel
theorem dX8_command_142 : decode cX8_command 142 = .ok (.getfield 146, 3) := by decide +kernel
theorem dX8_command_145 : decode cX8_command 145 = .ok (.invokestatic 182, 3) := by decide +kernel
theorem dX8_command_148 : decode cX8_command 148 = .ok (.ifCond .eq 14, 3) := by decide +kernel
theorem dX8_command_151 : decode cX8_command 151 = .ok (.aload_n 0, 1) := by decide +kernel
theorem dX8_command_152 : decode cX8_command 152 = .ok (.getfield 143, 3) := by decide +kernel
theorem dX8_command_155 : decode cX8_command 155 = .ok (.aload_n 0, 1) := by decide +kernel
theorem dX8_command_156 : decode cX8_command 156 = .ok (.getfield 146, 3) := by decide +kernel
theorem dX8_command_159 : decode cX8_command 159 = .ok (.if_icmp .ne 5, 3) := by decide +kernel
theorem dX8_command_162 : decode cX8_command 162 = .ok (.iconst 0, 1) := by decide +kernel
theorem dX8_command_163 : decode cX8_command 163 = .ok (.ireturn, 1) := by decide +kernel
theorem dX8_command_164 : decode cX8_command 164 = .ok (.aload_n 0, 1) := by decide +kernel
theorem dX8_command_165 : decode cX8_command 165 = .ok (.getfield 16, 3) := by decide +kernel
theorem dX8_command_168 : decode cX8_command 168 = .ok (.iconst 2, 1) := by decide +kernel
theorem dX8_command_169 : decode cX8_command 169 = .ok (.aload_n 0, 1) := by decide +kernel
theorem dX8_command_170 : decode cX8_command 170 = .ok (.getfield 143, 3) := by decide +kernel
theorem dX8_command_173 : decode cX8_command 173 = .ok (.iastore, 1) := by decide +kernel
theorem dX8_command_174 : decode cX8_command 174 = .ok (.aload_n 0, 1) := by decide +kernel
theorem dX8_command_175 : decode cX8_command 175 = .ok (.getfield 16, 3) := by decide +kernel
theorem dX8_command_178 : decode cX8_command 178 = .ok (.iconst 3, 1) := by decide +kernel
theorem dX8_command_179 : decode cX8_command 179 = .ok (.aload_n 0, 1) := by decide +kernel
theorem dX8_command_180 : decode cX8_command 180 = .ok (.getfield 146, 3) := by decide +kernel
theorem dX8_command_183 : decode cX8_command 183 = .ok (.iastore, 1) := by decide +kernel
theorem dX8_command_184 : decode cX8_command 184 = .ok (.iconst 1, 1) := by decide +kernel
theorem dX8_command_185 : decode cX8_command 185 = .ok (.ireturn, 1) := by decide +kernel
theorem dX8_command_186 : decode cX8_command 186 = .ok (.aload_n 0, 1) := by decide +kernel
theorem dX8_command_187 : decode cX8_command 187 = .ok (.getfield 16, 3) := by decide +kernel
theorem dX8_command_190 : decode cX8_command 190 = .ok (.iconst 2, 1) := by decide +kernel
theorem dX8_command_191 : decode cX8_command 191 = .ok (.aload_n 0, 1) := by decide +kernel
theorem dX8_command_192 : decode cX8_command 192 = .ok (.getfield 16, 3) := by decide +kernel
theorem dX8_command_195 : decode cX8_command 195 = .ok (.iconst 3, 1) := by decide +kernel
theorem dX8_command_196 : decode cX8_command 196 = .ok (.iaload, 1) := by decide +kernel
theorem dX8_command_197 : decode cX8_command 197 = .ok (.iastore, 1) := by decide +kernel
theorem dX8_command_198 : decode cX8_command 198 = .ok (.aload_n 0, 1) := by decide +kernel
theorem dX8_command_199 : decode cX8_command 199 = .ok (.getfield 16, 3) := by decide +kernel
theorem dX8_command_202 : decode cX8_command 202 = .ok (.iconst 3, 1) := by decide +kernel
theorem dX8_command_203 : decode cX8_command 203 = .ok (.iload_n 1, 1) := by decide +kernel
theorem dX8_command_204 : decode cX8_command 204 = .ok (.iastore, 1) := by decide +kernel
theorem dX8_command_205 : decode cX8_command 205 = .ok (.iconst 1, 1) := by decide +kernel
theorem dX8_command_206 : decode cX8_command 206 = .ok (.ireturn, 1) := by decide +kernel
theorem dX8_runPlan_0 : decode cX8_runPlan 0 = .ok (.aload_n 0, 1) := by decide +kernel
theorem dX8_runPlan_1 : decode cX8_runPlan 1 = .ok (.aload_n 0, 1) := by decide +kernel
theorem dX8_runPlan_2 : decode cX8_runPlan 2 = .ok (.invokevirtual 152, 3) := by decide +kernel
theorem dX8_runPlan_5 : decode cX8_runPlan 5 = .ok (.ifCond .eq 7, 3) := by decide +kernel
theorem dX8_runPlan_8 : decode cX8_runPlan 8 = .ok (.iconst 0, 1) := by decide +kernel
theorem dX8_runPlan_9 : decode cX8_runPlan 9 = .ok (.goto 4, 3) := by decide +kernel
theorem dX8_runPlan_12 : decode cX8_runPlan 12 = .ok (.iconst 1, 1) := by decide +kernel
theorem dX8_runPlan_13 : decode cX8_runPlan 13 = .ok (.invokevirtual 103, 3) := by decide +kernel
theorem dX8_runPlan_16 : decode cX8_runPlan 16 = .ok (.ifCond .eq 5, 3) := by decide +kernel
theorem dX8_runPlan_19 : decode cX8_runPlan 19 = .ok (.iconst 0, 1) := by decide +kernel
theorem dX8_runPlan_20 : decode cX8_runPlan 20 = .ok (.ireturn, 1) := by decide +kernel
theorem dX8_runPlan_21 : decode cX8_runPlan 21 = .ok (.aload_n 0, 1) := by decide +kernel
theorem dX8_runPlan_22 : decode cX8_runPlan 22 = .ok (.invokevirtual 190, 3) := by decide +kernel
theorem dX8_runPlan_25 : decode cX8_runPlan 25 = .ok (.iconst 0, 1) := by decide +kernel
theorem dX8_runPlan_26 : decode cX8_runPlan 26 = .ok (.istore_n 1, 1) := by decide +kernel
theorem dX8_runPlan_27 : decode cX8_runPlan 27 = .ok (.aload_n 0, 1) := by decide +kernel
theorem dX8_runPlan_28 : decode cX8_runPlan 28 = .ok (.iconst 0, 1) := by decide +kernel
theorem dX8_runPlan_29 : decode cX8_runPlan 29 = .ok (.putfield 107, 3) := by decide +kernel
theorem dX8_runPlan_32 : decode cX8_runPlan 32 = .ok (.aload_n 0, 1) := by decide +kernel
theorem dX8_runPlan_33 : decode cX8_runPlan 33 = .ok (.getfield 100, 3) := by decide +kernel
theorem dX8_runPlan_36 : decode cX8_runPlan 36 = .ok (.ifCond .le 7, 3) := by decide +kernel
theorem dX8_runPlan_39 : decode cX8_runPlan 39 = .ok (.iconst 1, 1) := by decide +kernel
theorem dX8_runPlan_40 : decode cX8_runPlan 40 = .ok (.goto 4, 3) := by decide +kernel
theorem dX8_runPlan_43 : decode cX8_runPlan 43 = .ok (.iconst 0, 1) := by decide +kernel
theorem dX8_runPlan_44 : decode cX8_runPlan 44 = .ok (.istore_n 2, 1) := by decide +kernel
theorem dX8_runPlan_45 : decode cX8_runPlan 45 = .ok (.iload_n 2, 1) := by decide +kernel
theorem dX8_runPlan_46 : decode cX8_runPlan 46 = .ok (.ifCond .eq 55, 3) := by decide +kernel
theorem dX8_runPlan_49 : decode cX8_runPlan 49 = .ok (.aload_n 0, 1) := by decide +kernel
theorem dX8_runPlan_50 : decode cX8_runPlan 50 = .ok (.invokevirtual 149, 3) := by decide +kernel
theorem dX8_runPlan_53 : decode cX8_runPlan 53 = .ok (.ifCond .eq 14, 3) := by decide +kernel
theorem dX8_runPlan_56 : decode cX8_runPlan 56 = .ok (.aload_n 0, 1) := by decide +kernel
theorem dX8_runPlan_57 : decode cX8_runPlan 57 = .ok (.invokevirtual 201, 3) := by decide +kernel
theorem dX8_runPlan_60 : decode cX8_runPlan 60 = .ok (.ifCond .eq 7, 3) := by decide +kernel
theorem dX8_runPlan_63 : decode cX8_runPlan 63 = .ok (.iconst 1, 1) := by decide +kernel
theorem dX8_runPlan_64 : decode cX8_runPlan 64 = .ok (.goto 4, 3) := by decide +kernel
theorem dX8_runPlan_67 : decode cX8_runPlan 67 = .ok (.iconst 0, 1) := by decide +kernel
theorem dX8_runPlan_68 : decode cX8_runPlan 68 = .ok (.istore_n 2, 1) := by decide +kernel
theorem dX8_runPlan_69 : decode cX8_runPlan 69 = .ok (.iload_n 1, 1) := by decide +kernel
theorem dX8_runPlan_70 : decode cX8_runPlan 70 = .ok (.iload_n 2, 1) := by decide +kernel
theorem dX8_runPlan_71 : decode cX8_runPlan 71 = .ok (.ifCond .eq 7, 3) := by decide +kernel
theorem dX8_runPlan_74 : decode cX8_runPlan 74 = .ok (.iconst 1, 1) := by decide +kernel
theorem dX8_runPlan_75 : decode cX8_runPlan 75 = .ok (.goto 4, 3) := by decide +kernel
theorem dX8_runPlan_78 : decode cX8_runPlan 78 = .ok (.iconst 0, 1) := by decide +kernel
theorem dX8_runPlan_79 : decode cX8_runPlan 79 = .ok (.iadd, 1) := by decide +kernel
theorem dX8_runPlan_80 : decode cX8_runPlan 80 = .ok (.istore_n 1, 1) := by decide +kernel
theorem dX8_runPlan_81 : decode cX8_runPlan 81 = .ok (.iload_n 2, 1) := by decide +kernel
theorem dX8_runPlan_82 : decode cX8_runPlan 82 = .ok (.ifCond .eq 14, 3) := by decide +kernel
theorem dX8_runPlan_85 : decode cX8_runPlan 85 = .ok (.aload_n 0, 1) := by decide +kernel
theorem dX8_runPlan_86 : decode cX8_runPlan 86 = .ok (.invokevirtual 136, 3) := by decide +kernel
theorem dX8_runPlan_89 : decode cX8_runPlan 89 = .ok (.ifCond .eq 7, 3) := by decide +kernel
theorem dX8_runPlan_92 : decode cX8_runPlan 92 = .ok (.iconst 1, 1) := by decide +kernel
theorem dX8_runPlan_93 : decode cX8_runPlan 93 = .ok (.goto 4, 3) := by decide +kernel
theorem dX8_runPlan_96 : decode cX8_runPlan 96 = .ok (.iconst 0, 1) := by decide +kernel
theorem dX8_runPlan_97 : decode cX8_runPlan 97 = .ok (.istore_n 2, 1) := by decide +kernel
theorem dX8_runPlan_98 : decode cX8_runPlan 98 = .ok (.goto (-53), 3) := by decide +kernel
theorem dX8_runPlan_101 : decode cX8_runPlan 101 = .ok (.iload_n 1, 1) := by decide +kernel
theorem dX8_runPlan_102 : decode cX8_runPlan 102 = .ok (.ireturn, 1) := by decide +kernel
theorem dX8_undo_0 : decode cX8_undo 0 = .ok (.aload_n 0, 1) := by decide +kernel
theorem dX8_undo_1 : decode cX8_undo 1 = .ok (.aload_n 0, 1) := by decide +kernel
theorem dX8_undo_2 : decode cX8_undo 2 = .ok (.getfield 158, 3) := by decide +kernel
theorem dX8_undo_5 : decode cX8_undo 5 = .ok (.ifCond .ne 7, 3) := by decide +kernel
theorem dX8_undo_8 : decode cX8_undo 8 = .ok (.iconst 1, 1) := by decide +kernel
theorem dX8_undo_9 : decode cX8_undo 9 = .ok (.goto 4, 3) := by decide +kernel
theorem dX8_undo_12 : decode cX8_undo 12 = .ok (.iconst 0, 1) := by decide +kernel
theorem dX8_undo_13 : decode cX8_undo 13 = .ok (.invokevirtual 103, 3) := by decide +kernel
theorem dX8_undo_16 : decode cX8_undo 16 = .ok (.ifCond .eq 5, 3) := by decide +kernel
theorem dX8_undo_19 : decode cX8_undo 19 = .ok (.iconst 0, 1) := by decide +kernel
theorem dX8_undo_20 : decode cX8_undo 20 = .ok (.ireturn, 1) := by decide +kernel
theorem dX8_undo_21 : decode cX8_undo 21 = .ok (.aload_n 0, 1) := by decide +kernel
theorem dX8_undo_22 : decode cX8_undo 22 = .ok (.dup, 1) := by decide +kernel
theorem dX8_undo_23 : decode cX8_undo 23 = .ok (.getfield 158, 3) := by decide +kernel
theorem dX8_undo_26 : decode cX8_undo 26 = .ok (.iconst 1, 1) := by decide +kernel
theorem dX8_undo_27 : decode cX8_undo 27 = .ok (.isub, 1) := by decide +kernel
theorem dX8_undo_28 : decode cX8_undo 28 = .ok (.putfield 158, 3) := by decide +kernel
theorem dX8_undo_31 : decode cX8_undo 31 = .ok (.aload_n 0, 1) := by decide +kernel
theorem dX8_undo_32 : decode cX8_undo 32 = .ok (.getfield 22, 3) := by decide +kernel
theorem dX8_undo_35 : decode cX8_undo 35 = .ok (.bipush 84, 2) := by decide +kernel
theorem dX8_undo_37 : decode cX8_undo 37 = .ok (.aload_n 0, 1) := by decide +kernel
theorem dX8_undo_38 : decode cX8_undo 38 = .ok (.getfield 158, 3) := by decide +kernel
theorem dX8_undo_41 : decode cX8_undo 41 = .ok (.imul, 1) := by decide +kernel
theorem dX8_undo_42 : decode cX8_undo 42 = .ok (.aload_n 0, 1) := by decide +kernel
theorem dX8_undo_43 : decode cX8_undo 43 = .ok (.getfield 16, 3) := by decide +kernel
theorem dX8_undo_46 : decode cX8_undo 46 = .ok (.iconst 0, 1) := by decide +kernel
theorem dX8_undo_47 : decode cX8_undo 47 = .ok (.invokestatic 161, 3) := by decide +kernel
theorem dX8_undo_50 : decode cX8_undo 50 = .ok (.aload_n 0, 1) := by decide +kernel
theorem dX8_undo_51 : decode cX8_undo 51 = .ok (.getfield 158, 3) := by decide +kernel
theorem dX8_undo_54 : decode cX8_undo 54 = .ok (.ireturn, 1) := by decide +kernel
theorem dX8_without_0 : decode cX8_without 0 = .ok (.aload_n 0, 1) := by decide +kernel
theorem dX8_without_1 : decode cX8_without 1 = .ok (.aload_n 0, 1) := by decide +kernel
theorem dX8_without_2 : decode cX8_without 2 = .ok (.getfield 16, 3) := by decide +kernel
theorem dX8_without_5 : decode cX8_without 5 = .ok (.iload_n 1, 1) := by decide +kernel
theorem dX8_without_6 : decode cX8_without 6 = .ok (.invokestatic 173, 3) := by decide +kernel
theorem dX8_without_9 : decode cX8_without 9 = .ok (.ifCond .eq 7, 3) := by decide +kernel
theorem dX8_without_12 : decode cX8_without 12 = .ok (.iconst 0, 1) := by decide +kernel
theorem dX8_without_13 : decode cX8_without 13 = .ok (.goto 4, 3) := by decide +kernel
theorem dX8_without_16 : decode cX8_without 16 = .ok (.iconst 1, 1) := by decide +kernel
theorem dX8_without_17 : decode cX8_without 17 = .ok (.invokevirtual 103, 3) := by decide +kernel
theorem dX8_without_20 : decode cX8_without 20 = .ok (.ifCond .eq 5, 3) := by decide +kernel
theorem dX8_without_23 : decode cX8_without 23 = .ok (.iconst 0, 1) := by decide +kernel
theorem dX8_without_24 : decode cX8_without 24 = .ok (.ireturn, 1) := by decide +kernel
theorem dX8_without_25 : decode cX8_without 25 = .ok (.aload_n 0, 1) := by decide +kernel
theorem dX8_without_26 : decode cX8_without 26 = .ok (.aload_n 0, 1) := by decide +kernel
theorem dX8_without_27 : decode cX8_without 27 = .ok (.getfield 16, 3) := by decide +kernel
theorem dX8_without_30 : decode cX8_without 30 = .ok (.iload_n 1, 1) := by decide +kernel
theorem dX8_without_31 : decode cX8_without 31 = .ok (.invokevirtual 88, 3) := by decide +kernel
theorem dX8_without_34 : decode cX8_without 34 = .ok (.ireturn, 1) := by decide +kernel
theorem dX8_withoutAt_0 : decode cX8_withoutAt 0 = .ok (.aload_n 0, 1) := by decide +kernel
theorem dX8_withoutAt_1 : decode cX8_withoutAt 1 = .ok (.aload_n 0, 1) := by decide +kernel
theorem dX8_withoutAt_2 : decode cX8_withoutAt 2 = .ok (.getfield 16, 3) := by decide +kernel
theorem dX8_withoutAt_5 : decode cX8_withoutAt 5 = .ok (.iload_n 1, 1) := by decide +kernel
theorem dX8_withoutAt_6 : decode cX8_withoutAt 6 = .ok (.invokestatic 173, 3) := by decide +kernel
theorem dX8_withoutAt_9 : decode cX8_withoutAt 9 = .ok (.ifCond .ne 7, 3) := by decide +kernel
theorem dX8_withoutAt_12 : decode cX8_withoutAt 12 = .ok (.iconst 1, 1) := by decide +kernel
theorem dX8_withoutAt_13 : decode cX8_withoutAt 13 = .ok (.goto 12, 3) := by decide +kernel
theorem dX8_withoutAt_16 : decode cX8_withoutAt 16 = .ok (.iload_n 2, 1) := by decide +kernel
theorem dX8_withoutAt_17 : decode cX8_withoutAt 17 = .ok (.ifCond .ge 7, 3) := by decide +kernel
theorem dX8_withoutAt_20 : decode cX8_withoutAt 20 = .ok (.iconst 2, 1) := by decide +kernel
theorem dX8_withoutAt_21 : decode cX8_withoutAt 21 = .ok (.goto 4, 3) := by decide +kernel
theorem dX8_withoutAt_24 : decode cX8_withoutAt 24 = .ok (.iconst 0, 1) := by decide +kernel
theorem dX8_withoutAt_25 : decode cX8_withoutAt 25 = .ok (.invokevirtual 103, 3) := by decide +kernel
theorem dX8_withoutAt_28 : decode cX8_withoutAt 28 = .ok (.ifCond .eq 5, 3) := by decide +kernel
theorem dX8_withoutAt_31 : decode cX8_withoutAt 31 = .ok (.iconst 0, 1) := by decide +kernel
theorem dX8_withoutAt_32 : decode cX8_withoutAt 32 = .ok (.ireturn, 1) := by decide +kernel
theorem dX8_withoutAt_33 : decode cX8_withoutAt 33 = .ok (.aload_n 0, 1) := by decide +kernel
theorem dX8_withoutAt_34 : decode cX8_withoutAt 34 = .ok (.aload_n 0, 1) := by decide +kernel
theorem dX8_withoutAt_35 : decode cX8_withoutAt 35 = .ok (.getfield 16, 3) := by decide +kernel
theorem dX8_withoutAt_38 : decode cX8_withoutAt 38 = .ok (.iload_n 1, 1) := by decide +kernel
theorem dX8_withoutAt_39 : decode cX8_withoutAt 39 = .ok (.invokevirtual 170, 3) := by decide +kernel
theorem dX8_withoutAt_42 : decode cX8_withoutAt 42 = .ok (.pop, 1) := by decide +kernel
theorem dX8_withoutAt_43 : decode cX8_withoutAt 43 = .ok (.aload_n 0, 1) := by decide +kernel
theorem dX8_withoutAt_44 : decode cX8_withoutAt 44 = .ok (.iload_n 2, 1) := by decide +kernel
theorem dX8_withoutAt_45 : decode cX8_withoutAt 45 = .ok (.invokevirtual 187, 3) := by decide +kernel
theorem dX8_withoutAt_48 : decode cX8_withoutAt 48 = .ok (.ireturn, 1) := by decide +kernel
theorem dX8_dearest_0 : decode cX8_dearest 0 = .ok (.aload_n 0, 1) := by decide +kernel
theorem dX8_dearest_1 : decode cX8_dearest 1 = .ok (.aload_n 0, 1) := by decide +kernel
theorem dX8_dearest_2 : decode cX8_dearest 2 = .ok (.getfield 16, 3) := by decide +kernel
theorem dX8_dearest_5 : decode cX8_dearest 5 = .ok (.sipush (-999), 3) := by decide +kernel
theorem dX8_dearest_8 : decode cX8_dearest 8 = .ok (.invokevirtual 170, 3) := by decide +kernel
theorem dX8_dearest_11 : decode cX8_dearest 11 = .ok (.pop, 1) := by decide +kernel
theorem dX8_dearest_12 : decode cX8_dearest 12 = .ok (.sipush (-999), 3) := by decide +kernel
theorem dX8_dearest_15 : decode cX8_dearest 15 = .ok (.istore_n 1, 1) := by decide +kernel
theorem dX8_dearest_16 : decode cX8_dearest 16 = .ok (.iconst 0, 1) := by decide +kernel
theorem dX8_dearest_17 : decode cX8_dearest 17 = .ok (.istore_n 2, 1) := by decide +kernel
theorem dX8_dearest_18 : decode cX8_dearest 18 = .ok (.iconst 0, 1) := by decide +kernel
theorem dX8_dearest_19 : decode cX8_dearest 19 = .ok (.istore_n 3, 1) := by decide +kernel
theorem dX8_dearest_20 : decode cX8_dearest 20 = .ok (.iload_n 3, 1) := by decide +kernel
theorem dX8_dearest_21 : decode cX8_dearest 21 = .ok (.aload_n 0, 1) := by decide +kernel
theorem dX8_dearest_22 : decode cX8_dearest 22 = .ok (.getfield 16, 3) := by decide +kernel
theorem dX8_dearest_25 : decode cX8_dearest 25 = .ok (.iconst 1, 1) := by decide +kernel
theorem dX8_dearest_26 : decode cX8_dearest 26 = .ok (.iaload, 1) := by decide +kernel
theorem dX8_dearest_27 : decode cX8_dearest 27 = .ok (.if_icmp .ge 86, 3) := by decide +kernel
theorem dX8_dearest_30 : decode cX8_dearest 30 = .ok (.aload_n 0, 1) := by decide +kernel
theorem dX8_dearest_31 : decode cX8_dearest 31 = .ok (.getfield 16, 3) := by decide +kernel
theorem dX8_dearest_34 : decode cX8_dearest 34 = .ok (.bipush 64, 2) := by decide +kernel
theorem dX8_dearest_36 : decode cX8_dearest 36 = .ok (.iload_n 3, 1) := by decide +kernel
theorem dX8_dearest_37 : decode cX8_dearest 37 = .ok (.iadd, 1) := by decide +kernel
theorem dX8_dearest_38 : decode cX8_dearest 38 = .ok (.iaload, 1) := by decide +kernel
theorem dX8_dearest_39 : decode cX8_dearest 39 = .ok (.ifCond .ne 68, 3) := by decide +kernel
theorem dX8_dearest_42 : decode cX8_dearest 42 = .ok (.aload_n 0, 1) := by decide +kernel
theorem dX8_dearest_43 : decode cX8_dearest 43 = .ok (.aload_n 0, 1) := by decide +kernel
theorem dX8_dearest_44 : decode cX8_dearest 44 = .ok (.getfield 16, 3) := by decide +kernel
theorem dX8_dearest_47 : decode cX8_dearest 47 = .ok (.iload_n 3, 1) := by decide +kernel
theorem dX8_dearest_48 : decode cX8_dearest 48 = .ok (.invokevirtual 179, 3) := by decide +kernel
theorem dX8_dearest_51 : decode cX8_dearest 51 = .ok (.ifCond .eq 56, 3) := by decide +kernel
theorem dX8_dearest_54 : decode cX8_dearest 54 = .ok (.aload_n 0, 1) := by decide +kernel
theorem dX8_dearest_55 : decode cX8_dearest 55 = .ok (.aload_n 0, 1) := by decide +kernel
theorem dX8_dearest_56 : decode cX8_dearest 56 = .ok (.getfield 16, 3) := by decide +kernel
theorem dX8_dearest_59 : decode cX8_dearest 59 = .ok (.iload_n 3, 1) := by decide +kernel
theorem dX8_dearest_60 : decode cX8_dearest 60 = .ok (.invokevirtual 88, 3) := by decide +kernel
theorem dX8_dearest_63 : decode cX8_dearest 63 = .ok (.istore 4, 2) := by decide +kernel
theorem dX8_dearest_65 : decode cX8_dearest 65 = .ok (.iload 4, 2) := by decide +kernel
theorem dX8_dearest_67 : decode cX8_dearest 67 = .ok (.sipush (-999), 3) := by decide +kernel
theorem dX8_dearest_70 : decode cX8_dearest 70 = .ok (.if_icmp .ne 8, 3) := by decide +kernel
theorem dX8_dearest_73 : decode cX8_dearest 73 = .ok (.ldc 73, 2) := by decide +kernel
theorem dX8_dearest_75 : decode cX8_dearest 75 = .ok (.goto 5, 3) := by decide +kernel
theorem dX8_dearest_78 : decode cX8_dearest 78 = .ok (.iload 4, 2) := by decide +kernel
theorem dX8_dearest_80 : decode cX8_dearest 80 = .ok (.istore 5, 2) := by decide +kernel
theorem dX8_dearest_82 : decode cX8_dearest 82 = .ok (.iload 5, 2) := by decide +kernel
theorem dX8_dearest_84 : decode cX8_dearest 84 = .ok (.iload_n 2, 1) := by decide +kernel
theorem dX8_dearest_85 : decode cX8_dearest 85 = .ok (.if_icmp .le 7, 3) := by decide +kernel
theorem dX8_dearest_88 : decode cX8_dearest 88 = .ok (.iload_n 3, 1) := by decide +kernel
theorem dX8_dearest_89 : decode cX8_dearest 89 = .ok (.goto 4, 3) := by decide +kernel
theorem dX8_dearest_92 : decode cX8_dearest 92 = .ok (.iload_n 1, 1) := by decide +kernel
theorem dX8_dearest_93 : decode cX8_dearest 93 = .ok (.istore_n 1, 1) := by decide +kernel
theorem dX8_dearest_94 : decode cX8_dearest 94 = .ok (.iload 5, 2) := by decide +kernel
theorem dX8_dearest_96 : decode cX8_dearest 96 = .ok (.iload_n 2, 1) := by decide +kernel
theorem dX8_dearest_97 : decode cX8_dearest 97 = .ok (.if_icmp .le 8, 3) := by decide +kernel
theorem dX8_dearest_100 : decode cX8_dearest 100 = .ok (.iload 5, 2) := by decide +kernel
theorem dX8_dearest_102 : decode cX8_dearest 102 = .ok (.goto 4, 3) := by decide +kernel
theorem dX8_dearest_105 : decode cX8_dearest 105 = .ok (.iload_n 2, 1) := by decide +kernel
theorem dX8_dearest_106 : decode cX8_dearest 106 = .ok (.istore_n 2, 1) := by decide +kernel
theorem dX8_dearest_107 : decode cX8_dearest 107 = .ok (.iinc 3 1, 3) := by decide +kernel
theorem dX8_dearest_110 : decode cX8_dearest 110 = .ok (.goto (-90), 3) := by decide +kernel
theorem dX8_dearest_113 : decode cX8_dearest 113 = .ok (.iload_n 1, 1) := by decide +kernel
theorem dX8_dearest_114 : decode cX8_dearest 114 = .ok (.ireturn, 1) := by decide +kernel
theorem dX8_upTo_0 : decode cX8_upTo 0 = .ok (.aload_n 0, 1) := by decide +kernel
theorem dX8_upTo_1 : decode cX8_upTo 1 = .ok (.aload_n 0, 1) := by decide +kernel
theorem dX8_upTo_2 : decode cX8_upTo 2 = .ok (.getfield 16, 3) := by decide +kernel
theorem dX8_upTo_5 : decode cX8_upTo 5 = .ok (.iload_n 1, 1) := by decide +kernel
theorem dX8_upTo_6 : decode cX8_upTo 6 = .ok (.invokestatic 173, 3) := by decide +kernel
theorem dX8_upTo_9 : decode cX8_upTo 9 = .ok (.ifCond .eq 7, 3) := by decide +kernel
theorem dX8_upTo_12 : decode cX8_upTo 12 = .ok (.iconst 0, 1) := by decide +kernel
theorem dX8_upTo_13 : decode cX8_upTo 13 = .ok (.goto 4, 3) := by decide +kernel
theorem dX8_upTo_16 : decode cX8_upTo 16 = .ok (.iconst 1, 1) := by decide +kernel
theorem dX8_upTo_17 : decode cX8_upTo 17 = .ok (.invokevirtual 103, 3) := by decide +kernel
theorem dX8_upTo_20 : decode cX8_upTo 20 = .ok (.ifCond .eq 5, 3) := by decide +kernel
theorem dX8_upTo_23 : decode cX8_upTo 23 = .ok (.iconst 0, 1) := by decide +kernel
theorem dX8_upTo_24 : decode cX8_upTo 24 = .ok (.ireturn, 1) := by decide +kernel
theorem dX8_upTo_25 : decode cX8_upTo 25 = .ok (.aload_n 0, 1) := by decide +kernel
theorem dX8_upTo_26 : decode cX8_upTo 26 = .ok (.getfield 16, 3) := by decide +kernel
theorem dX8_upTo_29 : decode cX8_upTo 29 = .ok (.iconst 0, 1) := by decide +kernel
theorem dX8_upTo_30 : decode cX8_upTo 30 = .ok (.aload_n 0, 1) := by decide +kernel
theorem dX8_upTo_31 : decode cX8_upTo 31 = .ok (.getfield 19, 3) := by decide +kernel
theorem dX8_upTo_34 : decode cX8_upTo 34 = .ok (.iconst 0, 1) := by decide +kernel
theorem dX8_upTo_35 : decode cX8_upTo 35 = .ok (.invokestatic 161, 3) := by decide +kernel
theorem dX8_upTo_38 : decode cX8_upTo 38 = .ok (.bipush 99, 2) := by decide +kernel
theorem dX8_upTo_40 : decode cX8_upTo 40 = .ok (.istore_n 2, 1) := by decide +kernel
theorem dX8_upTo_41 : decode cX8_upTo 41 = .ok (.iload_n 2, 1) := by decide +kernel
theorem dX8_upTo_42 : decode cX8_upTo 42 = .ok (.ifCond .le 57, 3) := by decide +kernel
theorem dX8_upTo_45 : decode cX8_upTo 45 = .ok (.aload_n 0, 1) := by decide +kernel
theorem dX8_upTo_46 : decode cX8_upTo 46 = .ok (.getfield 16, 3) := by decide +kernel
theorem dX8_upTo_49 : decode cX8_upTo 49 = .ok (.bipush 64, 2) := by decide +kernel
theorem dX8_upTo_51 : decode cX8_upTo 51 = .ok (.iload_n 1, 1) := by decide +kernel
theorem dX8_upTo_52 : decode cX8_upTo 52 = .ok (.iadd, 1) := by decide +kernel
theorem dX8_upTo_53 : decode cX8_upTo 53 = .ok (.iaload, 1) := by decide +kernel
theorem dX8_upTo_54 : decode cX8_upTo 54 = .ok (.ifCond .ne 45, 3) := by decide +kernel
theorem dX8_upTo_57 : decode cX8_upTo 57 = .ok (.aload_n 0, 1) := by decide +kernel
theorem dX8_upTo_58 : decode cX8_upTo 58 = .ok (.getfield 19, 3) := by decide +kernel
theorem dX8_upTo_61 : decode cX8_upTo 61 = .ok (.bipush 44, 2) := by decide +kernel
theorem dX8_upTo_63 : decode cX8_upTo 63 = .ok (.iload_n 1, 1) := by decide +kernel
theorem dX8_upTo_64 : decode cX8_upTo 64 = .ok (.iadd, 1) := by decide +kernel
theorem dX8_upTo_65 : decode cX8_upTo 65 = .ok (.iload_n 2, 1) := by decide +kernel
theorem dX8_upTo_66 : decode cX8_upTo 66 = .ok (.iastore, 1) := by decide +kernel
theorem dX8_upTo_67 : decode cX8_upTo 67 = .ok (.aload_n 0, 1) := by decide +kernel
theorem dX8_upTo_68 : decode cX8_upTo 68 = .ok (.aload_n 0, 1) := by decide +kernel
theorem dX8_upTo_69 : decode cX8_upTo 69 = .ok (.getfield 19, 3) := by decide +kernel
theorem dX8_upTo_72 : decode cX8_upTo 72 = .ok (.sipush (-999), 3) := by decide +kernel
theorem dX8_upTo_75 : decode cX8_upTo 75 = .ok (.invokevirtual 170, 3) := by decide +kernel
theorem dX8_upTo_78 : decode cX8_upTo 78 = .ok (.pop, 1) := by decide +kernel
theorem dX8_upTo_79 : decode cX8_upTo 79 = .ok (.aload_n 0, 1) := by decide +kernel
theorem dX8_upTo_80 : decode cX8_upTo 80 = .ok (.aload_n 0, 1) := by decide +kernel
theorem dX8_upTo_81 : decode cX8_upTo 81 = .ok (.getfield 19, 3) := by decide +kernel
theorem dX8_upTo_84 : decode cX8_upTo 84 = .ok (.iload_n 1, 1) := by decide +kernel
theorem dX8_upTo_85 : decode cX8_upTo 85 = .ok (.invokevirtual 179, 3) := by decide +kernel
theorem dX8_upTo_88 : decode cX8_upTo 88 = .ok (.ifCond .eq 5, 3) := by decide +kernel
theorem dX8_upTo_91 : decode cX8_upTo 91 = .ok (.iload_n 2, 1) := by decide +kernel
theorem dX8_upTo_92 : decode cX8_upTo 92 = .ok (.ireturn, 1) := by decide +kernel
theorem dX8_upTo_93 : decode cX8_upTo 93 = .ok (.iinc 2 (-1), 3) := by decide +kernel
theorem dX8_upTo_96 : decode cX8_upTo 96 = .ok (.goto (-55), 3) := by decide +kernel
theorem dX8_upTo_99 : decode cX8_upTo 99 = .ok (.sipush (-999), 3) := by decide +kernel
theorem dX8_upTo_102 : decode cX8_upTo 102 = .ok (.ireturn, 1) := by decide +kernel
theorem dX8_saves_0 : decode cX8_saves 0 = .ok (.aload_n 0, 1) := by decide +kernel
theorem dX8_saves_1 : decode cX8_saves 1 = .ok (.aload_n 0, 1) := by decide +kernel
theorem dX8_saves_2 : decode cX8_saves 2 = .ok (.getfield 16, 3) := by decide +kernel
theorem dX8_saves_5 : decode cX8_saves 5 = .ok (.iload_n 1, 1) := by decide +kernel
theorem dX8_saves_6 : decode cX8_saves 6 = .ok (.invokestatic 182, 3) := by decide +kernel
theorem dX8_saves_9 : decode cX8_saves 9 = .ok (.ifCond .eq 14, 3) := by decide +kernel
theorem dX8_saves_12 : decode cX8_saves 12 = .ok (.aload_n 0, 1) := by decide +kernel
theorem dX8_saves_13 : decode cX8_saves 13 = .ok (.getfield 16, 3) := by decide +kernel
theorem dX8_saves_16 : decode cX8_saves 16 = .ok (.iload_n 2, 1) := by decide +kernel
theorem dX8_saves_17 : decode cX8_saves 17 = .ok (.invokestatic 182, 3) := by decide +kernel
theorem dX8_saves_20 : decode cX8_saves 20 = .ok (.ifCond .ne 7, 3) := by decide +kernel
theorem dX8_saves_23 : decode cX8_saves 23 = .ok (.iconst 1, 1) := by decide +kernel
theorem dX8_saves_24 : decode cX8_saves 24 = .ok (.goto 25, 3) := by decide +kernel
theorem dX8_saves_27 : decode cX8_saves 27 = .ok (.iload_n 1, 1) := by decide +kernel
theorem dX8_saves_28 : decode cX8_saves 28 = .ok (.iload_n 2, 1) := by decide +kernel
theorem dX8_saves_29 : decode cX8_saves 29 = .ok (.if_icmp .eq 15, 3) := by decide +kernel
theorem dX8_saves_32 : decode cX8_saves 32 = .ok (.iload_n 3, 1) := by decide +kernel
theorem dX8_saves_33 : decode cX8_saves 33 = .ok (.i2l, 1) := by decide +kernel
theorem dX8_saves_34 : decode cX8_saves 34 = .ok (.lconst 1, 1) := by decide +kernel
theorem dX8_saves_35 : decode cX8_saves 35 = .ok (.ldc2_w 193, 3) := by decide +kernel
theorem dX8_saves_38 : decode cX8_saves 38 = .ok (.invokestatic 65, 3) := by decide +kernel
theorem dX8_saves_41 : decode cX8_saves 41 = .ok (.ifCond .ne 7, 3) := by decide +kernel
theorem dX8_saves_44 : decode cX8_saves 44 = .ok (.iconst 2, 1) := by decide +kernel
theorem dX8_saves_45 : decode cX8_saves 45 = .ok (.goto 4, 3) := by decide +kernel
theorem dX8_saves_48 : decode cX8_saves 48 = .ok (.iconst 0, 1) := by decide +kernel
theorem dX8_saves_49 : decode cX8_saves 49 = .ok (.invokevirtual 103, 3) := by decide +kernel
theorem dX8_saves_52 : decode cX8_saves 52 = .ok (.ifCond .eq 5, 3) := by decide +kernel
theorem dX8_saves_55 : decode cX8_saves 55 = .ok (.iconst 0, 1) := by decide +kernel
theorem dX8_saves_56 : decode cX8_saves 56 = .ok (.ireturn, 1) := by decide +kernel
theorem dX8_saves_57 : decode cX8_saves 57 = .ok (.aload_n 0, 1) := by decide +kernel
theorem dX8_saves_58 : decode cX8_saves 58 = .ok (.aload_n 0, 1) := by decide +kernel
theorem dX8_saves_59 : decode cX8_saves 59 = .ok (.getfield 16, 3) := by decide +kernel
theorem dX8_saves_62 : decode cX8_saves 62 = .ok (.sipush (-999), 3) := by decide +kernel
theorem dX8_saves_65 : decode cX8_saves 65 = .ok (.invokevirtual 88, 3) := by decide +kernel
theorem dX8_saves_68 : decode cX8_saves 68 = .ok (.istore 4, 2) := by decide +kernel
theorem dX8_saves_70 : decode cX8_saves 70 = .ok (.aload_n 0, 1) := by decide +kernel
theorem dX8_saves_71 : decode cX8_saves 71 = .ok (.iload_n 1, 1) := by decide +kernel
theorem dX8_saves_72 : decode cX8_saves 72 = .ok (.iload_n 2, 1) := by decide +kernel
theorem dX8_saves_73 : decode cX8_saves 73 = .ok (.bipush 100, 2) := by decide +kernel
theorem dX8_saves_75 : decode cX8_saves 75 = .ok (.iload_n 3, 1) := by decide +kernel
theorem dX8_saves_76 : decode cX8_saves 76 = .ok (.imul, 1) := by decide +kernel
theorem dX8_saves_77 : decode cX8_saves 77 = .ok (.iconst 1, 1) := by decide +kernel
theorem dX8_saves_78 : decode cX8_saves 78 = .ok (.iadd, 1) := by decide +kernel
theorem dX8_saves_79 : decode cX8_saves 79 = .ok (.invokevirtual 69, 3) := by decide +kernel
theorem dX8_saves_82 : decode cX8_saves 82 = .ok (.aload_n 0, 1) := by decide +kernel
theorem dX8_saves_83 : decode cX8_saves 83 = .ok (.aload_n 0, 1) := by decide +kernel
theorem dX8_saves_84 : decode cX8_saves 84 = .ok (.getfield 16, 3) := by decide +kernel
theorem dX8_saves_87 : decode cX8_saves 87 = .ok (.invokevirtual 84, 3) := by decide +kernel
theorem dX8_saves_90 : decode cX8_saves 90 = .ok (.istore 5, 2) := by decide +kernel
theorem dX8_saves_92 : decode cX8_saves 92 = .ok (.iload 4, 2) := by decide +kernel
theorem dX8_saves_94 : decode cX8_saves 94 = .ok (.sipush (-999), 3) := by decide +kernel
theorem dX8_saves_97 : decode cX8_saves 97 = .ok (.if_icmp .eq 11, 3) := by decide +kernel
theorem dX8_saves_100 : decode cX8_saves 100 = .ok (.iload 5, 2) := by decide +kernel
theorem dX8_saves_102 : decode cX8_saves 102 = .ok (.sipush (-999), 3) := by decide +kernel
theorem dX8_saves_105 : decode cX8_saves 105 = .ok (.if_icmp .ne 9, 3) := by decide +kernel
theorem dX8_saves_108 : decode cX8_saves 108 = .ok (.sipush (-999), 3) := by decide +kernel
theorem dX8_saves_111 : decode cX8_saves 111 = .ok (.goto 8, 3) := by decide +kernel
theorem dX8_saves_114 : decode cX8_saves 114 = .ok (.iload 4, 2) := by decide +kernel
theorem dX8_saves_116 : decode cX8_saves 116 = .ok (.iload 5, 2) := by decide +kernel
theorem dX8_saves_118 : decode cX8_saves 118 = .ok (.isub, 1) := by decide +kernel
theorem dX8_saves_119 : decode cX8_saves 119 = .ok (.ireturn, 1) := by decide +kernel
theorem dX8_ways_0 : decode cX8_ways 0 = .ok (.aload_n 0, 1) := by decide +kernel
theorem dX8_ways_1 : decode cX8_ways 1 = .ok (.iload_n 1, 1) := by decide +kernel
theorem dX8_ways_2 : decode cX8_ways 2 = .ok (.i2l, 1) := by decide +kernel
theorem dX8_ways_3 : decode cX8_ways 3 = .ok (.lconst 0, 1) := by decide +kernel
theorem dX8_ways_4 : decode cX8_ways 4 = .ok (.ldc2_w 204, 3) := by decide +kernel
theorem dX8_ways_7 : decode cX8_ways 7 = .ok (.invokestatic 65, 3) := by decide +kernel
theorem dX8_ways_10 : decode cX8_ways 10 = .ok (.ifCond .eq 7, 3) := by decide +kernel
theorem dX8_ways_13 : decode cX8_ways 13 = .ok (.iconst 0, 1) := by decide +kernel
theorem dX8_ways_14 : decode cX8_ways 14 = .ok (.goto 4, 3) := by decide +kernel
theorem dX8_ways_17 : decode cX8_ways 17 = .ok (.iconst 1, 1) := by decide +kernel
theorem dX8_ways_18 : decode cX8_ways 18 = .ok (.invokevirtual 103, 3) := by decide +kernel
theorem dX8_ways_21 : decode cX8_ways 21 = .ok (.ifCond .eq 5, 3) := by decide +kernel
theorem dX8_ways_24 : decode cX8_ways 24 = .ok (.iconst 0, 1) := by decide +kernel
theorem dX8_ways_25 : decode cX8_ways 25 = .ok (.ireturn, 1) := by decide +kernel
theorem dX8_ways_26 : decode cX8_ways 26 = .ok (.aload_n 0, 1) := by decide +kernel
theorem dX8_ways_27 : decode cX8_ways 27 = .ok (.aload_n 0, 1) := by decide +kernel
theorem dX8_ways_28 : decode cX8_ways 28 = .ok (.getfield 16, 3) := by decide +kernel
theorem dX8_ways_31 : decode cX8_ways 31 = .ok (.sipush (-999), 3) := by decide +kernel
theorem dX8_ways_34 : decode cX8_ways 34 = .ok (.invokevirtual 81, 3) := by decide +kernel
theorem dX8_ways_37 : decode cX8_ways 37 = .ok (.iconst 0, 1) := by decide +kernel
theorem dX8_ways_38 : decode cX8_ways 38 = .ok (.istore_n 2, 1) := by decide +kernel
theorem dX8_ways_39 : decode cX8_ways 39 = .ok (.iload_n 2, 1) := by decide +kernel
theorem dX8_ways_40 : decode cX8_ways 40 = .ok (.bipush 9, 2) := by decide +kernel
theorem dX8_ways_42 : decode cX8_ways 42 = .ok (.if_icmp .ge 30, 3) := by decide +kernel
theorem dX8_ways_45 : decode cX8_ways 45 = .ok (.aload_n 0, 1) := by decide +kernel
theorem dX8_ways_46 : decode cX8_ways 46 = .ok (.getfield 50, 3) := by decide +kernel
theorem dX8_ways_49 : decode cX8_ways 49 = .ok (.iload_n 2, 1) := by decide +kernel
theorem dX8_ways_50 : decode cX8_ways 50 = .ok (.iload_n 2, 1) := by decide +kernel
theorem dX8_ways_51 : decode cX8_ways 51 = .ok (.aload_n 0, 1) := by decide +kernel
theorem dX8_ways_52 : decode cX8_ways 52 = .ok (.getfield 16, 3) := by decide +kernel
theorem dX8_ways_55 : decode cX8_ways 55 = .ok (.iconst 2, 1) := by decide +kernel
theorem dX8_ways_56 : decode cX8_ways 56 = .ok (.iaload, 1) := by decide +kernel
theorem dX8_ways_57 : decode cX8_ways 57 = .ok (.if_icmp .ne 7, 3) := by decide +kernel
theorem dX8_ways_60 : decode cX8_ways 60 = .ok (.iconst 1, 1) := by decide +kernel
theorem dX8_ways_61 : decode cX8_ways 61 = .ok (.goto 4, 3) := by decide +kernel
theorem dX8_ways_64 : decode cX8_ways 64 = .ok (.iconst 0, 1) := by decide +kernel
theorem dX8_ways_65 : decode cX8_ways 65 = .ok (.bastore, 1) := by decide +kernel
theorem dX8_ways_66 : decode cX8_ways 66 = .ok (.iinc 2 1, 3) := by decide +kernel
theorem dX8_ways_69 : decode cX8_ways 69 = .ok (.goto (-30), 3) := by decide +kernel
theorem dX8_ways_72 : decode cX8_ways 72 = .ok (.iconst 0, 1) := by decide +kernel
theorem dX8_ways_73 : decode cX8_ways 73 = .ok (.istore_n 2, 1) := by decide +kernel
theorem dX8_ways_74 : decode cX8_ways 74 = .ok (.iconst 0, 1) := by decide +kernel
theorem dX8_ways_75 : decode cX8_ways 75 = .ok (.istore_n 3, 1) := by decide +kernel
theorem dX8_ways_76 : decode cX8_ways 76 = .ok (.aload_n 0, 1) := by decide +kernel
theorem dX8_ways_77 : decode cX8_ways 77 = .ok (.getfield 41, 3) := by decide +kernel
theorem dX8_ways_80 : decode cX8_ways 80 = .ok (.iconst 0, 1) := by decide +kernel
theorem dX8_ways_81 : decode cX8_ways 81 = .ok (.aload_n 0, 1) := by decide +kernel
theorem dX8_ways_82 : decode cX8_ways 82 = .ok (.getfield 16, 3) := by decide +kernel
theorem dX8_ways_85 : decode cX8_ways 85 = .ok (.iconst 2, 1) := by decide +kernel
theorem dX8_ways_86 : decode cX8_ways 86 = .ok (.iaload, 1) := by decide +kernel
theorem dX8_ways_87 : decode cX8_ways 87 = .ok (.iastore, 1) := by decide +kernel
theorem dX8_ways_88 : decode cX8_ways 88 = .ok (.aload_n 0, 1) := by decide +kernel
theorem dX8_ways_89 : decode cX8_ways 89 = .ok (.getfield 44, 3) := by decide +kernel
theorem dX8_ways_92 : decode cX8_ways 92 = .ok (.iconst 0, 1) := by decide +kernel
theorem dX8_ways_93 : decode cX8_ways 93 = .ok (.iconst 0, 1) := by decide +kernel
theorem dX8_ways_94 : decode cX8_ways 94 = .ok (.iastore, 1) := by decide +kernel
theorem dX8_ways_95 : decode cX8_ways 95 = .ok (.aload_n 0, 1) := by decide +kernel
theorem dX8_ways_96 : decode cX8_ways 96 = .ok (.getfield 47, 3) := by decide +kernel
theorem dX8_ways_99 : decode cX8_ways 99 = .ok (.iconst 0, 1) := by decide +kernel
theorem dX8_ways_100 : decode cX8_ways 100 = .ok (.iconst 0, 1) := by decide +kernel
theorem dX8_ways_101 : decode cX8_ways 101 = .ok (.iastore, 1) := by decide +kernel
theorem dX8_ways_102 : decode cX8_ways 102 = .ok (.iload_n 3, 1) := by decide +kernel
theorem dX8_ways_103 : decode cX8_ways 103 = .ok (.ifCond .lt 187, 3) := by decide +kernel
theorem dX8_ways_106 : decode cX8_ways 106 = .ok (.iload_n 2, 1) := by decide +kernel
theorem dX8_ways_107 : decode cX8_ways 107 = .ok (.sipush 500, 3) := by decide +kernel
theorem dX8_ways_110 : decode cX8_ways 110 = .ok (.if_icmp .ge 180, 3) := by decide +kernel
theorem dX8_ways_113 : decode cX8_ways 113 = .ok (.aload_n 0, 1) := by decide +kernel
theorem dX8_ways_114 : decode cX8_ways 114 = .ok (.getfield 41, 3) := by decide +kernel
theorem dX8_ways_117 : decode cX8_ways 117 = .ok (.iload_n 3, 1) := by decide +kernel
theorem dX8_ways_118 : decode cX8_ways 118 = .ok (.iaload, 1) := by decide +kernel
theorem dX8_ways_119 : decode cX8_ways 119 = .ok (.istore 4, 2) := by decide +kernel
theorem dX8_ways_121 : decode cX8_ways 121 = .ok (.aload_n 0, 1) := by decide +kernel
theorem dX8_ways_122 : decode cX8_ways 122 = .ok (.getfield 44, 3) := by decide +kernel
theorem dX8_ways_125 : decode cX8_ways 125 = .ok (.iload_n 3, 1) := by decide +kernel
theorem dX8_ways_126 : decode cX8_ways 126 = .ok (.iaload, 1) := by decide +kernel
theorem dX8_ways_127 : decode cX8_ways 127 = .ok (.istore 5, 2) := by decide +kernel
theorem dX8_ways_129 : decode cX8_ways 129 = .ok (.aload_n 0, 1) := by decide +kernel
theorem dX8_ways_130 : decode cX8_ways 130 = .ok (.getfield 44, 3) := by decide +kernel
theorem dX8_ways_133 : decode cX8_ways 133 = .ok (.iload_n 3, 1) := by decide +kernel
theorem dX8_ways_134 : decode cX8_ways 134 = .ok (.dup2, 1) := by decide +kernel
theorem dX8_ways_135 : decode cX8_ways 135 = .ok (.iaload, 1) := by decide +kernel
theorem dX8_ways_136 : decode cX8_ways 136 = .ok (.iconst 1, 1) := by decide +kernel
theorem dX8_ways_137 : decode cX8_ways 137 = .ok (.iadd, 1) := by decide +kernel
theorem dX8_ways_138 : decode cX8_ways 138 = .ok (.iastore, 1) := by decide +kernel
theorem dX8_ways_139 : decode cX8_ways 139 = .ok (.iload 5, 2) := by decide +kernel
theorem dX8_ways_141 : decode cX8_ways 141 = .ok (.bipush 9, 2) := by decide +kernel
theorem dX8_ways_143 : decode cX8_ways 143 = .ok (.if_icmp .ne 17, 3) := by decide +kernel
theorem dX8_ways_146 : decode cX8_ways 146 = .ok (.aload_n 0, 1) := by decide +kernel
theorem dX8_ways_147 : decode cX8_ways 147 = .ok (.getfield 50, 3) := by decide +kernel
theorem dX8_ways_150 : decode cX8_ways 150 = .ok (.iload 4, 2) := by decide +kernel
theorem dX8_ways_152 : decode cX8_ways 152 = .ok (.iconst 0, 1) := by decide +kernel
theorem dX8_ways_153 : decode cX8_ways 153 = .ok (.bastore, 1) := by decide +kernel
theorem dX8_ways_154 : decode cX8_ways 154 = .ok (.iinc 3 (-1), 3) := by decide +kernel
theorem dX8_ways_157 : decode cX8_ways 157 = .ok (.goto 130, 3) := by decide +kernel
theorem dX8_ways_160 : decode cX8_ways 160 = .ok (.aload_n 0, 1) := by decide +kernel
theorem dX8_ways_161 : decode cX8_ways 161 = .ok (.getfield 35, 3) := by decide +kernel
theorem dX8_ways_164 : decode cX8_ways 164 = .ok (.bipush 9, 2) := by decide +kernel
theorem dX8_ways_166 : decode cX8_ways 166 = .ok (.iload 4, 2) := by decide +kernel
theorem dX8_ways_168 : decode cX8_ways 168 = .ok (.imul, 1) := by decide +kernel
theorem dX8_ways_169 : decode cX8_ways 169 = .ok (.iload 5, 2) := by decide +kernel
theorem dX8_ways_171 : decode cX8_ways 171 = .ok (.iadd, 1) := by decide +kernel
theorem dX8_ways_172 : decode cX8_ways 172 = .ok (.iaload, 1) := by decide +kernel
theorem dX8_ways_173 : decode cX8_ways 173 = .ok (.ifCond .le 114, 3) := by decide +kernel
theorem dX8_ways_176 : decode cX8_ways 176 = .ok (.aload_n 0, 1) := by decide +kernel
theorem dX8_ways_177 : decode cX8_ways 177 = .ok (.getfield 50, 3) := by decide +kernel
theorem dX8_ways_180 : decode cX8_ways 180 = .ok (.iload 5, 2) := by decide +kernel
theorem dX8_ways_182 : decode cX8_ways 182 = .ok (.baload, 1) := by decide +kernel
theorem dX8_ways_183 : decode cX8_ways 183 = .ok (.ifCond .ne 104, 3) := by decide +kernel
theorem dX8_ways_186 : decode cX8_ways 186 = .ok (.aload_n 0, 1) := by decide +kernel
theorem dX8_ways_187 : decode cX8_ways 187 = .ok (.getfield 47, 3) := by decide +kernel
theorem dX8_ways_190 : decode cX8_ways 190 = .ok (.iload_n 3, 1) := by decide +kernel
theorem dX8_ways_191 : decode cX8_ways 191 = .ok (.iaload, 1) := by decide +kernel
theorem dX8_ways_192 : decode cX8_ways 192 = .ok (.aload_n 0, 1) := by decide +kernel
theorem dX8_ways_193 : decode cX8_ways 193 = .ok (.getfield 35, 3) := by decide +kernel
theorem dX8_ways_196 : decode cX8_ways 196 = .ok (.bipush 9, 2) := by decide +kernel
theorem dX8_ways_198 : decode cX8_ways 198 = .ok (.iload 4, 2) := by decide +kernel
theorem dX8_ways_200 : decode cX8_ways 200 = .ok (.imul, 1) := by decide +kernel
theorem dX8_ways_201 : decode cX8_ways 201 = .ok (.iload 5, 2) := by decide +kernel
theorem dX8_ways_203 : decode cX8_ways 203 = .ok (.iadd, 1) := by decide +kernel
theorem dX8_ways_204 : decode cX8_ways 204 = .ok (.iaload, 1) := by decide +kernel
theorem dX8_ways_205 : decode cX8_ways 205 = .ok (.bipush 100, 2) := by decide +kernel
theorem dX8_ways_207 : decode cX8_ways 207 = .ok (.idiv, 1) := by decide +kernel
theorem dX8_ways_208 : decode cX8_ways 208 = .ok (.iadd, 1) := by decide +kernel
theorem dX8_ways_209 : decode cX8_ways 209 = .ok (.iload_n 1, 1) := by decide +kernel
theorem dX8_ways_210 : decode cX8_ways 210 = .ok (.if_icmp .gt 77, 3) := by decide +kernel
theorem dX8_ways_213 : decode cX8_ways 213 = .ok (.iload 5, 2) := by decide +kernel
theorem dX8_ways_215 : decode cX8_ways 215 = .ok (.aload_n 0, 1) := by decide +kernel
theorem dX8_ways_216 : decode cX8_ways 216 = .ok (.getfield 16, 3) := by decide +kernel
theorem dX8_ways_219 : decode cX8_ways 219 = .ok (.iconst 3, 1) := by decide +kernel
theorem dX8_ways_220 : decode cX8_ways 220 = .ok (.iaload, 1) := by decide +kernel
theorem dX8_ways_221 : decode cX8_ways 221 = .ok (.if_icmp .ne 9, 3) := by decide +kernel
theorem dX8_ways_224 : decode cX8_ways 224 = .ok (.iinc 2 1, 3) := by decide +kernel
theorem dX8_ways_227 : decode cX8_ways 227 = .ok (.goto 60, 3) := by decide +kernel
theorem dX8_ways_230 : decode cX8_ways 230 = .ok (.iinc 3 1, 3) := by decide +kernel
theorem dX8_ways_233 : decode cX8_ways 233 = .ok (.aload_n 0, 1) := by decide +kernel
theorem dX8_ways_234 : decode cX8_ways 234 = .ok (.getfield 41, 3) := by decide +kernel
theorem dX8_ways_237 : decode cX8_ways 237 = .ok (.iload_n 3, 1) := by decide +kernel
theorem dX8_ways_238 : decode cX8_ways 238 = .ok (.iload 5, 2) := by decide +kernel
theorem dX8_ways_240 : decode cX8_ways 240 = .ok (.iastore, 1) := by decide +kernel
theorem dX8_ways_241 : decode cX8_ways 241 = .ok (.aload_n 0, 1) := by decide +kernel
theorem dX8_ways_242 : decode cX8_ways 242 = .ok (.getfield 44, 3) := by decide +kernel
theorem dX8_ways_245 : decode cX8_ways 245 = .ok (.iload_n 3, 1) := by decide +kernel
theorem dX8_ways_246 : decode cX8_ways 246 = .ok (.iconst 0, 1) := by decide +kernel
theorem dX8_ways_247 : decode cX8_ways 247 = .ok (.iastore, 1) := by decide +kernel
theorem dX8_ways_248 : decode cX8_ways 248 = .ok (.aload_n 0, 1) := by decide +kernel
theorem dX8_ways_249 : decode cX8_ways 249 = .ok (.getfield 47, 3) := by decide +kernel
theorem dX8_ways_252 : decode cX8_ways 252 = .ok (.iload_n 3, 1) := by decide +kernel
theorem dX8_ways_253 : decode cX8_ways 253 = .ok (.aload_n 0, 1) := by decide +kernel
theorem dX8_ways_254 : decode cX8_ways 254 = .ok (.getfield 47, 3) := by decide +kernel
theorem dX8_ways_257 : decode cX8_ways 257 = .ok (.iload_n 3, 1) := by decide +kernel
theorem dX8_ways_258 : decode cX8_ways 258 = .ok (.iconst 1, 1) := by decide +kernel
theorem dX8_ways_259 : decode cX8_ways 259 = .ok (.isub, 1) := by decide +kernel
theorem dX8_ways_260 : decode cX8_ways 260 = .ok (.iaload, 1) := by decide +kernel
theorem dX8_ways_261 : decode cX8_ways 261 = .ok (.aload_n 0, 1) := by decide +kernel
end
section
theorem dX8_ways_262 : decode cX8_ways 262 = .ok (.getfield 35, 3) := by decide +kernel
theorem dX8_ways_265 : decode cX8_ways 265 = .ok (.bipush 9, 2) := by decide +kernel
theorem dX8_ways_267 : decode cX8_ways 267 = .ok (.iload 4, 2) := by decide +kernel
theorem dX8_ways_269 : decode cX8_ways 269 = .ok (.imul, 1) := by decide +kernel
theorem dX8_ways_270 : decode cX8_ways 270 = .ok (.iload 5, 2) := by decide +kernel
theorem dX8_ways_272 : decode cX8_ways 272 = .ok (.iadd, 1) := by decide +kernel
theorem dX8_ways_273 : decode cX8_ways 273 = .ok (.iaload, 1) := by decide +kernel
theorem dX8_ways_274 : decode cX8_ways 274 = .ok (.bipush 100, 2) := by decide +kernel
theorem dX8_ways_276 : decode cX8_ways 276 = .ok (.idiv, 1) := by decide +kernel
theorem dX8_ways_277 : decode cX8_ways 277 = .ok (.iadd, 1) := by decide +kernel
theorem dX8_ways_278 : decode cX8_ways 278 = .ok (.iastore, 1) := by decide +kernel
theorem dX8_ways_279 : decode cX8_ways 279 = .ok (.aload_n 0, 1) := by decide +kernel
theorem dX8_ways_280 : decode cX8_ways 280 = .ok (.getfield 50, 3) := by decide +kernel
theorem dX8_ways_283 : decode cX8_ways 283 = .ok (.iload 5, 2) := by decide +kernel
theorem dX8_ways_285 : decode cX8_ways 285 = .ok (.iconst 1, 1) := by decide +kernel
theorem dX8_ways_286 : decode cX8_ways 286 = .ok (.bastore, 1) := by decide +kernel
theorem dX8_ways_287 : decode cX8_ways 287 = .ok (.goto (-185), 3) := by decide +kernel
theorem dX8_ways_290 : decode cX8_ways 290 = .ok (.iload_n 2, 1) := by decide +kernel
theorem dX8_ways_291 : decode cX8_ways 291 = .ok (.ireturn, 1) := by decide +kernel
theorem dX8_middle_0 : decode cX8_middle 0 = .ok (.aload_n 0, 1) := by decide +kernel
theorem dX8_middle_1 : decode cX8_middle 1 = .ok (.aload_n 0, 1) := by decide +kernel
theorem dX8_middle_2 : decode cX8_middle 2 = .ok (.getfield 16, 3) := by decide +kernel
theorem dX8_middle_5 : decode cX8_middle 5 = .ok (.sipush (-999), 3) := by decide +kernel
theorem dX8_middle_8 : decode cX8_middle 8 = .ok (.invokevirtual 81, 3) := by decide +kernel
theorem dX8_middle_11 : decode cX8_middle 11 = .ok (.sipush (-999), 3) := by decide +kernel
theorem dX8_middle_14 : decode cX8_middle 14 = .ok (.istore_n 1, 1) := by decide +kernel
theorem dX8_middle_15 : decode cX8_middle 15 = .ok (.ldc 73, 2) := by decide +kernel
theorem dX8_middle_17 : decode cX8_middle 17 = .ok (.istore_n 2, 1) := by decide +kernel
theorem dX8_middle_18 : decode cX8_middle 18 = .ok (.iconst 0, 1) := by decide +kernel
theorem dX8_middle_19 : decode cX8_middle 19 = .ok (.istore_n 3, 1) := by decide +kernel
theorem dX8_middle_20 : decode cX8_middle 20 = .ok (.iload_n 3, 1) := by decide +kernel
theorem dX8_middle_21 : decode cX8_middle 21 = .ok (.aload_n 0, 1) := by decide +kernel
theorem dX8_middle_22 : decode cX8_middle 22 = .ok (.getfield 16, 3) := by decide +kernel
theorem dX8_middle_25 : decode cX8_middle 25 = .ok (.iconst 0, 1) := by decide +kernel
theorem dX8_middle_26 : decode cX8_middle 26 = .ok (.iaload, 1) := by decide +kernel
theorem dX8_middle_27 : decode cX8_middle 27 = .ok (.if_icmp .ge 106, 3) := by decide +kernel
theorem dX8_middle_30 : decode cX8_middle 30 = .ok (.aload_n 0, 1) := by decide +kernel
theorem dX8_middle_31 : decode cX8_middle 31 = .ok (.aload_n 0, 1) := by decide +kernel
theorem dX8_middle_32 : decode cX8_middle 32 = .ok (.getfield 16, 3) := by decide +kernel
theorem dX8_middle_35 : decode cX8_middle 35 = .ok (.iload_n 3, 1) := by decide +kernel
theorem dX8_middle_36 : decode cX8_middle 36 = .ok (.invokevirtual 74, 3) := by decide +kernel
theorem dX8_middle_39 : decode cX8_middle 39 = .ok (.iconst 0, 1) := by decide +kernel
theorem dX8_middle_40 : decode cX8_middle 40 = .ok (.istore 4, 2) := by decide +kernel
theorem dX8_middle_42 : decode cX8_middle 42 = .ok (.iconst 0, 1) := by decide +kernel
theorem dX8_middle_43 : decode cX8_middle 43 = .ok (.istore 5, 2) := by decide +kernel
theorem dX8_middle_45 : decode cX8_middle 45 = .ok (.iload 5, 2) := by decide +kernel
theorem dX8_middle_47 : decode cX8_middle 47 = .ok (.aload_n 0, 1) := by decide +kernel
theorem dX8_middle_48 : decode cX8_middle 48 = .ok (.getfield 16, 3) := by decide +kernel
theorem dX8_middle_51 : decode cX8_middle 51 = .ok (.iconst 0, 1) := by decide +kernel
theorem dX8_middle_52 : decode cX8_middle 52 = .ok (.iaload, 1) := by decide +kernel
theorem dX8_middle_53 : decode cX8_middle 53 = .ok (.if_icmp .ge 49, 3) := by decide +kernel
theorem dX8_middle_56 : decode cX8_middle 56 = .ok (.aload_n 0, 1) := by decide +kernel
theorem dX8_middle_57 : decode cX8_middle 57 = .ok (.getfield 38, 3) := by decide +kernel
theorem dX8_middle_60 : decode cX8_middle 60 = .ok (.iload 5, 2) := by decide +kernel
theorem dX8_middle_62 : decode cX8_middle 62 = .ok (.iaload, 1) := by decide +kernel
theorem dX8_middle_63 : decode cX8_middle 63 = .ok (.invokestatic 77, 3) := by decide +kernel
theorem dX8_middle_66 : decode cX8_middle 66 = .ok (.istore 6, 2) := by decide +kernel
theorem dX8_middle_68 : decode cX8_middle 68 = .ok (.iload 6, 2) := by decide +kernel
theorem dX8_middle_70 : decode cX8_middle 70 = .ok (.sipush (-999), 3) := by decide +kernel
theorem dX8_middle_73 : decode cX8_middle 73 = .ok (.if_icmp .ne 7, 3) := by decide +kernel
theorem dX8_middle_76 : decode cX8_middle 76 = .ok (.sipush (-999), 3) := by decide +kernel
theorem dX8_middle_79 : decode cX8_middle 79 = .ok (.ireturn, 1) := by decide +kernel
theorem dX8_middle_80 : decode cX8_middle 80 = .ok (.iload 6, 2) := by decide +kernel
theorem dX8_middle_82 : decode cX8_middle 82 = .ok (.iload 4, 2) := by decide +kernel
theorem dX8_middle_84 : decode cX8_middle 84 = .ok (.if_icmp .le 8, 3) := by decide +kernel
theorem dX8_middle_87 : decode cX8_middle 87 = .ok (.iload 6, 2) := by decide +kernel
theorem dX8_middle_89 : decode cX8_middle 89 = .ok (.goto 5, 3) := by decide +kernel
theorem dX8_middle_92 : decode cX8_middle 92 = .ok (.iload 4, 2) := by decide +kernel
theorem dX8_middle_94 : decode cX8_middle 94 = .ok (.istore 4, 2) := by decide +kernel
theorem dX8_middle_96 : decode cX8_middle 96 = .ok (.iinc 5 1, 3) := by decide +kernel
theorem dX8_middle_99 : decode cX8_middle 99 = .ok (.goto (-54), 3) := by decide +kernel
theorem dX8_middle_102 : decode cX8_middle 102 = .ok (.iload 4, 2) := by decide +kernel
theorem dX8_middle_104 : decode cX8_middle 104 = .ok (.iload_n 2, 1) := by decide +kernel
theorem dX8_middle_105 : decode cX8_middle 105 = .ok (.if_icmp .ge 7, 3) := by decide +kernel
theorem dX8_middle_108 : decode cX8_middle 108 = .ok (.iload_n 3, 1) := by decide +kernel
theorem dX8_middle_109 : decode cX8_middle 109 = .ok (.goto 4, 3) := by decide +kernel
theorem dX8_middle_112 : decode cX8_middle 112 = .ok (.iload_n 1, 1) := by decide +kernel
theorem dX8_middle_113 : decode cX8_middle 113 = .ok (.istore_n 1, 1) := by decide +kernel
theorem dX8_middle_114 : decode cX8_middle 114 = .ok (.iload 4, 2) := by decide +kernel
theorem dX8_middle_116 : decode cX8_middle 116 = .ok (.iload_n 2, 1) := by decide +kernel
theorem dX8_middle_117 : decode cX8_middle 117 = .ok (.if_icmp .ge 8, 3) := by decide +kernel
theorem dX8_middle_120 : decode cX8_middle 120 = .ok (.iload 4, 2) := by decide +kernel
theorem dX8_middle_122 : decode cX8_middle 122 = .ok (.goto 4, 3) := by decide +kernel
theorem dX8_middle_125 : decode cX8_middle 125 = .ok (.iload_n 2, 1) := by decide +kernel
theorem dX8_middle_126 : decode cX8_middle 126 = .ok (.istore_n 2, 1) := by decide +kernel
theorem dX8_middle_127 : decode cX8_middle 127 = .ok (.iinc 3 1, 3) := by decide +kernel
theorem dX8_middle_130 : decode cX8_middle 130 = .ok (.goto (-110), 3) := by decide +kernel
theorem dX8_middle_133 : decode cX8_middle 133 = .ok (.iload_n 1, 1) := by decide +kernel
theorem dX8_middle_134 : decode cX8_middle 134 = .ok (.ireturn, 1) := by decide +kernel
theorem dX8_tryGroup_0 : decode cX8_tryGroup 0 = .ok (.bipush 10, 2) := by decide +kernel
theorem dX8_tryGroup_2 : decode cX8_tryGroup 2 = .ok (.iload_n 2, 1) := by decide +kernel
theorem dX8_tryGroup_3 : decode cX8_tryGroup 3 = .ok (.imul, 1) := by decide +kernel
theorem dX8_tryGroup_4 : decode cX8_tryGroup 4 = .ok (.iload_n 3, 1) := by decide +kernel
theorem dX8_tryGroup_5 : decode cX8_tryGroup 5 = .ok (.iadd, 1) := by decide +kernel
theorem dX8_tryGroup_6 : decode cX8_tryGroup 6 = .ok (.istore 5, 2) := by decide +kernel
theorem dX8_tryGroup_8 : decode cX8_tryGroup 8 = .ok (.bipush 100, 2) := by decide +kernel
theorem dX8_tryGroup_10 : decode cX8_tryGroup 10 = .ok (.iload_n 3, 1) := by decide +kernel
theorem dX8_tryGroup_11 : decode cX8_tryGroup 11 = .ok (.imul, 1) := by decide +kernel
theorem dX8_tryGroup_12 : decode cX8_tryGroup 12 = .ok (.iload 4, 2) := by decide +kernel
theorem dX8_tryGroup_14 : decode cX8_tryGroup 14 = .ok (.iadd, 1) := by decide +kernel
theorem dX8_tryGroup_15 : decode cX8_tryGroup 15 = .ok (.istore 6, 2) := by decide +kernel
theorem dX8_tryGroup_17 : decode cX8_tryGroup 17 = .ok (.iload_n 1, 1) := by decide +kernel
theorem dX8_tryGroup_18 : decode cX8_tryGroup 18 = .ok (.tableswitch 459 1 9 #[50, 84, 114, 147, 190, 240, 278, 339, 385], 50) := by decide +kernel
theorem dX8_tryGroup_68 : decode cX8_tryGroup 68 = .ok (.aload_n 0, 1) := by decide +kernel
theorem dX8_tryGroup_69 : decode cX8_tryGroup 69 = .ok (.getfield 19, 3) := by decide +kernel
theorem dX8_tryGroup_72 : decode cX8_tryGroup 72 = .ok (.iload_n 2, 1) := by decide +kernel
theorem dX8_tryGroup_73 : decode cX8_tryGroup 73 = .ok (.iload_n 3, 1) := by decide +kernel
theorem dX8_tryGroup_74 : decode cX8_tryGroup 74 = .ok (.iload 4, 2) := by decide +kernel
theorem dX8_tryGroup_76 : decode cX8_tryGroup 76 = .ok (.invokestatic 195, 3) := by decide +kernel
theorem dX8_tryGroup_79 : decode cX8_tryGroup 79 = .ok (.ifCond .ne 21, 3) := by decide +kernel
theorem dX8_tryGroup_82 : decode cX8_tryGroup 82 = .ok (.aload_n 0, 1) := by decide +kernel
theorem dX8_tryGroup_83 : decode cX8_tryGroup 83 = .ok (.getfield 19, 3) := by decide +kernel
theorem dX8_tryGroup_86 : decode cX8_tryGroup 86 = .ok (.iload_n 2, 1) := by decide +kernel
theorem dX8_tryGroup_87 : decode cX8_tryGroup 87 = .ok (.iload_n 3, 1) := by decide +kernel
theorem dX8_tryGroup_88 : decode cX8_tryGroup 88 = .ok (.iload 4, 2) := by decide +kernel
theorem dX8_tryGroup_90 : decode cX8_tryGroup 90 = .ok (.invokestatic 122, 3) := by decide +kernel
theorem dX8_tryGroup_93 : decode cX8_tryGroup 93 = .ok (.ifCond .lt 7, 3) := by decide +kernel
theorem dX8_tryGroup_96 : decode cX8_tryGroup 96 = .ok (.iconst 1, 1) := by decide +kernel
theorem dX8_tryGroup_97 : decode cX8_tryGroup 97 = .ok (.goto 4, 3) := by decide +kernel
theorem dX8_tryGroup_100 : decode cX8_tryGroup 100 = .ok (.iconst 0, 1) := by decide +kernel
theorem dX8_tryGroup_101 : decode cX8_tryGroup 101 = .ok (.ireturn, 1) := by decide +kernel
theorem dX8_tryGroup_102 : decode cX8_tryGroup 102 = .ok (.iload 4, 2) := by decide +kernel
theorem dX8_tryGroup_104 : decode cX8_tryGroup 104 = .ok (.ifCond .gt 15, 3) := by decide +kernel
theorem dX8_tryGroup_107 : decode cX8_tryGroup 107 = .ok (.aload_n 0, 1) := by decide +kernel
theorem dX8_tryGroup_108 : decode cX8_tryGroup 108 = .ok (.getfield 19, 3) := by decide +kernel
theorem dX8_tryGroup_111 : decode cX8_tryGroup 111 = .ok (.iload 5, 2) := by decide +kernel
theorem dX8_tryGroup_113 : decode cX8_tryGroup 113 = .ok (.invokestatic 173, 3) := by decide +kernel
theorem dX8_tryGroup_116 : decode cX8_tryGroup 116 = .ok (.ifCond .ne 5, 3) := by decide +kernel
theorem dX8_tryGroup_119 : decode cX8_tryGroup 119 = .ok (.iconst 0, 1) := by decide +kernel
theorem dX8_tryGroup_120 : decode cX8_tryGroup 120 = .ok (.ireturn, 1) := by decide +kernel
theorem dX8_tryGroup_121 : decode cX8_tryGroup 121 = .ok (.aload_n 0, 1) := by decide +kernel
theorem dX8_tryGroup_122 : decode cX8_tryGroup 122 = .ok (.getfield 19, 3) := by decide +kernel
theorem dX8_tryGroup_125 : decode cX8_tryGroup 125 = .ok (.iload 5, 2) := by decide +kernel
theorem dX8_tryGroup_127 : decode cX8_tryGroup 127 = .ok (.invokestatic 198, 3) := by decide +kernel
theorem dX8_tryGroup_130 : decode cX8_tryGroup 130 = .ok (.iconst 1, 1) := by decide +kernel
theorem dX8_tryGroup_131 : decode cX8_tryGroup 131 = .ok (.ireturn, 1) := by decide +kernel
theorem dX8_tryGroup_132 : decode cX8_tryGroup 132 = .ok (.aload_n 0, 1) := by decide +kernel
theorem dX8_tryGroup_133 : decode cX8_tryGroup 133 = .ok (.getfield 19, 3) := by decide +kernel
theorem dX8_tryGroup_136 : decode cX8_tryGroup 136 = .ok (.iload 5, 2) := by decide +kernel
theorem dX8_tryGroup_138 : decode cX8_tryGroup 138 = .ok (.invokestatic 173, 3) := by decide +kernel
theorem dX8_tryGroup_141 : decode cX8_tryGroup 141 = .ok (.ifCond .eq 8, 3) := by decide +kernel
theorem dX8_tryGroup_144 : decode cX8_tryGroup 144 = .ok (.iload 4, 2) := by decide +kernel
theorem dX8_tryGroup_146 : decode cX8_tryGroup 146 = .ok (.ifCond .ne 5, 3) := by decide +kernel
theorem dX8_tryGroup_149 : decode cX8_tryGroup 149 = .ok (.iconst 0, 1) := by decide +kernel
theorem dX8_tryGroup_150 : decode cX8_tryGroup 150 = .ok (.ireturn, 1) := by decide +kernel
theorem dX8_tryGroup_151 : decode cX8_tryGroup 151 = .ok (.aload_n 0, 1) := by decide +kernel
theorem dX8_tryGroup_152 : decode cX8_tryGroup 152 = .ok (.getfield 19, 3) := by decide +kernel
theorem dX8_tryGroup_155 : decode cX8_tryGroup 155 = .ok (.bipush 44, 2) := by decide +kernel
theorem dX8_tryGroup_157 : decode cX8_tryGroup 157 = .ok (.iload 5, 2) := by decide +kernel
theorem dX8_tryGroup_159 : decode cX8_tryGroup 159 = .ok (.iadd, 1) := by decide +kernel
theorem dX8_tryGroup_160 : decode cX8_tryGroup 160 = .ok (.iload 4, 2) := by decide +kernel
theorem dX8_tryGroup_162 : decode cX8_tryGroup 162 = .ok (.iastore, 1) := by decide +kernel
theorem dX8_tryGroup_163 : decode cX8_tryGroup 163 = .ok (.iconst 1, 1) := by decide +kernel
theorem dX8_tryGroup_164 : decode cX8_tryGroup 164 = .ok (.ireturn, 1) := by decide +kernel
theorem dX8_tryGroup_165 : decode cX8_tryGroup 165 = .ok (.aload_n 0, 1) := by decide +kernel
theorem dX8_tryGroup_166 : decode cX8_tryGroup 166 = .ok (.getfield 19, 3) := by decide +kernel
theorem dX8_tryGroup_169 : decode cX8_tryGroup 169 = .ok (.iload 5, 2) := by decide +kernel
theorem dX8_tryGroup_171 : decode cX8_tryGroup 171 = .ok (.invokestatic 173, 3) := by decide +kernel
theorem dX8_tryGroup_174 : decode cX8_tryGroup 174 = .ok (.ifCond .eq 15, 3) := by decide +kernel
theorem dX8_tryGroup_177 : decode cX8_tryGroup 177 = .ok (.iload 4, 2) := by decide +kernel
theorem dX8_tryGroup_179 : decode cX8_tryGroup 179 = .ok (.ifCond .eq 12, 3) := by decide +kernel
theorem dX8_tryGroup_182 : decode cX8_tryGroup 182 = .ok (.iload 4, 2) := by decide +kernel
theorem dX8_tryGroup_184 : decode cX8_tryGroup 184 = .ok (.bipush 10, 2) := by decide +kernel
theorem dX8_tryGroup_186 : decode cX8_tryGroup 186 = .ok (.if_icmp .eq 5, 3) := by decide +kernel
theorem dX8_tryGroup_189 : decode cX8_tryGroup 189 = .ok (.iconst 0, 1) := by decide +kernel
theorem dX8_tryGroup_190 : decode cX8_tryGroup 190 = .ok (.ireturn, 1) := by decide +kernel
theorem dX8_tryGroup_191 : decode cX8_tryGroup 191 = .ok (.aload_n 0, 1) := by decide +kernel
theorem dX8_tryGroup_192 : decode cX8_tryGroup 192 = .ok (.getfield 19, 3) := by decide +kernel
theorem dX8_tryGroup_195 : decode cX8_tryGroup 195 = .ok (.bipush 64, 2) := by decide +kernel
theorem dX8_tryGroup_197 : decode cX8_tryGroup 197 = .ok (.iload 5, 2) := by decide +kernel
theorem dX8_tryGroup_199 : decode cX8_tryGroup 199 = .ok (.iadd, 1) := by decide +kernel
theorem dX8_tryGroup_200 : decode cX8_tryGroup 200 = .ok (.iload 4, 2) := by decide +kernel
theorem dX8_tryGroup_202 : decode cX8_tryGroup 202 = .ok (.bipush 10, 2) := by decide +kernel
theorem dX8_tryGroup_204 : decode cX8_tryGroup 204 = .ok (.idiv, 1) := by decide +kernel
theorem dX8_tryGroup_205 : decode cX8_tryGroup 205 = .ok (.iastore, 1) := by decide +kernel
theorem dX8_tryGroup_206 : decode cX8_tryGroup 206 = .ok (.iconst 1, 1) := by decide +kernel
theorem dX8_tryGroup_207 : decode cX8_tryGroup 207 = .ok (.ireturn, 1) := by decide +kernel
theorem dX8_tryGroup_208 : decode cX8_tryGroup 208 = .ok (.iload 4, 2) := by decide +kernel
theorem dX8_tryGroup_210 : decode cX8_tryGroup 210 = .ok (.ifCond .gt 30, 3) := by decide +kernel
theorem dX8_tryGroup_213 : decode cX8_tryGroup 213 = .ok (.iload_n 2, 1) := by decide +kernel
theorem dX8_tryGroup_214 : decode cX8_tryGroup 214 = .ok (.iload_n 3, 1) := by decide +kernel
theorem dX8_tryGroup_215 : decode cX8_tryGroup 215 = .ok (.if_icmp .eq 25, 3) := by decide +kernel
theorem dX8_tryGroup_218 : decode cX8_tryGroup 218 = .ok (.aload_n 0, 1) := by decide +kernel
theorem dX8_tryGroup_219 : decode cX8_tryGroup 219 = .ok (.getfield 19, 3) := by decide +kernel
theorem dX8_tryGroup_222 : decode cX8_tryGroup 222 = .ok (.iload_n 2, 1) := by decide +kernel
theorem dX8_tryGroup_223 : decode cX8_tryGroup 223 = .ok (.invokestatic 182, 3) := by decide +kernel
theorem dX8_tryGroup_226 : decode cX8_tryGroup 226 = .ok (.ifCond .eq 14, 3) := by decide +kernel
theorem dX8_tryGroup_229 : decode cX8_tryGroup 229 = .ok (.aload_n 0, 1) := by decide +kernel
theorem dX8_tryGroup_230 : decode cX8_tryGroup 230 = .ok (.getfield 19, 3) := by decide +kernel
theorem dX8_tryGroup_233 : decode cX8_tryGroup 233 = .ok (.iload_n 3, 1) := by decide +kernel
theorem dX8_tryGroup_234 : decode cX8_tryGroup 234 = .ok (.invokestatic 182, 3) := by decide +kernel
theorem dX8_tryGroup_237 : decode cX8_tryGroup 237 = .ok (.ifCond .ne 5, 3) := by decide +kernel
theorem dX8_tryGroup_240 : decode cX8_tryGroup 240 = .ok (.iconst 0, 1) := by decide +kernel
theorem dX8_tryGroup_241 : decode cX8_tryGroup 241 = .ok (.ireturn, 1) := by decide +kernel
theorem dX8_tryGroup_242 : decode cX8_tryGroup 242 = .ok (.aload_n 0, 1) := by decide +kernel
theorem dX8_tryGroup_243 : decode cX8_tryGroup 243 = .ok (.getfield 19, 3) := by decide +kernel
theorem dX8_tryGroup_246 : decode cX8_tryGroup 246 = .ok (.iconst 2, 1) := by decide +kernel
theorem dX8_tryGroup_247 : decode cX8_tryGroup 247 = .ok (.iload_n 2, 1) := by decide +kernel
theorem dX8_tryGroup_248 : decode cX8_tryGroup 248 = .ok (.iastore, 1) := by decide +kernel
theorem dX8_tryGroup_249 : decode cX8_tryGroup 249 = .ok (.aload_n 0, 1) := by decide +kernel
theorem dX8_tryGroup_250 : decode cX8_tryGroup 250 = .ok (.getfield 19, 3) := by decide +kernel
theorem dX8_tryGroup_253 : decode cX8_tryGroup 253 = .ok (.iconst 3, 1) := by decide +kernel
theorem dX8_tryGroup_254 : decode cX8_tryGroup 254 = .ok (.iload_n 3, 1) := by decide +kernel
theorem dX8_tryGroup_255 : decode cX8_tryGroup 255 = .ok (.iastore, 1) := by decide +kernel
theorem dX8_tryGroup_256 : decode cX8_tryGroup 256 = .ok (.iconst 1, 1) := by decide +kernel
theorem dX8_tryGroup_257 : decode cX8_tryGroup 257 = .ok (.ireturn, 1) := by decide +kernel
theorem dX8_tryGroup_258 : decode cX8_tryGroup 258 = .ok (.aload_n 0, 1) := by decide +kernel
theorem dX8_tryGroup_259 : decode cX8_tryGroup 259 = .ok (.aload_n 0, 1) := by decide +kernel
theorem dX8_tryGroup_260 : decode cX8_tryGroup 260 = .ok (.getfield 19, 3) := by decide +kernel
theorem dX8_tryGroup_263 : decode cX8_tryGroup 263 = .ok (.sipush (-999), 3) := by decide +kernel
theorem dX8_tryGroup_266 : decode cX8_tryGroup 266 = .ok (.invokevirtual 88, 3) := by decide +kernel
theorem dX8_tryGroup_269 : decode cX8_tryGroup 269 = .ok (.istore 7, 2) := by decide +kernel
theorem dX8_tryGroup_271 : decode cX8_tryGroup 271 = .ok (.iload_n 2, 1) := by decide +kernel
theorem dX8_tryGroup_272 : decode cX8_tryGroup 272 = .ok (.ifCond .ne 22, 3) := by decide +kernel
theorem dX8_tryGroup_275 : decode cX8_tryGroup 275 = .ok (.iload 7, 2) := by decide +kernel
theorem dX8_tryGroup_277 : decode cX8_tryGroup 277 = .ok (.sipush (-999), 3) := by decide +kernel
theorem dX8_tryGroup_280 : decode cX8_tryGroup 280 = .ok (.if_icmp .eq 14, 3) := by decide +kernel
theorem dX8_tryGroup_283 : decode cX8_tryGroup 283 = .ok (.iload 7, 2) := by decide +kernel
theorem dX8_tryGroup_285 : decode cX8_tryGroup 285 = .ok (.iload 6, 2) := by decide +kernel
theorem dX8_tryGroup_287 : decode cX8_tryGroup 287 = .ok (.if_icmp .gt 7, 3) := by decide +kernel
theorem dX8_tryGroup_290 : decode cX8_tryGroup 290 = .ok (.iconst 1, 1) := by decide +kernel
theorem dX8_tryGroup_291 : decode cX8_tryGroup 291 = .ok (.goto 4, 3) := by decide +kernel
theorem dX8_tryGroup_294 : decode cX8_tryGroup 294 = .ok (.iconst 0, 1) := by decide +kernel
theorem dX8_tryGroup_295 : decode cX8_tryGroup 295 = .ok (.ireturn, 1) := by decide +kernel
theorem dX8_tryGroup_296 : decode cX8_tryGroup 296 = .ok (.aload_n 0, 1) := by decide +kernel
theorem dX8_tryGroup_297 : decode cX8_tryGroup 297 = .ok (.aload_n 0, 1) := by decide +kernel
theorem dX8_tryGroup_298 : decode cX8_tryGroup 298 = .ok (.getfield 19, 3) := by decide +kernel
theorem dX8_tryGroup_301 : decode cX8_tryGroup 301 = .ok (.sipush (-999), 3) := by decide +kernel
theorem dX8_tryGroup_304 : decode cX8_tryGroup 304 = .ok (.invokevirtual 170, 3) := by decide +kernel
theorem dX8_tryGroup_307 : decode cX8_tryGroup 307 = .ok (.pop, 1) := by decide +kernel
theorem dX8_tryGroup_308 : decode cX8_tryGroup 308 = .ok (.iload 4, 2) := by decide +kernel
theorem dX8_tryGroup_310 : decode cX8_tryGroup 310 = .ok (.ifCond .ne 45, 3) := by decide +kernel
theorem dX8_tryGroup_313 : decode cX8_tryGroup 313 = .ok (.aload_n 0, 1) := by decide +kernel
theorem dX8_tryGroup_314 : decode cX8_tryGroup 314 = .ok (.getfield 19, 3) := by decide +kernel
theorem dX8_tryGroup_317 : decode cX8_tryGroup 317 = .ok (.iload 5, 2) := by decide +kernel
theorem dX8_tryGroup_319 : decode cX8_tryGroup 319 = .ok (.invokestatic 173, 3) := by decide +kernel
theorem dX8_tryGroup_322 : decode cX8_tryGroup 322 = .ok (.ifCond .eq 33, 3) := by decide +kernel
theorem dX8_tryGroup_325 : decode cX8_tryGroup 325 = .ok (.aload_n 0, 1) := by decide +kernel
theorem dX8_tryGroup_326 : decode cX8_tryGroup 326 = .ok (.getfield 19, 3) := by decide +kernel
theorem dX8_tryGroup_329 : decode cX8_tryGroup 329 = .ok (.bipush 64, 2) := by decide +kernel
theorem dX8_tryGroup_331 : decode cX8_tryGroup 331 = .ok (.iload 5, 2) := by decide +kernel
theorem dX8_tryGroup_333 : decode cX8_tryGroup 333 = .ok (.iadd, 1) := by decide +kernel
theorem dX8_tryGroup_334 : decode cX8_tryGroup 334 = .ok (.iaload, 1) := by decide +kernel
theorem dX8_tryGroup_335 : decode cX8_tryGroup 335 = .ok (.ifCond .ne 20, 3) := by decide +kernel
theorem dX8_tryGroup_338 : decode cX8_tryGroup 338 = .ok (.aload_n 0, 1) := by decide +kernel
theorem dX8_tryGroup_339 : decode cX8_tryGroup 339 = .ok (.aload_n 0, 1) := by decide +kernel
theorem dX8_tryGroup_340 : decode cX8_tryGroup 340 = .ok (.getfield 19, 3) := by decide +kernel
theorem dX8_tryGroup_343 : decode cX8_tryGroup 343 = .ok (.iload 5, 2) := by decide +kernel
theorem dX8_tryGroup_345 : decode cX8_tryGroup 345 = .ok (.invokevirtual 179, 3) := by decide +kernel
theorem dX8_tryGroup_348 : decode cX8_tryGroup 348 = .ok (.ifCond .eq 7, 3) := by decide +kernel
theorem dX8_tryGroup_351 : decode cX8_tryGroup 351 = .ok (.iconst 1, 1) := by decide +kernel
theorem dX8_tryGroup_352 : decode cX8_tryGroup 352 = .ok (.goto 4, 3) := by decide +kernel
theorem dX8_tryGroup_355 : decode cX8_tryGroup 355 = .ok (.iconst 0, 1) := by decide +kernel
theorem dX8_tryGroup_356 : decode cX8_tryGroup 356 = .ok (.ireturn, 1) := by decide +kernel
theorem dX8_tryGroup_357 : decode cX8_tryGroup 357 = .ok (.iload 5, 2) := by decide +kernel
theorem dX8_tryGroup_359 : decode cX8_tryGroup 359 = .ok (.ifCond .ne 42, 3) := by decide +kernel
theorem dX8_tryGroup_362 : decode cX8_tryGroup 362 = .ok (.iload 4, 2) := by decide +kernel
theorem dX8_tryGroup_364 : decode cX8_tryGroup 364 = .ok (.bipush 10, 2) := by decide +kernel
theorem dX8_tryGroup_366 : decode cX8_tryGroup 366 = .ok (.if_icmp .ge 35, 3) := by decide +kernel
theorem dX8_tryGroup_369 : decode cX8_tryGroup 369 = .ok (.aload_n 0, 1) := by decide +kernel
theorem dX8_tryGroup_370 : decode cX8_tryGroup 370 = .ok (.aload_n 0, 1) := by decide +kernel
theorem dX8_tryGroup_371 : decode cX8_tryGroup 371 = .ok (.getfield 19, 3) := by decide +kernel
theorem dX8_tryGroup_374 : decode cX8_tryGroup 374 = .ok (.sipush (-999), 3) := by decide +kernel
theorem dX8_tryGroup_377 : decode cX8_tryGroup 377 = .ok (.invokevirtual 170, 3) := by decide +kernel
theorem dX8_tryGroup_380 : decode cX8_tryGroup 380 = .ok (.sipush (-999), 3) := by decide +kernel
theorem dX8_tryGroup_383 : decode cX8_tryGroup 383 = .ok (.if_icmp .eq 18, 3) := by decide +kernel
theorem dX8_tryGroup_386 : decode cX8_tryGroup 386 = .ok (.aload_n 0, 1) := by decide +kernel
theorem dX8_tryGroup_387 : decode cX8_tryGroup 387 = .ok (.getfield 92, 3) := by decide +kernel
theorem dX8_tryGroup_390 : decode cX8_tryGroup 390 = .ok (.iconst 1, 1) := by decide +kernel
theorem dX8_tryGroup_391 : decode cX8_tryGroup 391 = .ok (.isub, 1) := by decide +kernel
theorem dX8_tryGroup_392 : decode cX8_tryGroup 392 = .ok (.iload 4, 2) := by decide +kernel
theorem dX8_tryGroup_394 : decode cX8_tryGroup 394 = .ok (.if_icmp .gt 7, 3) := by decide +kernel
theorem dX8_tryGroup_397 : decode cX8_tryGroup 397 = .ok (.iconst 1, 1) := by decide +kernel
theorem dX8_tryGroup_398 : decode cX8_tryGroup 398 = .ok (.goto 4, 3) := by decide +kernel
theorem dX8_tryGroup_401 : decode cX8_tryGroup 401 = .ok (.iconst 0, 1) := by decide +kernel
theorem dX8_tryGroup_402 : decode cX8_tryGroup 402 = .ok (.ireturn, 1) := by decide +kernel
theorem dX8_tryGroup_403 : decode cX8_tryGroup 403 = .ok (.iload_n 3, 1) := by decide +kernel
theorem dX8_tryGroup_404 : decode cX8_tryGroup 404 = .ok (.ifCond .gt 14, 3) := by decide +kernel
theorem dX8_tryGroup_407 : decode cX8_tryGroup 407 = .ok (.aload_n 0, 1) := by decide +kernel
theorem dX8_tryGroup_408 : decode cX8_tryGroup 408 = .ok (.getfield 19, 3) := by decide +kernel
theorem dX8_tryGroup_411 : decode cX8_tryGroup 411 = .ok (.iload_n 2, 1) := by decide +kernel
theorem dX8_tryGroup_412 : decode cX8_tryGroup 412 = .ok (.invokestatic 182, 3) := by decide +kernel
theorem dX8_tryGroup_415 : decode cX8_tryGroup 415 = .ok (.ifCond .ne 5, 3) := by decide +kernel
theorem dX8_tryGroup_418 : decode cX8_tryGroup 418 = .ok (.iconst 0, 1) := by decide +kernel
theorem dX8_tryGroup_419 : decode cX8_tryGroup 419 = .ok (.ireturn, 1) := by decide +kernel
theorem dX8_tryGroup_420 : decode cX8_tryGroup 420 = .ok (.aload_n 0, 1) := by decide +kernel
theorem dX8_tryGroup_421 : decode cX8_tryGroup 421 = .ok (.aload_n 0, 1) := by decide +kernel
theorem dX8_tryGroup_422 : decode cX8_tryGroup 422 = .ok (.getfield 19, 3) := by decide +kernel
theorem dX8_tryGroup_425 : decode cX8_tryGroup 425 = .ok (.sipush (-999), 3) := by decide +kernel
theorem dX8_tryGroup_428 : decode cX8_tryGroup 428 = .ok (.invokevirtual 81, 3) := by decide +kernel
theorem dX8_tryGroup_431 : decode cX8_tryGroup 431 = .ok (.aload_n 0, 1) := by decide +kernel
theorem dX8_tryGroup_432 : decode cX8_tryGroup 432 = .ok (.aload_n 0, 1) := by decide +kernel
theorem dX8_tryGroup_433 : decode cX8_tryGroup 433 = .ok (.getfield 19, 3) := by decide +kernel
theorem dX8_tryGroup_436 : decode cX8_tryGroup 436 = .ok (.aload_n 0, 1) := by decide +kernel
theorem dX8_tryGroup_437 : decode cX8_tryGroup 437 = .ok (.getfield 19, 3) := by decide +kernel
theorem dX8_tryGroup_440 : decode cX8_tryGroup 440 = .ok (.iconst 2, 1) := by decide +kernel
theorem dX8_tryGroup_441 : decode cX8_tryGroup 441 = .ok (.iaload, 1) := by decide +kernel
theorem dX8_tryGroup_442 : decode cX8_tryGroup 442 = .ok (.invokevirtual 74, 3) := by decide +kernel
theorem dX8_tryGroup_445 : decode cX8_tryGroup 445 = .ok (.aload_n 0, 1) := by decide +kernel
theorem dX8_tryGroup_446 : decode cX8_tryGroup 446 = .ok (.getfield 38, 3) := by decide +kernel
theorem dX8_tryGroup_449 : decode cX8_tryGroup 449 = .ok (.iload_n 2, 1) := by decide +kernel
theorem dX8_tryGroup_450 : decode cX8_tryGroup 450 = .ok (.iaload, 1) := by decide +kernel
theorem dX8_tryGroup_451 : decode cX8_tryGroup 451 = .ok (.invokestatic 77, 3) := by decide +kernel
theorem dX8_tryGroup_454 : decode cX8_tryGroup 454 = .ok (.istore 7, 2) := by decide +kernel
theorem dX8_tryGroup_456 : decode cX8_tryGroup 456 = .ok (.iload 7, 2) := by decide +kernel
theorem dX8_tryGroup_458 : decode cX8_tryGroup 458 = .ok (.sipush (-999), 3) := by decide +kernel
theorem dX8_tryGroup_461 : decode cX8_tryGroup 461 = .ok (.if_icmp .eq 14, 3) := by decide +kernel
theorem dX8_tryGroup_464 : decode cX8_tryGroup 464 = .ok (.iload 7, 2) := by decide +kernel
theorem dX8_tryGroup_466 : decode cX8_tryGroup 466 = .ok (.iload 4, 2) := by decide +kernel
theorem dX8_tryGroup_468 : decode cX8_tryGroup 468 = .ok (.if_icmp .gt 7, 3) := by decide +kernel
theorem dX8_tryGroup_471 : decode cX8_tryGroup 471 = .ok (.iconst 1, 1) := by decide +kernel
theorem dX8_tryGroup_472 : decode cX8_tryGroup 472 = .ok (.goto 4, 3) := by decide +kernel
theorem dX8_tryGroup_475 : decode cX8_tryGroup 475 = .ok (.iconst 0, 1) := by decide +kernel
theorem dX8_tryGroup_476 : decode cX8_tryGroup 476 = .ok (.ireturn, 1) := by decide +kernel
theorem dX8_tryGroup_477 : decode cX8_tryGroup 477 = .ok (.iconst 0, 1) := by decide +kernel
theorem dX8_tryGroup_478 : decode cX8_tryGroup 478 = .ok (.ireturn, 1) := by decide +kernel
theorem dX8_runScript_0 : decode cX8_runScript 0 = .ok (.lconst 1, 1) := by decide +kernel
theorem dX8_runScript_1 : decode cX8_runScript 1 = .ok (.lstore 4, 2) := by decide +kernel
theorem dX8_runScript_3 : decode cX8_runScript 3 = .ok (.iconst 0, 1) := by decide +kernel
theorem dX8_runScript_4 : decode cX8_runScript 4 = .ok (.istore 6, 2) := by decide +kernel
theorem dX8_runScript_6 : decode cX8_runScript 6 = .ok (.iload 6, 2) := by decide +kernel
theorem dX8_runScript_8 : decode cX8_runScript 8 = .ok (.iload_n 1, 1) := by decide +kernel
theorem dX8_runScript_9 : decode cX8_runScript 9 = .ok (.if_icmp .ge 23, 3) := by decide +kernel
theorem dX8_runScript_12 : decode cX8_runScript 12 = .ok (.iload 6, 2) := by decide +kernel
theorem dX8_runScript_14 : decode cX8_runScript 14 = .ok (.iconst 3, 1) := by decide +kernel
theorem dX8_runScript_15 : decode cX8_runScript 15 = .ok (.if_icmp .ge 17, 3) := by decide +kernel
theorem dX8_runScript_18 : decode cX8_runScript 18 = .ok (.lload 4, 2) := by decide +kernel
theorem dX8_runScript_20 : decode cX8_runScript 20 = .ok (.ldc2_w 206, 3) := by decide +kernel
theorem dX8_runScript_23 : decode cX8_runScript 23 = .ok (.lmul, 1) := by decide +kernel
theorem dX8_runScript_24 : decode cX8_runScript 24 = .ok (.lstore 4, 2) := by decide +kernel
theorem dX8_runScript_26 : decode cX8_runScript 26 = .ok (.iinc 6 1, 3) := by decide +kernel
theorem dX8_runScript_29 : decode cX8_runScript 29 = .ok (.goto (-23), 3) := by decide +kernel
theorem dX8_runScript_32 : decode cX8_runScript 32 = .ok (.aload_n 0, 1) := by decide +kernel
theorem dX8_runScript_33 : decode cX8_runScript 33 = .ok (.iload_n 1, 1) := by decide +kernel
theorem dX8_runScript_34 : decode cX8_runScript 34 = .ok (.i2l, 1) := by decide +kernel
theorem dX8_runScript_35 : decode cX8_runScript 35 = .ok (.lconst 1, 1) := by decide +kernel
theorem dX8_runScript_36 : decode cX8_runScript 36 = .ok (.ldc2_w 185, 3) := by decide +kernel
theorem dX8_runScript_39 : decode cX8_runScript 39 = .ok (.invokestatic 65, 3) := by decide +kernel
theorem dX8_runScript_42 : decode cX8_runScript 42 = .ok (.ifCond .eq 19, 3) := by decide +kernel
theorem dX8_runScript_45 : decode cX8_runScript 45 = .ok (.lload_n 2, 1) := by decide +kernel
theorem dX8_runScript_46 : decode cX8_runScript 46 = .ok (.lconst 0, 1) := by decide +kernel
theorem dX8_runScript_47 : decode cX8_runScript 47 = .ok (.lload 4, 2) := by decide +kernel
theorem dX8_runScript_49 : decode cX8_runScript 49 = .ok (.lconst 1, 1) := by decide +kernel
theorem dX8_runScript_50 : decode cX8_runScript 50 = .ok (.lsub, 1) := by decide +kernel
theorem dX8_runScript_51 : decode cX8_runScript 51 = .ok (.invokestatic 65, 3) := by decide +kernel
theorem dX8_runScript_54 : decode cX8_runScript 54 = .ok (.ifCond .eq 7, 3) := by decide +kernel
theorem dX8_runScript_57 : decode cX8_runScript 57 = .ok (.iconst 0, 1) := by decide +kernel
theorem dX8_runScript_58 : decode cX8_runScript 58 = .ok (.goto 4, 3) := by decide +kernel
theorem dX8_runScript_61 : decode cX8_runScript 61 = .ok (.iconst 1, 1) := by decide +kernel
theorem dX8_runScript_62 : decode cX8_runScript 62 = .ok (.invokevirtual 103, 3) := by decide +kernel
theorem dX8_runScript_65 : decode cX8_runScript 65 = .ok (.ifCond .eq 5, 3) := by decide +kernel
theorem dX8_runScript_68 : decode cX8_runScript 68 = .ok (.iconst 0, 1) := by decide +kernel
theorem dX8_runScript_69 : decode cX8_runScript 69 = .ok (.ireturn, 1) := by decide +kernel
theorem dX8_runScript_70 : decode cX8_runScript 70 = .ok (.aload_n 0, 1) := by decide +kernel
theorem dX8_runScript_71 : decode cX8_runScript 71 = .ok (.getfield 16, 3) := by decide +kernel
theorem dX8_runScript_74 : decode cX8_runScript 74 = .ok (.iconst 0, 1) := by decide +kernel
theorem dX8_runScript_75 : decode cX8_runScript 75 = .ok (.aload_n 0, 1) := by decide +kernel
theorem dX8_runScript_76 : decode cX8_runScript 76 = .ok (.getfield 19, 3) := by decide +kernel
theorem dX8_runScript_79 : decode cX8_runScript 79 = .ok (.iconst 0, 1) := by decide +kernel
theorem dX8_runScript_80 : decode cX8_runScript 80 = .ok (.invokestatic 161, 3) := by decide +kernel
theorem dX8_runScript_83 : decode cX8_runScript 83 = .ok (.iconst 0, 1) := by decide +kernel
theorem dX8_runScript_84 : decode cX8_runScript 84 = .ok (.istore 6, 2) := by decide +kernel
theorem dX8_runScript_86 : decode cX8_runScript 86 = .ok (.iload 6, 2) := by decide +kernel
theorem dX8_runScript_88 : decode cX8_runScript 88 = .ok (.iload_n 1, 1) := by decide +kernel
theorem dX8_runScript_89 : decode cX8_runScript 89 = .ok (.if_icmp .ge 66, 3) := by decide +kernel
theorem dX8_runScript_92 : decode cX8_runScript 92 = .ok (.lload 4, 2) := by decide +kernel
theorem dX8_runScript_94 : decode cX8_runScript 94 = .ok (.ldc2_w 206, 3) := by decide +kernel
theorem dX8_runScript_97 : decode cX8_runScript 97 = .ok (.ldiv, 1) := by decide +kernel
theorem dX8_runScript_98 : decode cX8_runScript 98 = .ok (.lstore 4, 2) := by decide +kernel
theorem dX8_runScript_100 : decode cX8_runScript 100 = .ok (.lload_n 2, 1) := by decide +kernel
theorem dX8_runScript_101 : decode cX8_runScript 101 = .ok (.lload 4, 2) := by decide +kernel
theorem dX8_runScript_103 : decode cX8_runScript 103 = .ok (.ldiv, 1) := by decide +kernel
theorem dX8_runScript_104 : decode cX8_runScript 104 = .ok (.ldc2_w 206, 3) := by decide +kernel
theorem dX8_runScript_107 : decode cX8_runScript 107 = .ok (.lrem, 1) := by decide +kernel
theorem dX8_runScript_108 : decode cX8_runScript 108 = .ok (.l2i, 1) := by decide +kernel
theorem dX8_runScript_109 : decode cX8_runScript 109 = .ok (.istore 7, 2) := by decide +kernel
theorem dX8_runScript_111 : decode cX8_runScript 111 = .ok (.aload_n 0, 1) := by decide +kernel
theorem dX8_runScript_112 : decode cX8_runScript 112 = .ok (.iload 7, 2) := by decide +kernel
theorem dX8_runScript_114 : decode cX8_runScript 114 = .ok (.sipush 10000, 3) := by decide +kernel
theorem dX8_runScript_117 : decode cX8_runScript 117 = .ok (.idiv, 1) := by decide +kernel
theorem dX8_runScript_118 : decode cX8_runScript 118 = .ok (.iload 7, 2) := by decide +kernel
theorem dX8_runScript_120 : decode cX8_runScript 120 = .ok (.sipush 1000, 3) := by decide +kernel
theorem dX8_runScript_123 : decode cX8_runScript 123 = .ok (.idiv, 1) := by decide +kernel
theorem dX8_runScript_124 : decode cX8_runScript 124 = .ok (.bipush 10, 2) := by decide +kernel
theorem dX8_runScript_126 : decode cX8_runScript 126 = .ok (.irem, 1) := by decide +kernel
theorem dX8_runScript_127 : decode cX8_runScript 127 = .ok (.iload 7, 2) := by decide +kernel
theorem dX8_runScript_129 : decode cX8_runScript 129 = .ok (.bipush 100, 2) := by decide +kernel
theorem dX8_runScript_131 : decode cX8_runScript 131 = .ok (.idiv, 1) := by decide +kernel
theorem dX8_runScript_132 : decode cX8_runScript 132 = .ok (.bipush 10, 2) := by decide +kernel
theorem dX8_runScript_134 : decode cX8_runScript 134 = .ok (.irem, 1) := by decide +kernel
theorem dX8_runScript_135 : decode cX8_runScript 135 = .ok (.iload 7, 2) := by decide +kernel
theorem dX8_runScript_137 : decode cX8_runScript 137 = .ok (.bipush 100, 2) := by decide +kernel
theorem dX8_runScript_139 : decode cX8_runScript 139 = .ok (.irem, 1) := by decide +kernel
theorem dX8_runScript_140 : decode cX8_runScript 140 = .ok (.invokevirtual 208, 3) := by decide +kernel
theorem dX8_runScript_143 : decode cX8_runScript 143 = .ok (.ifCond .ne 6, 3) := by decide +kernel
theorem dX8_runScript_146 : decode cX8_runScript 146 = .ok (.iload 6, 2) := by decide +kernel
theorem dX8_runScript_148 : decode cX8_runScript 148 = .ok (.ireturn, 1) := by decide +kernel
theorem dX8_runScript_149 : decode cX8_runScript 149 = .ok (.iinc 6 1, 3) := by decide +kernel
theorem dX8_runScript_152 : decode cX8_runScript 152 = .ok (.goto (-66), 3) := by decide +kernel
theorem dX8_runScript_155 : decode cX8_runScript 155 = .ok (.sipush (-999), 3) := by decide +kernel
theorem dX8_runScript_158 : decode cX8_runScript 158 = .ok (.ireturn, 1) := by decide +kernel
theorem dX8_simulate_0 : decode cX8_simulate 0 = .ok (.aload_n 0, 1) := by decide +kernel
theorem dX8_simulate_1 : decode cX8_simulate 1 = .ok (.iload_n 3, 1) := by decide +kernel
theorem dX8_simulate_2 : decode cX8_simulate 2 = .ok (.i2l, 1) := by decide +kernel
theorem dX8_simulate_3 : decode cX8_simulate 3 = .ok (.lconst 1, 1) := by decide +kernel
theorem dX8_simulate_4 : decode cX8_simulate 4 = .ok (.ldc2_w 212, 3) := by decide +kernel
theorem dX8_simulate_7 : decode cX8_simulate 7 = .ok (.invokestatic 65, 3) := by decide +kernel
theorem dX8_simulate_10 : decode cX8_simulate 10 = .ok (.ifCond .eq 7, 3) := by decide +kernel
theorem dX8_simulate_13 : decode cX8_simulate 13 = .ok (.iconst 0, 1) := by decide +kernel
theorem dX8_simulate_14 : decode cX8_simulate 14 = .ok (.goto 4, 3) := by decide +kernel
theorem dX8_simulate_17 : decode cX8_simulate 17 = .ok (.iconst 1, 1) := by decide +kernel
theorem dX8_simulate_18 : decode cX8_simulate 18 = .ok (.invokevirtual 103, 3) := by decide +kernel
theorem dX8_simulate_21 : decode cX8_simulate 21 = .ok (.ifCond .eq 5, 3) := by decide +kernel
theorem dX8_simulate_24 : decode cX8_simulate 24 = .ok (.iconst 0, 1) := by decide +kernel
theorem dX8_simulate_25 : decode cX8_simulate 25 = .ok (.ireturn, 1) := by decide +kernel
theorem dX8_simulate_26 : decode cX8_simulate 26 = .ok (.iconst 0, 1) := by decide +kernel
theorem dX8_simulate_27 : decode cX8_simulate 27 = .ok (.istore 4, 2) := by decide +kernel
theorem dX8_simulate_29 : decode cX8_simulate 29 = .ok (.iconst 0, 1) := by decide +kernel
theorem dX8_simulate_30 : decode cX8_simulate 30 = .ok (.istore 5, 2) := by decide +kernel
theorem dX8_simulate_32 : decode cX8_simulate 32 = .ok (.lload_n 1, 1) := by decide +kernel
theorem dX8_simulate_33 : decode cX8_simulate 33 = .ok (.lstore 6, 2) := by decide +kernel
theorem dX8_simulate_35 : decode cX8_simulate 35 = .ok (.iconst 0, 1) := by decide +kernel
theorem dX8_simulate_36 : decode cX8_simulate 36 = .ok (.istore 8, 2) := by decide +kernel
theorem dX8_simulate_38 : decode cX8_simulate 38 = .ok (.iload 8, 2) := by decide +kernel
theorem dX8_simulate_40 : decode cX8_simulate 40 = .ok (.iload_n 3, 1) := by decide +kernel
theorem dX8_simulate_41 : decode cX8_simulate 41 = .ok (.if_icmp .ge 150, 3) := by decide +kernel
theorem dX8_simulate_44 : decode cX8_simulate 44 = .ok (.aload_n 0, 1) := by decide +kernel
theorem dX8_simulate_45 : decode cX8_simulate 45 = .ok (.aload_n 0, 1) := by decide +kernel
theorem dX8_simulate_46 : decode cX8_simulate 46 = .ok (.getfield 16, 3) := by decide +kernel
theorem dX8_simulate_49 : decode cX8_simulate 49 = .ok (.sipush (-999), 3) := by decide +kernel
theorem dX8_simulate_52 : decode cX8_simulate 52 = .ok (.invokevirtual 81, 3) := by decide +kernel
theorem dX8_simulate_55 : decode cX8_simulate 55 = .ok (.iconst 0, 1) := by decide +kernel
theorem dX8_simulate_56 : decode cX8_simulate 56 = .ok (.istore 9, 2) := by decide +kernel
theorem dX8_simulate_58 : decode cX8_simulate 58 = .ok (.iload 9, 2) := by decide +kernel
theorem dX8_simulate_60 : decode cX8_simulate 60 = .ok (.aload_n 0, 1) := by decide +kernel
theorem dX8_simulate_61 : decode cX8_simulate 61 = .ok (.getfield 16, 3) := by decide +kernel
theorem dX8_simulate_64 : decode cX8_simulate 64 = .ok (.iconst 1, 1) := by decide +kernel
theorem dX8_simulate_65 : decode cX8_simulate 65 = .ok (.iaload, 1) := by decide +kernel
theorem dX8_simulate_66 : decode cX8_simulate 66 = .ok (.if_icmp .ge 72, 3) := by decide +kernel
theorem dX8_simulate_69 : decode cX8_simulate 69 = .ok (.aload_n 0, 1) := by decide +kernel
theorem dX8_simulate_70 : decode cX8_simulate 70 = .ok (.getfield 16, 3) := by decide +kernel
theorem dX8_simulate_73 : decode cX8_simulate 73 = .ok (.bipush 64, 2) := by decide +kernel
theorem dX8_simulate_75 : decode cX8_simulate 75 = .ok (.iload 9, 2) := by decide +kernel
theorem dX8_simulate_77 : decode cX8_simulate 77 = .ok (.iadd, 1) := by decide +kernel
theorem dX8_simulate_78 : decode cX8_simulate 78 = .ok (.iaload, 1) := by decide +kernel
theorem dX8_simulate_79 : decode cX8_simulate 79 = .ok (.ifCond .ne 53, 3) := by decide +kernel
theorem dX8_simulate_82 : decode cX8_simulate 82 = .ok (.lload 6, 2) := by decide +kernel
theorem dX8_simulate_84 : decode cX8_simulate 84 = .ok (.ldc2_w 214, 3) := by decide +kernel
theorem dX8_simulate_87 : decode cX8_simulate 87 = .ok (.lmul, 1) := by decide +kernel
theorem dX8_simulate_88 : decode cX8_simulate 88 = .ok (.ldc2_w 216, 3) := by decide +kernel
theorem dX8_simulate_91 : decode cX8_simulate 91 = .ok (.ladd, 1) := by decide +kernel
theorem dX8_simulate_92 : decode cX8_simulate 92 = .ok (.lstore 6, 2) := by decide +kernel
theorem dX8_simulate_94 : decode cX8_simulate 94 = .ok (.lload 6, 2) := by decide +kernel
theorem dX8_simulate_96 : decode cX8_simulate 96 = .ok (.bipush 33, 2) := by decide +kernel
theorem dX8_simulate_98 : decode cX8_simulate 98 = .ok (.lushr, 1) := by decide +kernel
theorem dX8_simulate_99 : decode cX8_simulate 99 = .ok (.ldc2_w 177, 3) := by decide +kernel
theorem dX8_simulate_102 : decode cX8_simulate 102 = .ok (.lrem, 1) := by decide +kernel
theorem dX8_simulate_103 : decode cX8_simulate 103 = .ok (.lconst 0, 1) := by decide +kernel
theorem dX8_simulate_104 : decode cX8_simulate 104 = .ok (.lcmp, 1) := by decide +kernel
theorem dX8_simulate_105 : decode cX8_simulate 105 = .ok (.ifCond .ne 27, 3) := by decide +kernel
theorem dX8_simulate_108 : decode cX8_simulate 108 = .ok (.aload_n 0, 1) := by decide +kernel
theorem dX8_simulate_109 : decode cX8_simulate 109 = .ok (.aload_n 0, 1) := by decide +kernel
theorem dX8_simulate_110 : decode cX8_simulate 110 = .ok (.getfield 16, 3) := by decide +kernel
theorem dX8_simulate_113 : decode cX8_simulate 113 = .ok (.iconst 4, 1) := by decide +kernel
theorem dX8_simulate_114 : decode cX8_simulate 114 = .ok (.iload 9, 2) := by decide +kernel
theorem dX8_simulate_116 : decode cX8_simulate 116 = .ok (.iadd, 1) := by decide +kernel
theorem dX8_simulate_117 : decode cX8_simulate 117 = .ok (.iaload, 1) := by decide +kernel
theorem dX8_simulate_118 : decode cX8_simulate 118 = .ok (.aload_n 0, 1) := by decide +kernel
theorem dX8_simulate_119 : decode cX8_simulate 119 = .ok (.getfield 16, 3) := by decide +kernel
theorem dX8_simulate_122 : decode cX8_simulate 122 = .ok (.bipush 24, 2) := by decide +kernel
theorem dX8_simulate_124 : decode cX8_simulate 124 = .ok (.iload 9, 2) := by decide +kernel
theorem dX8_simulate_126 : decode cX8_simulate 126 = .ok (.iadd, 1) := by decide +kernel
theorem dX8_simulate_127 : decode cX8_simulate 127 = .ok (.iaload, 1) := by decide +kernel
theorem dX8_simulate_128 : decode cX8_simulate 128 = .ok (.iconst 0, 1) := by decide +kernel
theorem dX8_simulate_129 : decode cX8_simulate 129 = .ok (.invokevirtual 69, 3) := by decide +kernel
theorem dX8_simulate_132 : decode cX8_simulate 132 = .ok (.iinc 9 1, 3) := by decide +kernel
theorem dX8_simulate_135 : decode cX8_simulate 135 = .ok (.goto (-77), 3) := by decide +kernel
theorem dX8_simulate_138 : decode cX8_simulate 138 = .ok (.aload_n 0, 1) := by decide +kernel
theorem dX8_simulate_139 : decode cX8_simulate 139 = .ok (.aload_n 0, 1) := by decide +kernel
theorem dX8_simulate_140 : decode cX8_simulate 140 = .ok (.getfield 16, 3) := by decide +kernel
theorem dX8_simulate_143 : decode cX8_simulate 143 = .ok (.invokevirtual 84, 3) := by decide +kernel
theorem dX8_simulate_146 : decode cX8_simulate 146 = .ok (.istore 9, 2) := by decide +kernel
theorem dX8_simulate_148 : decode cX8_simulate 148 = .ok (.iload 4, 2) := by decide +kernel
theorem dX8_simulate_150 : decode cX8_simulate 150 = .ok (.iload 9, 2) := by decide +kernel
theorem dX8_simulate_152 : decode cX8_simulate 152 = .ok (.sipush (-999), 3) := by decide +kernel
theorem dX8_simulate_155 : decode cX8_simulate 155 = .ok (.if_icmp .ne 7, 3) := by decide +kernel
theorem dX8_simulate_158 : decode cX8_simulate 158 = .ok (.iconst 1, 1) := by decide +kernel
theorem dX8_simulate_159 : decode cX8_simulate 159 = .ok (.goto 4, 3) := by decide +kernel
theorem dX8_simulate_162 : decode cX8_simulate 162 = .ok (.iconst 0, 1) := by decide +kernel
theorem dX8_simulate_163 : decode cX8_simulate 163 = .ok (.iadd, 1) := by decide +kernel
theorem dX8_simulate_164 : decode cX8_simulate 164 = .ok (.istore 4, 2) := by decide +kernel
theorem dX8_simulate_166 : decode cX8_simulate 166 = .ok (.iload 5, 2) := by decide +kernel
theorem dX8_simulate_168 : decode cX8_simulate 168 = .ok (.iload 9, 2) := by decide +kernel
theorem dX8_simulate_170 : decode cX8_simulate 170 = .ok (.sipush (-999), 3) := by decide +kernel
theorem dX8_simulate_173 : decode cX8_simulate 173 = .ok (.if_icmp .ne 7, 3) := by decide +kernel
theorem dX8_simulate_176 : decode cX8_simulate 176 = .ok (.iconst 0, 1) := by decide +kernel
theorem dX8_simulate_177 : decode cX8_simulate 177 = .ok (.goto 5, 3) := by decide +kernel
theorem dX8_simulate_180 : decode cX8_simulate 180 = .ok (.iload 9, 2) := by decide +kernel
theorem dX8_simulate_182 : decode cX8_simulate 182 = .ok (.iadd, 1) := by decide +kernel
theorem dX8_simulate_183 : decode cX8_simulate 183 = .ok (.istore 5, 2) := by decide +kernel
theorem dX8_simulate_185 : decode cX8_simulate 185 = .ok (.iinc 8 1, 3) := by decide +kernel
theorem dX8_simulate_188 : decode cX8_simulate 188 = .ok (.goto (-150), 3) := by decide +kernel
theorem dX8_simulate_191 : decode cX8_simulate 191 = .ok (.ldc 218, 2) := by decide +kernel
theorem dX8_simulate_193 : decode cX8_simulate 193 = .ok (.iload 4, 2) := by decide +kernel
theorem dX8_simulate_195 : decode cX8_simulate 195 = .ok (.imul, 1) := by decide +kernel
theorem dX8_simulate_196 : decode cX8_simulate 196 = .ok (.iload 5, 2) := by decide +kernel
theorem dX8_simulate_198 : decode cX8_simulate 198 = .ok (.iadd, 1) := by decide +kernel
theorem dX8_simulate_199 : decode cX8_simulate 199 = .ok (.ireturn, 1) := by decide +kernel
theorem dX8_save_0 : decode cX8_save 0 = .ok (.aload_n 0, 1) := by decide +kernel
theorem dX8_save_1 : decode cX8_save 1 = .ok (.iload_n 1, 1) := by decide +kernel
theorem dX8_save_2 : decode cX8_save 2 = .ok (.i2l, 1) := by decide +kernel
theorem dX8_save_3 : decode cX8_save 3 = .ok (.lconst 0, 1) := by decide +kernel
theorem dX8_save_4 : decode cX8_save 4 = .ok (.lconst 1, 1) := by decide +kernel
theorem dX8_save_5 : decode cX8_save 5 = .ok (.invokestatic 65, 3) := by decide +kernel
theorem dX8_save_8 : decode cX8_save 8 = .ok (.ifCond .eq 7, 3) := by decide +kernel
theorem dX8_save_11 : decode cX8_save 11 = .ok (.iconst 0, 1) := by decide +kernel
theorem dX8_save_12 : decode cX8_save 12 = .ok (.goto 4, 3) := by decide +kernel
theorem dX8_save_15 : decode cX8_save 15 = .ok (.iconst 1, 1) := by decide +kernel
theorem dX8_save_16 : decode cX8_save 16 = .ok (.invokevirtual 103, 3) := by decide +kernel
theorem dX8_save_19 : decode cX8_save 19 = .ok (.ifCond .eq 5, 3) := by decide +kernel
theorem dX8_save_22 : decode cX8_save 22 = .ok (.iconst 0, 1) := by decide +kernel
theorem dX8_save_23 : decode cX8_save 23 = .ok (.ireturn, 1) := by decide +kernel
theorem dX8_save_24 : decode cX8_save 24 = .ok (.aload_n 0, 1) := by decide +kernel
theorem dX8_save_25 : decode cX8_save 25 = .ok (.getfield 16, 3) := by decide +kernel
theorem dX8_save_28 : decode cX8_save 28 = .ok (.iconst 0, 1) := by decide +kernel
theorem dX8_save_29 : decode cX8_save 29 = .ok (.aload_n 0, 1) := by decide +kernel
theorem dX8_save_30 : decode cX8_save 30 = .ok (.getfield 25, 3) := by decide +kernel
theorem dX8_save_33 : decode cX8_save 33 = .ok (.bipush 84, 2) := by decide +kernel
theorem dX8_save_35 : decode cX8_save 35 = .ok (.iload_n 1, 1) := by decide +kernel
theorem dX8_save_36 : decode cX8_save 36 = .ok (.imul, 1) := by decide +kernel
theorem dX8_save_37 : decode cX8_save 37 = .ok (.invokestatic 161, 3) := by decide +kernel
theorem dX8_save_40 : decode cX8_save 40 = .ok (.aload_n 0, 1) := by decide +kernel
theorem dX8_save_41 : decode cX8_save 41 = .ok (.getfield 28, 3) := by decide +kernel
theorem dX8_save_44 : decode cX8_save 44 = .ok (.iload_n 1, 1) := by decide +kernel
theorem dX8_save_45 : decode cX8_save 45 = .ok (.iconst 1, 1) := by decide +kernel
theorem dX8_save_46 : decode cX8_save 46 = .ok (.bastore, 1) := by decide +kernel
theorem dX8_save_47 : decode cX8_save 47 = .ok (.aload_n 0, 1) := by decide +kernel
theorem dX8_save_48 : decode cX8_save 48 = .ok (.getfield 16, 3) := by decide +kernel
theorem dX8_save_51 : decode cX8_save 51 = .ok (.iconst 1, 1) := by decide +kernel
theorem dX8_save_52 : decode cX8_save 52 = .ok (.iaload, 1) := by decide +kernel
theorem dX8_save_53 : decode cX8_save 53 = .ok (.ireturn, 1) := by decide +kernel
theorem dX8_restore_0 : decode cX8_restore 0 = .ok (.aload_n 0, 1) := by decide +kernel
theorem dX8_restore_1 : decode cX8_restore 1 = .ok (.iload_n 1, 1) := by decide +kernel
theorem dX8_restore_2 : decode cX8_restore 2 = .ok (.i2l, 1) := by decide +kernel
theorem dX8_restore_3 : decode cX8_restore 3 = .ok (.lconst 0, 1) := by decide +kernel
theorem dX8_restore_4 : decode cX8_restore 4 = .ok (.lconst 1, 1) := by decide +kernel
theorem dX8_restore_5 : decode cX8_restore 5 = .ok (.invokestatic 65, 3) := by decide +kernel
theorem dX8_restore_8 : decode cX8_restore 8 = .ok (.ifCond .ne 7, 3) := by decide +kernel
theorem dX8_restore_11 : decode cX8_restore 11 = .ok (.iconst 1, 1) := by decide +kernel
theorem dX8_restore_12 : decode cX8_restore 12 = .ok (.goto 17, 3) := by decide +kernel
theorem dX8_restore_15 : decode cX8_restore 15 = .ok (.aload_n 0, 1) := by decide +kernel
theorem dX8_restore_16 : decode cX8_restore 16 = .ok (.getfield 28, 3) := by decide +kernel
theorem dX8_restore_19 : decode cX8_restore 19 = .ok (.iload_n 1, 1) := by decide +kernel
theorem dX8_restore_20 : decode cX8_restore 20 = .ok (.baload, 1) := by decide +kernel
theorem dX8_restore_21 : decode cX8_restore 21 = .ok (.ifCond .ne 7, 3) := by decide +kernel
theorem dX8_restore_24 : decode cX8_restore 24 = .ok (.iconst 2, 1) := by decide +kernel
theorem dX8_restore_25 : decode cX8_restore 25 = .ok (.goto 4, 3) := by decide +kernel
theorem dX8_restore_28 : decode cX8_restore 28 = .ok (.iconst 0, 1) := by decide +kernel
theorem dX8_restore_29 : decode cX8_restore 29 = .ok (.invokevirtual 103, 3) := by decide +kernel
theorem dX8_restore_32 : decode cX8_restore 32 = .ok (.ifCond .eq 5, 3) := by decide +kernel
theorem dX8_restore_35 : decode cX8_restore 35 = .ok (.iconst 0, 1) := by decide +kernel
theorem dX8_restore_36 : decode cX8_restore 36 = .ok (.ireturn, 1) := by decide +kernel
theorem dX8_restore_37 : decode cX8_restore 37 = .ok (.aload_n 0, 1) := by decide +kernel
theorem dX8_restore_38 : decode cX8_restore 38 = .ok (.getfield 25, 3) := by decide +kernel
theorem dX8_restore_41 : decode cX8_restore 41 = .ok (.bipush 84, 2) := by decide +kernel
theorem dX8_restore_43 : decode cX8_restore 43 = .ok (.iload_n 1, 1) := by decide +kernel
theorem dX8_restore_44 : decode cX8_restore 44 = .ok (.imul, 1) := by decide +kernel
theorem dX8_restore_45 : decode cX8_restore 45 = .ok (.aload_n 0, 1) := by decide +kernel
theorem dX8_restore_46 : decode cX8_restore 46 = .ok (.getfield 16, 3) := by decide +kernel
theorem dX8_restore_49 : decode cX8_restore 49 = .ok (.iconst 0, 1) := by decide +kernel
theorem dX8_restore_50 : decode cX8_restore 50 = .ok (.invokestatic 161, 3) := by decide +kernel
theorem dX8_restore_53 : decode cX8_restore 53 = .ok (.aload_n 0, 1) := by decide +kernel
theorem dX8_restore_54 : decode cX8_restore 54 = .ok (.invokevirtual 165, 3) := by decide +kernel
theorem dX8_restore_57 : decode cX8_restore 57 = .ok (.aload_n 0, 1) := by decide +kernel
theorem dX8_restore_58 : decode cX8_restore 58 = .ok (.getfield 16, 3) := by decide +kernel
theorem dX8_restore_61 : decode cX8_restore 61 = .ok (.iconst 1, 1) := by decide +kernel
theorem dX8_restore_62 : decode cX8_restore 62 = .ok (.iaload, 1) := by decide +kernel
theorem dX8_restore_63 : decode cX8_restore 63 = .ok (.ireturn, 1) := by decide +kernel
theorem dJ9_max_7cf53_0 : decode cJ9_max_7cf53 0 = .ok (.iload_n 0, 1) := by decide +kernel
theorem dJ9_max_7cf53_1 : decode cJ9_max_7cf53 1 = .ok (.iload_n 1, 1) := by decide +kernel
theorem dJ9_max_7cf53_2 : decode cJ9_max_7cf53 2 = .ok (.if_icmp .lt 7, 3) := by decide +kernel
theorem dJ9_max_7cf53_5 : decode cJ9_max_7cf53 5 = .ok (.iload_n 0, 1) := by decide +kernel
theorem dJ9_max_7cf53_6 : decode cJ9_max_7cf53 6 = .ok (.goto 4, 3) := by decide +kernel
theorem dJ9_max_7cf53_9 : decode cJ9_max_7cf53 9 = .ok (.iload_n 1, 1) := by decide +kernel
theorem dJ9_max_7cf53_10 : decode cJ9_max_7cf53 10 = .ok (.ireturn, 1) := by decide +kernel
theorem dJ9_min_7cf53_0 : decode cJ9_min_7cf53 0 = .ok (.iload_n 0, 1) := by decide +kernel
theorem dJ9_min_7cf53_1 : decode cJ9_min_7cf53 1 = .ok (.iload_n 1, 1) := by decide +kernel
theorem dJ9_min_7cf53_2 : decode cJ9_min_7cf53 2 = .ok (.if_icmp .gt 7, 3) := by decide +kernel
theorem dJ9_min_7cf53_5 : decode cJ9_min_7cf53 5 = .ok (.iload_n 0, 1) := by decide +kernel
theorem dJ9_min_7cf53_6 : decode cJ9_min_7cf53 6 = .ok (.goto 4, 3) := by decide +kernel
theorem dJ9_min_7cf53_9 : decode cJ9_min_7cf53 9 = .ok (.iload_n 1, 1) := by decide +kernel
theorem dJ9_min_7cf53_10 : decode cJ9_min_7cf53 10 = .ok (.ireturn, 1) := by decide +kernel
theorem dJ0_length_8abf5_0 : decode cJ0_length_8abf5 0 = .ok (.aload_n 0, 1) := by decide +kernel
theorem dJ0_length_8abf5_1 : decode cJ0_length_8abf5 1 = .ok (.getfield 9, 3) := by decide +kernel
theorem dJ0_length_8abf5_4 : decode cJ0_length_8abf5 4 = .ok (.arraylength, 1) := by decide +kernel
theorem dJ0_length_8abf5_5 : decode cJ0_length_8abf5 5 = .ok (.aload_n 0, 1) := by decide +kernel
theorem dJ0_length_8abf5_6 : decode cJ0_length_8abf5 6 = .ok (.invokevirtual 335, 3) := by decide +kernel
theorem dJ0_length_8abf5_9 : decode cJ0_length_8abf5 9 = .ok (.ishr, 1) := by decide +kernel
theorem dJ0_length_8abf5_10 : decode cJ0_length_8abf5 10 = .ok (.ireturn, 1) := by decide +kernel
theorem dJ0_isEmpty_aae02_0 : decode cJ0_isEmpty_aae02 0 = .ok (.aload_n 0, 1) := by decide +kernel
theorem dJ0_isEmpty_aae02_1 : decode cJ0_isEmpty_aae02 1 = .ok (.getfield 9, 3) := by decide +kernel
theorem dJ0_isEmpty_aae02_4 : decode cJ0_isEmpty_aae02 4 = .ok (.arraylength, 1) := by decide +kernel
theorem dJ0_isEmpty_aae02_5 : decode cJ0_isEmpty_aae02 5 = .ok (.ifCond .ne 7, 3) := by decide +kernel
theorem dJ0_isEmpty_aae02_8 : decode cJ0_isEmpty_aae02 8 = .ok (.iconst 1, 1) := by decide +kernel
theorem dJ0_isEmpty_aae02_9 : decode cJ0_isEmpty_aae02 9 = .ok (.goto 4, 3) := by decide +kernel
theorem dJ0_isEmpty_aae02_12 : decode cJ0_isEmpty_aae02 12 = .ok (.iconst 0, 1) := by decide +kernel
theorem dJ0_isEmpty_aae02_13 : decode cJ0_isEmpty_aae02 13 = .ok (.ireturn, 1) := by decide +kernel
theorem dJ0_charAt_5068e_0 : decode cJ0_charAt_5068e 0 = .ok (.aload_n 0, 1) := by decide +kernel
theorem dJ0_charAt_5068e_1 : decode cJ0_charAt_5068e 1 = .ok (.invokevirtual 492, 3) := by decide +kernel
theorem dJ0_charAt_5068e_4 : decode cJ0_charAt_5068e 4 = .ok (.ifCond .eq 12, 3) := by decide +kernel
theorem dJ0_charAt_5068e_7 : decode cJ0_charAt_5068e 7 = .ok (.aload_n 0, 1) := by decide +kernel
theorem dJ0_charAt_5068e_8 : decode cJ0_charAt_5068e 8 = .ok (.getfield 9, 3) := by decide +kernel
theorem dJ0_charAt_5068e_11 : decode cJ0_charAt_5068e 11 = .ok (.iload_n 1, 1) := by decide +kernel
theorem dJ0_charAt_5068e_12 : decode cJ0_charAt_5068e 12 = .ok (.invokestatic 495, 3) := by decide +kernel
theorem dJ0_charAt_5068e_15 : decode cJ0_charAt_5068e 15 = .ok (.ireturn, 1) := by decide +kernel
theorem dJ0_charAt_5068e_16 : decode cJ0_charAt_5068e 16 = .ok (.aload_n 0, 1) := by decide +kernel
theorem dJ0_charAt_5068e_17 : decode cJ0_charAt_5068e 17 = .ok (.getfield 9, 3) := by decide +kernel
theorem dJ0_charAt_5068e_20 : decode cJ0_charAt_5068e 20 = .ok (.iload_n 1, 1) := by decide +kernel
theorem dJ0_charAt_5068e_21 : decode cJ0_charAt_5068e 21 = .ok (.invokestatic 498, 3) := by decide +kernel
theorem dJ0_charAt_5068e_24 : decode cJ0_charAt_5068e 24 = .ok (.ireturn, 1) := by decide +kernel
theorem dJ0_coder_7d493_0 : decode cJ0_coder_7d493 0 = .ok (.getstatic 38, 3) := by decide +kernel
theorem dJ0_coder_7d493_3 : decode cJ0_coder_7d493 3 = .ok (.ifCond .eq 10, 3) := by decide +kernel
theorem dJ0_coder_7d493_6 : decode cJ0_coder_7d493 6 = .ok (.aload_n 0, 1) := by decide +kernel
theorem dJ0_coder_7d493_7 : decode cJ0_coder_7d493 7 = .ok (.getfield 15, 3) := by decide +kernel
theorem dJ0_coder_7d493_10 : decode cJ0_coder_7d493 10 = .ok (.goto 4, 3) := by decide +kernel
theorem dJ0_coder_7d493_13 : decode cJ0_coder_7d493 13 = .ok (.iconst 1, 1) := by decide +kernel
theorem dJ0_coder_7d493_14 : decode cJ0_coder_7d493 14 = .ok (.ireturn, 1) := by decide +kernel
theorem dJ0_isLatin1_aae02_0 : decode cJ0_isLatin1_aae02 0 = .ok (.getstatic 38, 3) := by decide +kernel
theorem dJ0_isLatin1_aae02_3 : decode cJ0_isLatin1_aae02 3 = .ok (.ifCond .eq 14, 3) := by decide +kernel
theorem dJ0_isLatin1_aae02_6 : decode cJ0_isLatin1_aae02 6 = .ok (.aload_n 0, 1) := by decide +kernel
theorem dJ0_isLatin1_aae02_7 : decode cJ0_isLatin1_aae02 7 = .ok (.getfield 15, 3) := by decide +kernel
theorem dJ0_isLatin1_aae02_10 : decode cJ0_isLatin1_aae02 10 = .ok (.ifCond .ne 7, 3) := by decide +kernel
theorem dJ0_isLatin1_aae02_13 : decode cJ0_isLatin1_aae02 13 = .ok (.iconst 1, 1) := by decide +kernel
theorem dJ0_isLatin1_aae02_14 : decode cJ0_isLatin1_aae02 14 = .ok (.goto 4, 3) := by decide +kernel
theorem dJ0_isLatin1_aae02_17 : decode cJ0_isLatin1_aae02 17 = .ok (.iconst 0, 1) := by decide +kernel
theorem dJ0_isLatin1_aae02_18 : decode cJ0_isLatin1_aae02 18 = .ok (.ireturn, 1) := by decide +kernel
theorem dJ0_checkIndex_df160_0 : decode cJ0_checkIndex_df160 0 = .ok (.iload_n 0, 1) := by decide +kernel
theorem dJ0_checkIndex_df160_1 : decode cJ0_checkIndex_df160 1 = .ok (.iload_n 1, 1) := by decide +kernel
theorem dJ0_checkIndex_df160_2 : decode cJ0_checkIndex_df160 2 = .ok (.getstatic 1053, 3) := by decide +kernel
theorem dJ0_checkIndex_df160_5 : decode cJ0_checkIndex_df160 5 = .ok (.invokestatic 1059, 3) := by decide +kernel
theorem dJ0_checkIndex_df160_8 : decode cJ0_checkIndex_df160 8 = .ok (.pop, 1) := by decide +kernel
theorem dJ0_checkIndex_df160_9 : decode cJ0_checkIndex_df160 9 = .ok (.return_, 1) := by decide +kernel
theorem dJ1_charAt_3b067_0 : decode cJ1_charAt_3b067 0 = .ok (.iload_n 1, 1) := by decide +kernel
theorem dJ1_charAt_3b067_1 : decode cJ1_charAt_3b067 1 = .ok (.aload_n 0, 1) := by decide +kernel
theorem dJ1_charAt_3b067_2 : decode cJ1_charAt_3b067 2 = .ok (.arraylength, 1) := by decide +kernel
theorem dJ1_charAt_3b067_3 : decode cJ1_charAt_3b067 3 = .ok (.invokestatic 9, 3) := by decide +kernel
theorem dJ1_charAt_3b067_6 : decode cJ1_charAt_3b067 6 = .ok (.aload_n 0, 1) := by decide +kernel
theorem dJ1_charAt_3b067_7 : decode cJ1_charAt_3b067 7 = .ok (.iload_n 1, 1) := by decide +kernel
theorem dJ1_charAt_3b067_8 : decode cJ1_charAt_3b067 8 = .ok (.baload, 1) := by decide +kernel
theorem dJ1_charAt_3b067_9 : decode cJ1_charAt_3b067 9 = .ok (.sipush 255, 3) := by decide +kernel
theorem dJ1_charAt_3b067_12 : decode cJ1_charAt_3b067 12 = .ok (.iand, 1) := by decide +kernel
theorem dJ1_charAt_3b067_13 : decode cJ1_charAt_3b067 13 = .ok (.i2c, 1) := by decide +kernel
theorem dJ1_charAt_3b067_14 : decode cJ1_charAt_3b067 14 = .ok (.ireturn, 1) := by decide +kernel
theorem dJ2_getChar_3b067_0 : decode cJ2_getChar_3b067 0 = .ok (.getstatic 44, 3) := by decide +kernel
theorem dJ2_getChar_3b067_3 : decode cJ2_getChar_3b067 3 = .ok (.ifCond .ne 25, 3) := by decide +kernel
theorem dJ2_getChar_3b067_6 : decode cJ2_getChar_3b067 6 = .ok (.iload_n 1, 1) := by decide +kernel
theorem dJ2_getChar_3b067_7 : decode cJ2_getChar_3b067 7 = .ok (.ifCond .lt 11, 3) := by decide +kernel
theorem dJ2_getChar_3b067_10 : decode cJ2_getChar_3b067 10 = .ok (.iload_n 1, 1) := by decide +kernel
theorem dJ2_getChar_3b067_11 : decode cJ2_getChar_3b067 11 = .ok (.aload_n 0, 1) := by decide +kernel
theorem dJ2_getChar_3b067_12 : decode cJ2_getChar_3b067 12 = .ok (.invokestatic 48, 3) := by decide +kernel
theorem dJ2_getChar_3b067_15 : decode cJ2_getChar_3b067 15 = .ok (.if_icmp .lt 13, 3) := by decide +kernel
theorem dJ2_getChar_3b067_18 : decode cJ2_getChar_3b067 18 = .ok (.new 52, 3) := by decide +kernel
theorem dJ2_getChar_3b067_21 : decode cJ2_getChar_3b067 21 = .ok (.dup, 1) := by decide +kernel
theorem dJ2_getChar_3b067_22 : decode cJ2_getChar_3b067 22 = .ok (.ldc 54, 2) := by decide +kernel
theorem dJ2_getChar_3b067_24 : decode cJ2_getChar_3b067 24 = .ok (.invokespecial 56, 3) := by decide +kernel
theorem dJ2_getChar_3b067_27 : decode cJ2_getChar_3b067 27 = .ok (.athrow, 1) := by decide +kernel
theorem dJ2_getChar_3b067_28 : decode cJ2_getChar_3b067 28 = .ok (.iload_n 1, 1) := by decide +kernel
theorem dJ2_getChar_3b067_29 : decode cJ2_getChar_3b067 29 = .ok (.iconst 1, 1) := by decide +kernel
theorem dJ2_getChar_3b067_30 : decode cJ2_getChar_3b067 30 = .ok (.ishl, 1) := by decide +kernel
theorem dJ2_getChar_3b067_31 : decode cJ2_getChar_3b067 31 = .ok (.istore_n 1, 1) := by decide +kernel
theorem dJ2_getChar_3b067_32 : decode cJ2_getChar_3b067 32 = .ok (.aload_n 0, 1) := by decide +kernel
theorem dJ2_getChar_3b067_33 : decode cJ2_getChar_3b067 33 = .ok (.iload_n 1, 1) := by decide +kernel
theorem dJ2_getChar_3b067_34 : decode cJ2_getChar_3b067 34 = .ok (.iinc 1 1, 3) := by decide +kernel
theorem dJ2_getChar_3b067_37 : decode cJ2_getChar_3b067 37 = .ok (.baload, 1) := by decide +kernel
theorem dJ2_getChar_3b067_38 : decode cJ2_getChar_3b067 38 = .ok (.sipush 255, 3) := by decide +kernel
theorem dJ2_getChar_3b067_41 : decode cJ2_getChar_3b067 41 = .ok (.iand, 1) := by decide +kernel
theorem dJ2_getChar_3b067_42 : decode cJ2_getChar_3b067 42 = .ok (.getstatic 59, 3) := by decide +kernel
theorem dJ2_getChar_3b067_45 : decode cJ2_getChar_3b067 45 = .ok (.ishl, 1) := by decide +kernel
theorem dJ2_getChar_3b067_46 : decode cJ2_getChar_3b067 46 = .ok (.aload_n 0, 1) := by decide +kernel
theorem dJ2_getChar_3b067_47 : decode cJ2_getChar_3b067 47 = .ok (.iload_n 1, 1) := by decide +kernel
theorem dJ2_getChar_3b067_48 : decode cJ2_getChar_3b067 48 = .ok (.baload, 1) := by decide +kernel
theorem dJ2_getChar_3b067_49 : decode cJ2_getChar_3b067 49 = .ok (.sipush 255, 3) := by decide +kernel
theorem dJ2_getChar_3b067_52 : decode cJ2_getChar_3b067 52 = .ok (.iand, 1) := by decide +kernel
theorem dJ2_getChar_3b067_53 : decode cJ2_getChar_3b067 53 = .ok (.getstatic 63, 3) := by decide +kernel
theorem dJ2_getChar_3b067_56 : decode cJ2_getChar_3b067 56 = .ok (.ishl, 1) := by decide +kernel
theorem dJ2_getChar_3b067_57 : decode cJ2_getChar_3b067 57 = .ok (.ior, 1) := by decide +kernel
theorem dJ2_getChar_3b067_58 : decode cJ2_getChar_3b067 58 = .ok (.i2c, 1) := by decide +kernel
theorem dJ2_getChar_3b067_59 : decode cJ2_getChar_3b067 59 = .ok (.ireturn, 1) := by decide +kernel
theorem dJ2_length_9d52b_0 : decode cJ2_length_9d52b 0 = .ok (.aload_n 0, 1) := by decide +kernel
theorem dJ2_length_9d52b_1 : decode cJ2_length_9d52b 1 = .ok (.arraylength, 1) := by decide +kernel
theorem dJ2_length_9d52b_2 : decode cJ2_length_9d52b 2 = .ok (.iconst 1, 1) := by decide +kernel
theorem dJ2_length_9d52b_3 : decode cJ2_length_9d52b 3 = .ok (.ishr, 1) := by decide +kernel
theorem dJ2_length_9d52b_4 : decode cJ2_length_9d52b 4 = .ok (.ireturn, 1) := by decide +kernel
theorem dJ2_charAt_3b067_0 : decode cJ2_charAt_3b067 0 = .ok (.iload_n 1, 1) := by decide +kernel
theorem dJ2_charAt_3b067_1 : decode cJ2_charAt_3b067 1 = .ok (.aload_n 0, 1) := by decide +kernel
theorem dJ2_charAt_3b067_2 : decode cJ2_charAt_3b067 2 = .ok (.invokestatic 67, 3) := by decide +kernel
theorem dJ2_charAt_3b067_5 : decode cJ2_charAt_3b067 5 = .ok (.aload_n 0, 1) := by decide +kernel
theorem dJ2_charAt_3b067_6 : decode cJ2_charAt_3b067 6 = .ok (.iload_n 1, 1) := by decide +kernel
theorem dJ2_charAt_3b067_7 : decode cJ2_charAt_3b067 7 = .ok (.invokestatic 71, 3) := by decide +kernel
theorem dJ2_charAt_3b067_10 : decode cJ2_charAt_3b067 10 = .ok (.ireturn, 1) := by decide +kernel
theorem dJ2_checkIndex_2214a_0 : decode cJ2_checkIndex_2214a 0 = .ok (.iload_n 0, 1) := by decide +kernel
theorem dJ2_checkIndex_2214a_1 : decode cJ2_checkIndex_2214a 1 = .ok (.aload_n 1, 1) := by decide +kernel
theorem dJ2_checkIndex_2214a_2 : decode cJ2_checkIndex_2214a 2 = .ok (.invokestatic 48, 3) := by decide +kernel
theorem dJ2_checkIndex_2214a_5 : decode cJ2_checkIndex_2214a 5 = .ok (.invokestatic 414, 3) := by decide +kernel
theorem dJ2_checkIndex_2214a_8 : decode cJ2_checkIndex_2214a 8 = .ok (.return_, 1) := by decide +kernel
theorem dJ3_checkIndex_8e157_0 : decode cJ3_checkIndex_8e157 0 = .ok (.iload_n 0, 1) := by decide +kernel
theorem dJ3_checkIndex_8e157_1 : decode cJ3_checkIndex_8e157 1 = .ok (.ifCond .lt 8, 3) := by decide +kernel
theorem dJ3_checkIndex_8e157_4 : decode cJ3_checkIndex_8e157 4 = .ok (.iload_n 0, 1) := by decide +kernel
theorem dJ3_checkIndex_8e157_5 : decode cJ3_checkIndex_8e157 5 = .ok (.iload_n 1, 1) := by decide +kernel
theorem dJ3_checkIndex_8e157_6 : decode cJ3_checkIndex_8e157 6 = .ok (.if_icmp .lt 10, 3) := by decide +kernel
theorem dJ3_checkIndex_8e157_9 : decode cJ3_checkIndex_8e157 9 = .ok (.aload_n 2, 1) := by decide +kernel
theorem dJ3_checkIndex_8e157_10 : decode cJ3_checkIndex_8e157 10 = .ok (.iload_n 0, 1) := by decide +kernel
theorem dJ3_checkIndex_8e157_11 : decode cJ3_checkIndex_8e157 11 = .ok (.iload_n 1, 1) := by decide +kernel
theorem dJ3_checkIndex_8e157_12 : decode cJ3_checkIndex_8e157 12 = .ok (.invokestatic 95, 3) := by decide +kernel
theorem dJ3_checkIndex_8e157_15 : decode cJ3_checkIndex_8e157 15 = .ok (.athrow, 1) := by decide +kernel
theorem dJ3_checkIndex_8e157_16 : decode cJ3_checkIndex_8e157 16 = .ok (.iload_n 0, 1) := by decide +kernel
theorem dJ3_checkIndex_8e157_17 : decode cJ3_checkIndex_8e157 17 = .ok (.ireturn, 1) := by decide +kernel
theorem dL_append_0 : decode cL_append 0 = .ok (.aload_n 2, 1) := by decide +kernel
theorem dL_append_1 : decode cL_append 1 = .ok (.iconst 0, 1) := by decide +kernel
theorem dL_append_2 : decode cL_append 2 = .ok (.aload_n 0, 1) := by decide +kernel
theorem dL_append_3 : decode cL_append 3 = .ok (.iload_n 1, 1) := by decide +kernel
theorem dL_append_4 : decode cL_append 4 = .ok (.invokevirtual 7, 3) := by decide +kernel
theorem dL_append_7 : decode cL_append 7 = .ok (.i2l, 1) := by decide +kernel
theorem dL_append_8 : decode cL_append 8 = .ok (.lastore, 1) := by decide +kernel
theorem dL_append_9 : decode cL_append 9 = .ok (.goto 9, 3) := by decide +kernel
theorem dL_append_12 : decode cL_append 12 = .ok (.astore_n 3, 1) := by decide +kernel
theorem dL_append_13 : decode cL_append 13 = .ok (.iconst 1, 1) := by decide +kernel
theorem dL_append_14 : decode cL_append 14 = .ok (.ireturn, 1) := by decide +kernel
theorem dL_append_15 : decode cL_append 15 = .ok (.astore_n 3, 1) := by decide +kernel
theorem dL_append_16 : decode cL_append 16 = .ok (.iconst 2, 1) := by decide +kernel
theorem dL_append_17 : decode cL_append 17 = .ok (.ireturn, 1) := by decide +kernel
theorem dL_append_18 : decode cL_append 18 = .ok (.iconst 0, 1) := by decide +kernel
theorem dL_append_19 : decode cL_append 19 = .ok (.ireturn, 1) := by decide +kernel
theorem dL_load_0 : decode cL_load 0 = .ok (.aload_n 1, 1) := by decide +kernel
theorem dL_load_1 : decode cL_load 1 = .ok (.iconst 0, 1) := by decide +kernel
theorem dL_load_2 : decode cL_load 2 = .ok (.aload_n 0, 1) := by decide +kernel
theorem dL_load_3 : decode cL_load 3 = .ok (.invokevirtual 17, 3) := by decide +kernel
theorem dL_load_6 : decode cL_load 6 = .ok (.i2l, 1) := by decide +kernel
theorem dL_load_7 : decode cL_load 7 = .ok (.lastore, 1) := by decide +kernel
theorem dL_load_8 : decode cL_load 8 = .ok (.goto 6, 3) := by decide +kernel
theorem dL_load_11 : decode cL_load 11 = .ok (.astore_n 2, 1) := by decide +kernel
theorem dL_load_12 : decode cL_load 12 = .ok (.iconst 1, 1) := by decide +kernel
theorem dL_load_13 : decode cL_load 13 = .ok (.ireturn, 1) := by decide +kernel
theorem dL_load_14 : decode cL_load 14 = .ok (.iconst 0, 1) := by decide +kernel
theorem dL_load_15 : decode cL_load 15 = .ok (.ireturn, 1) := by decide +kernel
theorem dL_about_0 : decode cL_about 0 = .ok (.aload_n 2, 1) := by decide +kernel
theorem dL_about_1 : decode cL_about 1 = .ok (.iconst 0, 1) := by decide +kernel
theorem dL_about_2 : decode cL_about 2 = .ok (.aload_n 0, 1) := by decide +kernel
theorem dL_about_3 : decode cL_about 3 = .ok (.iload_n 1, 1) := by decide +kernel
theorem dL_about_4 : decode cL_about 4 = .ok (.invokevirtual 21, 3) := by decide +kernel
theorem dL_about_7 : decode cL_about 7 = .ok (.i2l, 1) := by decide +kernel
theorem dL_about_8 : decode cL_about 8 = .ok (.lastore, 1) := by decide +kernel
theorem dL_about_9 : decode cL_about 9 = .ok (.goto 6, 3) := by decide +kernel
theorem dL_about_12 : decode cL_about 12 = .ok (.astore_n 3, 1) := by decide +kernel
theorem dL_about_13 : decode cL_about 13 = .ok (.iconst 1, 1) := by decide +kernel
theorem dL_about_14 : decode cL_about 14 = .ok (.ireturn, 1) := by decide +kernel
theorem dL_about_15 : decode cL_about 15 = .ok (.iconst 0, 1) := by decide +kernel
theorem dL_about_16 : decode cL_about 16 = .ok (.ireturn, 1) := by decide +kernel
theorem dL_street_0 : decode cL_street 0 = .ok (.aload_n 3, 1) := by decide +kernel
theorem dL_street_1 : decode cL_street 1 = .ok (.iconst 0, 1) := by decide +kernel
theorem dL_street_2 : decode cL_street 2 = .ok (.aload_n 0, 1) := by decide +kernel
theorem dL_street_3 : decode cL_street 3 = .ok (.iload_n 1, 1) := by decide +kernel
theorem dL_street_4 : decode cL_street 4 = .ok (.iload_n 2, 1) := by decide +kernel
theorem dL_street_5 : decode cL_street 5 = .ok (.invokevirtual 24, 3) := by decide +kernel
theorem dL_street_8 : decode cL_street 8 = .ok (.i2l, 1) := by decide +kernel
theorem dL_street_9 : decode cL_street 9 = .ok (.lastore, 1) := by decide +kernel
theorem dL_street_10 : decode cL_street 10 = .ok (.goto 11, 3) := by decide +kernel
theorem dL_street_13 : decode cL_street 13 = .ok (.astore 4, 2) := by decide +kernel
theorem dL_street_15 : decode cL_street 15 = .ok (.iconst 1, 1) := by decide +kernel
theorem dL_street_16 : decode cL_street 16 = .ok (.ireturn, 1) := by decide +kernel
theorem dL_street_17 : decode cL_street 17 = .ok (.astore 4, 2) := by decide +kernel
theorem dL_street_19 : decode cL_street 19 = .ok (.iconst 2, 1) := by decide +kernel
theorem dL_street_20 : decode cL_street 20 = .ok (.ireturn, 1) := by decide +kernel
theorem dL_street_21 : decode cL_street 21 = .ok (.iconst 0, 1) := by decide +kernel
theorem dL_street_22 : decode cL_street 22 = .ok (.ireturn, 1) := by decide +kernel
theorem dL_crossing_0 : decode cL_crossing 0 = .ok (.aload_n 3, 1) := by decide +kernel
theorem dL_crossing_1 : decode cL_crossing 1 = .ok (.iconst 0, 1) := by decide +kernel
theorem dL_crossing_2 : decode cL_crossing 2 = .ok (.aload_n 0, 1) := by decide +kernel
theorem dL_crossing_3 : decode cL_crossing 3 = .ok (.iload_n 1, 1) := by decide +kernel
theorem dL_crossing_4 : decode cL_crossing 4 = .ok (.iload_n 2, 1) := by decide +kernel
theorem dL_crossing_5 : decode cL_crossing 5 = .ok (.invokevirtual 30, 3) := by decide +kernel
theorem dL_crossing_8 : decode cL_crossing 8 = .ok (.i2l, 1) := by decide +kernel
theorem dL_crossing_9 : decode cL_crossing 9 = .ok (.lastore, 1) := by decide +kernel
theorem dL_crossing_10 : decode cL_crossing 10 = .ok (.goto 11, 3) := by decide +kernel
theorem dL_crossing_13 : decode cL_crossing 13 = .ok (.astore 4, 2) := by decide +kernel
theorem dL_crossing_15 : decode cL_crossing 15 = .ok (.iconst 1, 1) := by decide +kernel
theorem dL_crossing_16 : decode cL_crossing 16 = .ok (.ireturn, 1) := by decide +kernel
theorem dL_crossing_17 : decode cL_crossing 17 = .ok (.astore 4, 2) := by decide +kernel
theorem dL_crossing_19 : decode cL_crossing 19 = .ok (.iconst 2, 1) := by decide +kernel
theorem dL_crossing_20 : decode cL_crossing 20 = .ok (.ireturn, 1) := by decide +kernel
theorem dL_crossing_21 : decode cL_crossing 21 = .ok (.iconst 0, 1) := by decide +kernel
theorem dL_crossing_22 : decode cL_crossing 22 = .ok (.ireturn, 1) := by decide +kernel
theorem dL_between_0 : decode cL_between 0 = .ok (.aload_n 3, 1) := by decide +kernel
theorem dL_between_1 : decode cL_between 1 = .ok (.iconst 0, 1) := by decide +kernel
theorem dL_between_2 : decode cL_between 2 = .ok (.aload_n 0, 1) := by decide +kernel
theorem dL_between_3 : decode cL_between 3 = .ok (.iload_n 1, 1) := by decide +kernel
theorem dL_between_4 : decode cL_between 4 = .ok (.iload_n 2, 1) := by decide +kernel
theorem dL_between_5 : decode cL_between 5 = .ok (.invokevirtual 33, 3) := by decide +kernel
theorem dL_between_8 : decode cL_between 8 = .ok (.i2l, 1) := by decide +kernel
theorem dL_between_9 : decode cL_between 9 = .ok (.lastore, 1) := by decide +kernel
theorem dL_between_10 : decode cL_between 10 = .ok (.goto 7, 3) := by decide +kernel
theorem dL_between_13 : decode cL_between 13 = .ok (.astore 4, 2) := by decide +kernel
theorem dL_between_15 : decode cL_between 15 = .ok (.iconst 1, 1) := by decide +kernel
theorem dL_between_16 : decode cL_between 16 = .ok (.ireturn, 1) := by decide +kernel
theorem dL_between_17 : decode cL_between 17 = .ok (.iconst 0, 1) := by decide +kernel
theorem dL_between_18 : decode cL_between 18 = .ok (.ireturn, 1) := by decide +kernel
theorem dL_wayAt_0 : decode cL_wayAt 0 = .ok (.aload_n 2, 1) := by decide +kernel
theorem dL_wayAt_1 : decode cL_wayAt 1 = .ok (.iconst 0, 1) := by decide +kernel
theorem dL_wayAt_2 : decode cL_wayAt 2 = .ok (.aload_n 0, 1) := by decide +kernel
theorem dL_wayAt_3 : decode cL_wayAt 3 = .ok (.iload_n 1, 1) := by decide +kernel
theorem dL_wayAt_4 : decode cL_wayAt 4 = .ok (.invokevirtual 36, 3) := by decide +kernel
theorem dL_wayAt_7 : decode cL_wayAt 7 = .ok (.i2l, 1) := by decide +kernel
theorem dL_wayAt_8 : decode cL_wayAt 8 = .ok (.lastore, 1) := by decide +kernel
theorem dL_wayAt_9 : decode cL_wayAt 9 = .ok (.goto 6, 3) := by decide +kernel
theorem dL_wayAt_12 : decode cL_wayAt 12 = .ok (.astore_n 3, 1) := by decide +kernel
theorem dL_wayAt_13 : decode cL_wayAt 13 = .ok (.iconst 1, 1) := by decide +kernel
theorem dL_wayAt_14 : decode cL_wayAt 14 = .ok (.ireturn, 1) := by decide +kernel
theorem dL_wayAt_15 : decode cL_wayAt 15 = .ok (.iconst 0, 1) := by decide +kernel
theorem dL_wayAt_16 : decode cL_wayAt 16 = .ok (.ireturn, 1) := by decide +kernel
theorem dL_addCrossing_0 : decode cL_addCrossing 0 = .ok (.aload_n 1, 1) := by decide +kernel
theorem dL_addCrossing_1 : decode cL_addCrossing 1 = .ok (.iconst 0, 1) := by decide +kernel
theorem dL_addCrossing_2 : decode cL_addCrossing 2 = .ok (.aload_n 0, 1) := by decide +kernel
theorem dL_addCrossing_3 : decode cL_addCrossing 3 = .ok (.invokevirtual 39, 3) := by decide +kernel
theorem dL_addCrossing_6 : decode cL_addCrossing 6 = .ok (.i2l, 1) := by decide +kernel
theorem dL_addCrossing_7 : decode cL_addCrossing 7 = .ok (.lastore, 1) := by decide +kernel
theorem dL_addCrossing_8 : decode cL_addCrossing 8 = .ok (.goto 6, 3) := by decide +kernel
theorem dL_addCrossing_11 : decode cL_addCrossing 11 = .ok (.astore_n 2, 1) := by decide +kernel
theorem dL_addCrossing_12 : decode cL_addCrossing 12 = .ok (.iconst 1, 1) := by decide +kernel
theorem dL_addCrossing_13 : decode cL_addCrossing 13 = .ok (.ireturn, 1) := by decide +kernel
theorem dL_addCrossing_14 : decode cL_addCrossing 14 = .ok (.iconst 0, 1) := by decide +kernel
theorem dL_addCrossing_15 : decode cL_addCrossing 15 = .ok (.ireturn, 1) := by decide +kernel
theorem dL_addStreet_0 : decode cL_addStreet 0 = .ok (.aload 4, 2) := by decide +kernel
theorem dL_addStreet_2 : decode cL_addStreet 2 = .ok (.iconst 0, 1) := by decide +kernel
theorem dL_addStreet_3 : decode cL_addStreet 3 = .ok (.aload_n 0, 1) := by decide +kernel
theorem dL_addStreet_4 : decode cL_addStreet 4 = .ok (.iload_n 1, 1) := by decide +kernel
theorem dL_addStreet_5 : decode cL_addStreet 5 = .ok (.iload_n 2, 1) := by decide +kernel
theorem dL_addStreet_6 : decode cL_addStreet 6 = .ok (.iload_n 3, 1) := by decide +kernel
theorem dL_addStreet_7 : decode cL_addStreet 7 = .ok (.invokevirtual 42, 3) := by decide +kernel
theorem dL_addStreet_10 : decode cL_addStreet 10 = .ok (.i2l, 1) := by decide +kernel
theorem dL_addStreet_11 : decode cL_addStreet 11 = .ok (.lastore, 1) := by decide +kernel
theorem dL_addStreet_12 : decode cL_addStreet 12 = .ok (.goto 15, 3) := by decide +kernel
theorem dL_addStreet_15 : decode cL_addStreet 15 = .ok (.astore 5, 2) := by decide +kernel
theorem dL_addStreet_17 : decode cL_addStreet 17 = .ok (.iconst 1, 1) := by decide +kernel
theorem dL_addStreet_18 : decode cL_addStreet 18 = .ok (.ireturn, 1) := by decide +kernel
theorem dL_addStreet_19 : decode cL_addStreet 19 = .ok (.astore 5, 2) := by decide +kernel
theorem dL_addStreet_21 : decode cL_addStreet 21 = .ok (.iconst 2, 1) := by decide +kernel
theorem dL_addStreet_22 : decode cL_addStreet 22 = .ok (.ireturn, 1) := by decide +kernel
theorem dL_addStreet_23 : decode cL_addStreet 23 = .ok (.astore 5, 2) := by decide +kernel
theorem dL_addStreet_25 : decode cL_addStreet 25 = .ok (.iconst 3, 1) := by decide +kernel
theorem dL_addStreet_26 : decode cL_addStreet 26 = .ok (.ireturn, 1) := by decide +kernel
theorem dL_addStreet_27 : decode cL_addStreet 27 = .ok (.iconst 0, 1) := by decide +kernel
theorem dL_addStreet_28 : decode cL_addStreet 28 = .ok (.ireturn, 1) := by decide +kernel
theorem dL_removeStreet_0 : decode cL_removeStreet 0 = .ok (.aload_n 2, 1) := by decide +kernel
theorem dL_removeStreet_1 : decode cL_removeStreet 1 = .ok (.iconst 0, 1) := by decide +kernel
theorem dL_removeStreet_2 : decode cL_removeStreet 2 = .ok (.aload_n 0, 1) := by decide +kernel
theorem dL_removeStreet_3 : decode cL_removeStreet 3 = .ok (.iload_n 1, 1) := by decide +kernel
theorem dL_removeStreet_4 : decode cL_removeStreet 4 = .ok (.invokevirtual 46, 3) := by decide +kernel
theorem dL_removeStreet_7 : decode cL_removeStreet 7 = .ok (.i2l, 1) := by decide +kernel
theorem dL_removeStreet_8 : decode cL_removeStreet 8 = .ok (.lastore, 1) := by decide +kernel
theorem dL_removeStreet_9 : decode cL_removeStreet 9 = .ok (.goto 6, 3) := by decide +kernel
theorem dL_removeStreet_12 : decode cL_removeStreet 12 = .ok (.astore_n 3, 1) := by decide +kernel
theorem dL_removeStreet_13 : decode cL_removeStreet 13 = .ok (.iconst 1, 1) := by decide +kernel
theorem dL_removeStreet_14 : decode cL_removeStreet 14 = .ok (.ireturn, 1) := by decide +kernel
theorem dL_removeStreet_15 : decode cL_removeStreet 15 = .ok (.iconst 0, 1) := by decide +kernel
theorem dL_removeStreet_16 : decode cL_removeStreet 16 = .ok (.ireturn, 1) := by decide +kernel
theorem dL_setLength_0 : decode cL_setLength 0 = .ok (.aload_n 3, 1) := by decide +kernel
theorem dL_setLength_1 : decode cL_setLength 1 = .ok (.iconst 0, 1) := by decide +kernel
theorem dL_setLength_2 : decode cL_setLength 2 = .ok (.aload_n 0, 1) := by decide +kernel
theorem dL_setLength_3 : decode cL_setLength 3 = .ok (.iload_n 1, 1) := by decide +kernel
theorem dL_setLength_4 : decode cL_setLength 4 = .ok (.iload_n 2, 1) := by decide +kernel
theorem dL_setLength_5 : decode cL_setLength 5 = .ok (.invokevirtual 49, 3) := by decide +kernel
theorem dL_setLength_8 : decode cL_setLength 8 = .ok (.i2l, 1) := by decide +kernel
theorem dL_setLength_9 : decode cL_setLength 9 = .ok (.lastore, 1) := by decide +kernel
theorem dL_setLength_10 : decode cL_setLength 10 = .ok (.goto 11, 3) := by decide +kernel
theorem dL_setLength_13 : decode cL_setLength 13 = .ok (.astore 4, 2) := by decide +kernel
theorem dL_setLength_15 : decode cL_setLength 15 = .ok (.iconst 1, 1) := by decide +kernel
theorem dL_setLength_16 : decode cL_setLength 16 = .ok (.ireturn, 1) := by decide +kernel
theorem dL_setLength_17 : decode cL_setLength 17 = .ok (.astore 4, 2) := by decide +kernel
theorem dL_setLength_19 : decode cL_setLength 19 = .ok (.iconst 2, 1) := by decide +kernel
theorem dL_setLength_20 : decode cL_setLength 20 = .ok (.ireturn, 1) := by decide +kernel
theorem dL_setLength_21 : decode cL_setLength 21 = .ok (.iconst 0, 1) := by decide +kernel
theorem dL_setLength_22 : decode cL_setLength 22 = .ok (.ireturn, 1) := by decide +kernel
theorem dL_close_0 : decode cL_close 0 = .ok (.aload_n 3, 1) := by decide +kernel
theorem dL_close_1 : decode cL_close 1 = .ok (.iconst 0, 1) := by decide +kernel
theorem dL_close_2 : decode cL_close 2 = .ok (.aload_n 0, 1) := by decide +kernel
theorem dL_close_3 : decode cL_close 3 = .ok (.iload_n 1, 1) := by decide +kernel
theorem dL_close_4 : decode cL_close 4 = .ok (.iload_n 2, 1) := by decide +kernel
theorem dL_close_5 : decode cL_close 5 = .ok (.invokevirtual 52, 3) := by decide +kernel
theorem dL_close_8 : decode cL_close 8 = .ok (.i2l, 1) := by decide +kernel
theorem dL_close_9 : decode cL_close 9 = .ok (.lastore, 1) := by decide +kernel
theorem dL_close_10 : decode cL_close 10 = .ok (.goto 7, 3) := by decide +kernel
theorem dL_close_13 : decode cL_close 13 = .ok (.astore 4, 2) := by decide +kernel
theorem dL_close_15 : decode cL_close 15 = .ok (.iconst 1, 1) := by decide +kernel
theorem dL_close_16 : decode cL_close 16 = .ok (.ireturn, 1) := by decide +kernel
theorem dL_close_17 : decode cL_close 17 = .ok (.iconst 0, 1) := by decide +kernel
theorem dL_close_18 : decode cL_close 18 = .ok (.ireturn, 1) := by decide +kernel
theorem dL_setEnds_0 : decode cL_setEnds 0 = .ok (.aload_n 3, 1) := by decide +kernel
theorem dL_setEnds_1 : decode cL_setEnds 1 = .ok (.iconst 0, 1) := by decide +kernel
theorem dL_setEnds_2 : decode cL_setEnds 2 = .ok (.aload_n 0, 1) := by decide +kernel
theorem dL_setEnds_3 : decode cL_setEnds 3 = .ok (.iload_n 1, 1) := by decide +kernel
end
section
theorem dL_setEnds_4 : decode cL_setEnds 4 = .ok (.iload_n 2, 1) := by decide +kernel
theorem dL_setEnds_5 : decode cL_setEnds 5 = .ok (.invokevirtual 56, 3) := by decide +kernel
theorem dL_setEnds_8 : decode cL_setEnds 8 = .ok (.i2l, 1) := by decide +kernel
theorem dL_setEnds_9 : decode cL_setEnds 9 = .ok (.lastore, 1) := by decide +kernel
theorem dL_setEnds_10 : decode cL_setEnds 10 = .ok (.goto 11, 3) := by decide +kernel
theorem dL_setEnds_13 : decode cL_setEnds 13 = .ok (.astore 4, 2) := by decide +kernel
theorem dL_setEnds_15 : decode cL_setEnds 15 = .ok (.iconst 1, 1) := by decide +kernel
theorem dL_setEnds_16 : decode cL_setEnds 16 = .ok (.ireturn, 1) := by decide +kernel
theorem dL_setEnds_17 : decode cL_setEnds 17 = .ok (.astore 4, 2) := by decide +kernel
theorem dL_setEnds_19 : decode cL_setEnds 19 = .ok (.iconst 2, 1) := by decide +kernel
theorem dL_setEnds_20 : decode cL_setEnds 20 = .ok (.ireturn, 1) := by decide +kernel
theorem dL_setEnds_21 : decode cL_setEnds 21 = .ok (.iconst 0, 1) := by decide +kernel
theorem dL_setEnds_22 : decode cL_setEnds 22 = .ok (.ireturn, 1) := by decide +kernel
theorem dL_runPlan_0 : decode cL_runPlan 0 = .ok (.aload_n 1, 1) := by decide +kernel
theorem dL_runPlan_1 : decode cL_runPlan 1 = .ok (.iconst 0, 1) := by decide +kernel
theorem dL_runPlan_2 : decode cL_runPlan 2 = .ok (.aload_n 0, 1) := by decide +kernel
theorem dL_runPlan_3 : decode cL_runPlan 3 = .ok (.invokevirtual 59, 3) := by decide +kernel
theorem dL_runPlan_6 : decode cL_runPlan 6 = .ok (.i2l, 1) := by decide +kernel
theorem dL_runPlan_7 : decode cL_runPlan 7 = .ok (.lastore, 1) := by decide +kernel
theorem dL_runPlan_8 : decode cL_runPlan 8 = .ok (.goto 6, 3) := by decide +kernel
theorem dL_runPlan_11 : decode cL_runPlan 11 = .ok (.astore_n 2, 1) := by decide +kernel
theorem dL_runPlan_12 : decode cL_runPlan 12 = .ok (.iconst 1, 1) := by decide +kernel
theorem dL_runPlan_13 : decode cL_runPlan 13 = .ok (.ireturn, 1) := by decide +kernel
theorem dL_runPlan_14 : decode cL_runPlan 14 = .ok (.iconst 0, 1) := by decide +kernel
theorem dL_runPlan_15 : decode cL_runPlan 15 = .ok (.ireturn, 1) := by decide +kernel
theorem dL_undo_0 : decode cL_undo 0 = .ok (.aload_n 1, 1) := by decide +kernel
theorem dL_undo_1 : decode cL_undo 1 = .ok (.iconst 0, 1) := by decide +kernel
theorem dL_undo_2 : decode cL_undo 2 = .ok (.aload_n 0, 1) := by decide +kernel
theorem dL_undo_3 : decode cL_undo 3 = .ok (.invokevirtual 62, 3) := by decide +kernel
theorem dL_undo_6 : decode cL_undo 6 = .ok (.i2l, 1) := by decide +kernel
theorem dL_undo_7 : decode cL_undo 7 = .ok (.lastore, 1) := by decide +kernel
theorem dL_undo_8 : decode cL_undo 8 = .ok (.goto 6, 3) := by decide +kernel
theorem dL_undo_11 : decode cL_undo 11 = .ok (.astore_n 2, 1) := by decide +kernel
theorem dL_undo_12 : decode cL_undo 12 = .ok (.iconst 1, 1) := by decide +kernel
theorem dL_undo_13 : decode cL_undo 13 = .ok (.ireturn, 1) := by decide +kernel
theorem dL_undo_14 : decode cL_undo 14 = .ok (.iconst 0, 1) := by decide +kernel
theorem dL_undo_15 : decode cL_undo 15 = .ok (.ireturn, 1) := by decide +kernel
theorem dL_without_0 : decode cL_without 0 = .ok (.aload_n 2, 1) := by decide +kernel
theorem dL_without_1 : decode cL_without 1 = .ok (.iconst 0, 1) := by decide +kernel
theorem dL_without_2 : decode cL_without 2 = .ok (.aload_n 0, 1) := by decide +kernel
theorem dL_without_3 : decode cL_without 3 = .ok (.iload_n 1, 1) := by decide +kernel
theorem dL_without_4 : decode cL_without 4 = .ok (.invokevirtual 65, 3) := by decide +kernel
theorem dL_without_7 : decode cL_without 7 = .ok (.i2l, 1) := by decide +kernel
theorem dL_without_8 : decode cL_without 8 = .ok (.lastore, 1) := by decide +kernel
theorem dL_without_9 : decode cL_without 9 = .ok (.goto 6, 3) := by decide +kernel
theorem dL_without_12 : decode cL_without 12 = .ok (.astore_n 3, 1) := by decide +kernel
theorem dL_without_13 : decode cL_without 13 = .ok (.iconst 1, 1) := by decide +kernel
theorem dL_without_14 : decode cL_without 14 = .ok (.ireturn, 1) := by decide +kernel
theorem dL_without_15 : decode cL_without 15 = .ok (.iconst 0, 1) := by decide +kernel
theorem dL_without_16 : decode cL_without 16 = .ok (.ireturn, 1) := by decide +kernel
theorem dL_withoutAt_0 : decode cL_withoutAt 0 = .ok (.aload_n 3, 1) := by decide +kernel
theorem dL_withoutAt_1 : decode cL_withoutAt 1 = .ok (.iconst 0, 1) := by decide +kernel
theorem dL_withoutAt_2 : decode cL_withoutAt 2 = .ok (.aload_n 0, 1) := by decide +kernel
theorem dL_withoutAt_3 : decode cL_withoutAt 3 = .ok (.iload_n 1, 1) := by decide +kernel
theorem dL_withoutAt_4 : decode cL_withoutAt 4 = .ok (.iload_n 2, 1) := by decide +kernel
theorem dL_withoutAt_5 : decode cL_withoutAt 5 = .ok (.invokevirtual 68, 3) := by decide +kernel
theorem dL_withoutAt_8 : decode cL_withoutAt 8 = .ok (.i2l, 1) := by decide +kernel
theorem dL_withoutAt_9 : decode cL_withoutAt 9 = .ok (.lastore, 1) := by decide +kernel
theorem dL_withoutAt_10 : decode cL_withoutAt 10 = .ok (.goto 11, 3) := by decide +kernel
theorem dL_withoutAt_13 : decode cL_withoutAt 13 = .ok (.astore 4, 2) := by decide +kernel
theorem dL_withoutAt_15 : decode cL_withoutAt 15 = .ok (.iconst 1, 1) := by decide +kernel
theorem dL_withoutAt_16 : decode cL_withoutAt 16 = .ok (.ireturn, 1) := by decide +kernel
theorem dL_withoutAt_17 : decode cL_withoutAt 17 = .ok (.astore 4, 2) := by decide +kernel
theorem dL_withoutAt_19 : decode cL_withoutAt 19 = .ok (.iconst 2, 1) := by decide +kernel
theorem dL_withoutAt_20 : decode cL_withoutAt 20 = .ok (.ireturn, 1) := by decide +kernel
theorem dL_withoutAt_21 : decode cL_withoutAt 21 = .ok (.iconst 0, 1) := by decide +kernel
theorem dL_withoutAt_22 : decode cL_withoutAt 22 = .ok (.ireturn, 1) := by decide +kernel
theorem dL_upTo_0 : decode cL_upTo 0 = .ok (.aload_n 2, 1) := by decide +kernel
theorem dL_upTo_1 : decode cL_upTo 1 = .ok (.iconst 0, 1) := by decide +kernel
theorem dL_upTo_2 : decode cL_upTo 2 = .ok (.aload_n 0, 1) := by decide +kernel
theorem dL_upTo_3 : decode cL_upTo 3 = .ok (.iload_n 1, 1) := by decide +kernel
theorem dL_upTo_4 : decode cL_upTo 4 = .ok (.invokevirtual 71, 3) := by decide +kernel
theorem dL_upTo_7 : decode cL_upTo 7 = .ok (.i2l, 1) := by decide +kernel
theorem dL_upTo_8 : decode cL_upTo 8 = .ok (.lastore, 1) := by decide +kernel
theorem dL_upTo_9 : decode cL_upTo 9 = .ok (.goto 6, 3) := by decide +kernel
theorem dL_upTo_12 : decode cL_upTo 12 = .ok (.astore_n 3, 1) := by decide +kernel
theorem dL_upTo_13 : decode cL_upTo 13 = .ok (.iconst 1, 1) := by decide +kernel
theorem dL_upTo_14 : decode cL_upTo 14 = .ok (.ireturn, 1) := by decide +kernel
theorem dL_upTo_15 : decode cL_upTo 15 = .ok (.iconst 0, 1) := by decide +kernel
theorem dL_upTo_16 : decode cL_upTo 16 = .ok (.ireturn, 1) := by decide +kernel
theorem dL_saves_0 : decode cL_saves 0 = .ok (.aload 4, 2) := by decide +kernel
theorem dL_saves_2 : decode cL_saves 2 = .ok (.iconst 0, 1) := by decide +kernel
theorem dL_saves_3 : decode cL_saves 3 = .ok (.aload_n 0, 1) := by decide +kernel
theorem dL_saves_4 : decode cL_saves 4 = .ok (.iload_n 1, 1) := by decide +kernel
theorem dL_saves_5 : decode cL_saves 5 = .ok (.iload_n 2, 1) := by decide +kernel
theorem dL_saves_6 : decode cL_saves 6 = .ok (.iload_n 3, 1) := by decide +kernel
theorem dL_saves_7 : decode cL_saves 7 = .ok (.invokevirtual 74, 3) := by decide +kernel
theorem dL_saves_10 : decode cL_saves 10 = .ok (.i2l, 1) := by decide +kernel
theorem dL_saves_11 : decode cL_saves 11 = .ok (.lastore, 1) := by decide +kernel
theorem dL_saves_12 : decode cL_saves 12 = .ok (.goto 11, 3) := by decide +kernel
theorem dL_saves_15 : decode cL_saves 15 = .ok (.astore 5, 2) := by decide +kernel
theorem dL_saves_17 : decode cL_saves 17 = .ok (.iconst 1, 1) := by decide +kernel
theorem dL_saves_18 : decode cL_saves 18 = .ok (.ireturn, 1) := by decide +kernel
theorem dL_saves_19 : decode cL_saves 19 = .ok (.astore 5, 2) := by decide +kernel
theorem dL_saves_21 : decode cL_saves 21 = .ok (.iconst 2, 1) := by decide +kernel
theorem dL_saves_22 : decode cL_saves 22 = .ok (.ireturn, 1) := by decide +kernel
theorem dL_saves_23 : decode cL_saves 23 = .ok (.iconst 0, 1) := by decide +kernel
theorem dL_saves_24 : decode cL_saves 24 = .ok (.ireturn, 1) := by decide +kernel
theorem dL_ways_0 : decode cL_ways 0 = .ok (.aload_n 2, 1) := by decide +kernel
theorem dL_ways_1 : decode cL_ways 1 = .ok (.iconst 0, 1) := by decide +kernel
theorem dL_ways_2 : decode cL_ways 2 = .ok (.aload_n 0, 1) := by decide +kernel
theorem dL_ways_3 : decode cL_ways 3 = .ok (.iload_n 1, 1) := by decide +kernel
theorem dL_ways_4 : decode cL_ways 4 = .ok (.invokevirtual 77, 3) := by decide +kernel
theorem dL_ways_7 : decode cL_ways 7 = .ok (.i2l, 1) := by decide +kernel
theorem dL_ways_8 : decode cL_ways 8 = .ok (.lastore, 1) := by decide +kernel
theorem dL_ways_9 : decode cL_ways 9 = .ok (.goto 6, 3) := by decide +kernel
theorem dL_ways_12 : decode cL_ways 12 = .ok (.astore_n 3, 1) := by decide +kernel
theorem dL_ways_13 : decode cL_ways 13 = .ok (.iconst 1, 1) := by decide +kernel
theorem dL_ways_14 : decode cL_ways 14 = .ok (.ireturn, 1) := by decide +kernel
theorem dL_ways_15 : decode cL_ways 15 = .ok (.iconst 0, 1) := by decide +kernel
theorem dL_ways_16 : decode cL_ways 16 = .ok (.ireturn, 1) := by decide +kernel
theorem dL_runScript_0 : decode cL_runScript 0 = .ok (.aload 4, 2) := by decide +kernel
theorem dL_runScript_2 : decode cL_runScript 2 = .ok (.iconst 0, 1) := by decide +kernel
theorem dL_runScript_3 : decode cL_runScript 3 = .ok (.aload_n 0, 1) := by decide +kernel
theorem dL_runScript_4 : decode cL_runScript 4 = .ok (.iload_n 1, 1) := by decide +kernel
theorem dL_runScript_5 : decode cL_runScript 5 = .ok (.lload_n 2, 1) := by decide +kernel
theorem dL_runScript_6 : decode cL_runScript 6 = .ok (.invokevirtual 80, 3) := by decide +kernel
theorem dL_runScript_9 : decode cL_runScript 9 = .ok (.i2l, 1) := by decide +kernel
theorem dL_runScript_10 : decode cL_runScript 10 = .ok (.lastore, 1) := by decide +kernel
theorem dL_runScript_11 : decode cL_runScript 11 = .ok (.goto 7, 3) := by decide +kernel
theorem dL_runScript_14 : decode cL_runScript 14 = .ok (.astore 5, 2) := by decide +kernel
theorem dL_runScript_16 : decode cL_runScript 16 = .ok (.iconst 1, 1) := by decide +kernel
theorem dL_runScript_17 : decode cL_runScript 17 = .ok (.ireturn, 1) := by decide +kernel
theorem dL_runScript_18 : decode cL_runScript 18 = .ok (.iconst 0, 1) := by decide +kernel
theorem dL_runScript_19 : decode cL_runScript 19 = .ok (.ireturn, 1) := by decide +kernel
theorem dL_simulate_0 : decode cL_simulate 0 = .ok (.aload 4, 2) := by decide +kernel
theorem dL_simulate_2 : decode cL_simulate 2 = .ok (.iconst 0, 1) := by decide +kernel
theorem dL_simulate_3 : decode cL_simulate 3 = .ok (.aload_n 0, 1) := by decide +kernel
theorem dL_simulate_4 : decode cL_simulate 4 = .ok (.lload_n 1, 1) := by decide +kernel
theorem dL_simulate_5 : decode cL_simulate 5 = .ok (.iload_n 3, 1) := by decide +kernel
theorem dL_simulate_6 : decode cL_simulate 6 = .ok (.invokevirtual 84, 3) := by decide +kernel
theorem dL_simulate_9 : decode cL_simulate 9 = .ok (.i2l, 1) := by decide +kernel
theorem dL_simulate_10 : decode cL_simulate 10 = .ok (.lastore, 1) := by decide +kernel
theorem dL_simulate_11 : decode cL_simulate 11 = .ok (.goto 7, 3) := by decide +kernel
theorem dL_simulate_14 : decode cL_simulate 14 = .ok (.astore 5, 2) := by decide +kernel
theorem dL_simulate_16 : decode cL_simulate 16 = .ok (.iconst 1, 1) := by decide +kernel
theorem dL_simulate_17 : decode cL_simulate 17 = .ok (.ireturn, 1) := by decide +kernel
theorem dL_simulate_18 : decode cL_simulate 18 = .ok (.iconst 0, 1) := by decide +kernel
theorem dL_simulate_19 : decode cL_simulate 19 = .ok (.ireturn, 1) := by decide +kernel
theorem dL_save_0 : decode cL_save 0 = .ok (.aload_n 2, 1) := by decide +kernel
theorem dL_save_1 : decode cL_save 1 = .ok (.iconst 0, 1) := by decide +kernel
theorem dL_save_2 : decode cL_save 2 = .ok (.aload_n 0, 1) := by decide +kernel
theorem dL_save_3 : decode cL_save 3 = .ok (.iload_n 1, 1) := by decide +kernel
theorem dL_save_4 : decode cL_save 4 = .ok (.invokevirtual 88, 3) := by decide +kernel
theorem dL_save_7 : decode cL_save 7 = .ok (.i2l, 1) := by decide +kernel
theorem dL_save_8 : decode cL_save 8 = .ok (.lastore, 1) := by decide +kernel
theorem dL_save_9 : decode cL_save 9 = .ok (.goto 6, 3) := by decide +kernel
theorem dL_save_12 : decode cL_save 12 = .ok (.astore_n 3, 1) := by decide +kernel
theorem dL_save_13 : decode cL_save 13 = .ok (.iconst 1, 1) := by decide +kernel
theorem dL_save_14 : decode cL_save 14 = .ok (.ireturn, 1) := by decide +kernel
theorem dL_save_15 : decode cL_save 15 = .ok (.iconst 0, 1) := by decide +kernel
theorem dL_save_16 : decode cL_save 16 = .ok (.ireturn, 1) := by decide +kernel
theorem dL_restore_0 : decode cL_restore 0 = .ok (.aload_n 2, 1) := by decide +kernel
theorem dL_restore_1 : decode cL_restore 1 = .ok (.iconst 0, 1) := by decide +kernel
theorem dL_restore_2 : decode cL_restore 2 = .ok (.aload_n 0, 1) := by decide +kernel
theorem dL_restore_3 : decode cL_restore 3 = .ok (.iload_n 1, 1) := by decide +kernel
theorem dL_restore_4 : decode cL_restore 4 = .ok (.invokevirtual 91, 3) := by decide +kernel
theorem dL_restore_7 : decode cL_restore 7 = .ok (.i2l, 1) := by decide +kernel
theorem dL_restore_8 : decode cL_restore 8 = .ok (.lastore, 1) := by decide +kernel
theorem dL_restore_9 : decode cL_restore 9 = .ok (.goto 9, 3) := by decide +kernel
theorem dL_restore_12 : decode cL_restore 12 = .ok (.astore_n 3, 1) := by decide +kernel
theorem dL_restore_13 : decode cL_restore 13 = .ok (.iconst 1, 1) := by decide +kernel
theorem dL_restore_14 : decode cL_restore 14 = .ok (.ireturn, 1) := by decide +kernel
theorem dL_restore_15 : decode cL_restore 15 = .ok (.astore_n 3, 1) := by decide +kernel
theorem dL_restore_16 : decode cL_restore 16 = .ok (.iconst 2, 1) := by decide +kernel
theorem dL_restore_17 : decode cL_restore 17 = .ok (.ireturn, 1) := by decide +kernel
theorem dL_restore_18 : decode cL_restore 18 = .ok (.iconst 0, 1) := by decide +kernel
theorem dL_restore_19 : decode cL_restore 19 = .ok (.ireturn, 1) := by decide +kernel
theorem dL_law_0 : decode cL_law 0 = .ok (.new 8, 3) := by decide +kernel
theorem dL_law_3 : decode cL_law 3 = .ok (.dup, 1) := by decide +kernel
theorem dL_law_4 : decode cL_law 4 = .ok (.invokespecial 94, 3) := by decide +kernel
theorem dL_law_7 : decode cL_law 7 = .ok (.astore_n 1, 1) := by decide +kernel
theorem dL_law_8 : decode cL_law 8 = .ok (.new 95, 3) := by decide +kernel
theorem dL_law_11 : decode cL_law 11 = .ok (.dup, 1) := by decide +kernel
theorem dL_law_12 : decode cL_law 12 = .ok (.invokespecial 97, 3) := by decide +kernel
theorem dL_law_15 : decode cL_law 15 = .ok (.astore_n 2, 1) := by decide +kernel
theorem dL_law_16 : decode cL_law 16 = .ok (.iconst 1, 1) := by decide +kernel
theorem dL_law_17 : decode cL_law 17 = .ok (.newarray .long, 2) := by decide +kernel
theorem dL_law_19 : decode cL_law 19 = .ok (.astore_n 3, 1) := by decide +kernel
theorem dL_law_20 : decode cL_law 20 = .ok (.iconst 0, 1) := by decide +kernel
theorem dL_law_21 : decode cL_law 21 = .ok (.istore 4, 2) := by decide +kernel
theorem dL_law_23 : decode cL_law 23 = .ok (.iload 4, 2) := by decide +kernel
theorem dL_law_25 : decode cL_law 25 = .ok (.aload_n 0, 1) := by decide +kernel
theorem dL_law_26 : decode cL_law 26 = .ok (.arraylength, 1) := by decide +kernel
theorem dL_law_27 : decode cL_law 27 = .ok (.iconst 4, 1) := by decide +kernel
theorem dL_law_28 : decode cL_law 28 = .ok (.isub, 1) := by decide +kernel
theorem dL_law_29 : decode cL_law 29 = .ok (.if_icmp .gt 1753, 3) := by decide +kernel
theorem dL_law_32 : decode cL_law 32 = .ok (.aload_n 0, 1) := by decide +kernel
theorem dL_law_33 : decode cL_law 33 = .ok (.iload 4, 2) := by decide +kernel
theorem dL_law_35 : decode cL_law 35 = .ok (.iaload, 1) := by decide +kernel
theorem dL_law_36 : decode cL_law 36 = .ok (.bipush 31, 2) := by decide +kernel
theorem dL_law_38 : decode cL_law 38 = .ok (.iand, 1) := by decide +kernel
theorem dL_law_39 : decode cL_law 39 = .ok (.tableswitch 1737 0 27 #[125, 181, 194, 235, 279, 335, 403, 471, 539, 595, 639, 719, 775, 843, 927, 995, 1039, 1083, 1139, 1207, 1220, 1276, 1356, 1412, 1425, 1525, 1625, 1681], 125) := by decide +kernel
theorem dL_law_164 : decode cL_law 164 = .ok (.aload_n 1, 1) := by decide +kernel
theorem dL_law_165 : decode cL_law 165 = .ok (.aload_n 0, 1) := by decide +kernel
theorem dL_law_166 : decode cL_law 166 = .ok (.iload 4, 2) := by decide +kernel
theorem dL_law_168 : decode cL_law 168 = .ok (.iconst 1, 1) := by decide +kernel
theorem dL_law_169 : decode cL_law 169 = .ok (.iadd, 1) := by decide +kernel
theorem dL_law_170 : decode cL_law 170 = .ok (.iaload, 1) := by decide +kernel
theorem dL_law_171 : decode cL_law 171 = .ok (.aload_n 3, 1) := by decide +kernel
theorem dL_law_172 : decode cL_law 172 = .ok (.invokestatic 98, 3) := by decide +kernel
theorem dL_law_175 : decode cL_law 175 = .ok (.istore 5, 2) := by decide +kernel
theorem dL_law_177 : decode cL_law 177 = .ok (.aload_n 2, 1) := by decide +kernel
theorem dL_law_178 : decode cL_law 178 = .ok (.aload_n 0, 1) := by decide +kernel
theorem dL_law_179 : decode cL_law 179 = .ok (.iload 4, 2) := by decide +kernel
theorem dL_law_181 : decode cL_law 181 = .ok (.iconst 1, 1) := by decide +kernel
theorem dL_law_182 : decode cL_law 182 = .ok (.iadd, 1) := by decide +kernel
theorem dL_law_183 : decode cL_law 183 = .ok (.iaload, 1) := by decide +kernel
theorem dL_law_184 : decode cL_law 184 = .ok (.invokevirtual 103, 3) := by decide +kernel
theorem dL_law_187 : decode cL_law 187 = .ok (.istore 6, 2) := by decide +kernel
theorem dL_law_189 : decode cL_law 189 = .ok (.aload_n 2, 1) := by decide +kernel
theorem dL_law_190 : decode cL_law 190 = .ok (.invokevirtual 104, 3) := by decide +kernel
theorem dL_law_193 : decode cL_law 193 = .ok (.iload 5, 2) := by decide +kernel
theorem dL_law_195 : decode cL_law 195 = .ok (.if_icmp .eq 5, 3) := by decide +kernel
theorem dL_law_198 : decode cL_law 198 = .ok (.iconst 0, 1) := by decide +kernel
theorem dL_law_199 : decode cL_law 199 = .ok (.ireturn, 1) := by decide +kernel
theorem dL_law_200 : decode cL_law 200 = .ok (.iload 5, 2) := by decide +kernel
theorem dL_law_202 : decode cL_law 202 = .ok (.ifCond .ne 15, 3) := by decide +kernel
theorem dL_law_205 : decode cL_law 205 = .ok (.aload_n 3, 1) := by decide +kernel
theorem dL_law_206 : decode cL_law 206 = .ok (.iconst 0, 1) := by decide +kernel
theorem dL_law_207 : decode cL_law 207 = .ok (.laload, 1) := by decide +kernel
theorem dL_law_208 : decode cL_law 208 = .ok (.iload 6, 2) := by decide +kernel
theorem dL_law_210 : decode cL_law 210 = .ok (.i2l, 1) := by decide +kernel
theorem dL_law_211 : decode cL_law 211 = .ok (.lcmp, 1) := by decide +kernel
theorem dL_law_212 : decode cL_law 212 = .ok (.ifCond .eq 5, 3) := by decide +kernel
theorem dL_law_215 : decode cL_law 215 = .ok (.iconst 0, 1) := by decide +kernel
theorem dL_law_216 : decode cL_law 216 = .ok (.ireturn, 1) := by decide +kernel
theorem dL_law_217 : decode cL_law 217 = .ok (.goto 1559, 3) := by decide +kernel
theorem dL_law_220 : decode cL_law 220 = .ok (.aload_n 1, 1) := by decide +kernel
theorem dL_law_221 : decode cL_law 221 = .ok (.invokevirtual 107, 3) := by decide +kernel
theorem dL_law_224 : decode cL_law 224 = .ok (.aload_n 2, 1) := by decide +kernel
theorem dL_law_225 : decode cL_law 225 = .ok (.invokevirtual 110, 3) := by decide +kernel
theorem dL_law_228 : decode cL_law 228 = .ok (.if_icmp .eq 1548, 3) := by decide +kernel
theorem dL_law_231 : decode cL_law 231 = .ok (.iconst 0, 1) := by decide +kernel
theorem dL_law_232 : decode cL_law 232 = .ok (.ireturn, 1) := by decide +kernel
theorem dL_law_233 : decode cL_law 233 = .ok (.aload_n 1, 1) := by decide +kernel
theorem dL_law_234 : decode cL_law 234 = .ok (.aload_n 0, 1) := by decide +kernel
theorem dL_law_235 : decode cL_law 235 = .ok (.iload 4, 2) := by decide +kernel
theorem dL_law_237 : decode cL_law 237 = .ok (.iconst 1, 1) := by decide +kernel
theorem dL_law_238 : decode cL_law 238 = .ok (.iadd, 1) := by decide +kernel
theorem dL_law_239 : decode cL_law 239 = .ok (.iaload, 1) := by decide +kernel
theorem dL_law_240 : decode cL_law 240 = .ok (.ifCond .eq 7, 3) := by decide +kernel
theorem dL_law_243 : decode cL_law 243 = .ok (.iconst 1, 1) := by decide +kernel
theorem dL_law_244 : decode cL_law 244 = .ok (.goto 4, 3) := by decide +kernel
theorem dL_law_247 : decode cL_law 247 = .ok (.iconst 0, 1) := by decide +kernel
theorem dL_law_248 : decode cL_law 248 = .ok (.invokevirtual 111, 3) := by decide +kernel
theorem dL_law_251 : decode cL_law 251 = .ok (.aload_n 2, 1) := by decide +kernel
theorem dL_law_252 : decode cL_law 252 = .ok (.aload_n 0, 1) := by decide +kernel
theorem dL_law_253 : decode cL_law 253 = .ok (.iload 4, 2) := by decide +kernel
theorem dL_law_255 : decode cL_law 255 = .ok (.iconst 1, 1) := by decide +kernel
theorem dL_law_256 : decode cL_law 256 = .ok (.iadd, 1) := by decide +kernel
theorem dL_law_257 : decode cL_law 257 = .ok (.iaload, 1) := by decide +kernel
theorem dL_law_258 : decode cL_law 258 = .ok (.ifCond .eq 7, 3) := by decide +kernel
theorem dL_law_261 : decode cL_law 261 = .ok (.iconst 1, 1) := by decide +kernel
theorem dL_law_262 : decode cL_law 262 = .ok (.goto 4, 3) := by decide +kernel
theorem dL_law_265 : decode cL_law 265 = .ok (.iconst 0, 1) := by decide +kernel
theorem dL_law_266 : decode cL_law 266 = .ok (.invokevirtual 115, 3) := by decide +kernel
theorem dL_law_269 : decode cL_law 269 = .ok (.if_icmp .eq 1507, 3) := by decide +kernel
theorem dL_law_272 : decode cL_law 272 = .ok (.iconst 0, 1) := by decide +kernel
theorem dL_law_273 : decode cL_law 273 = .ok (.ireturn, 1) := by decide +kernel
theorem dL_law_274 : decode cL_law 274 = .ok (.aload_n 1, 1) := by decide +kernel
theorem dL_law_275 : decode cL_law 275 = .ok (.aload_n 3, 1) := by decide +kernel
theorem dL_law_276 : decode cL_law 276 = .ok (.invokestatic 116, 3) := by decide +kernel
theorem dL_law_279 : decode cL_law 279 = .ok (.istore 5, 2) := by decide +kernel
theorem dL_law_281 : decode cL_law 281 = .ok (.aload_n 2, 1) := by decide +kernel
theorem dL_law_282 : decode cL_law 282 = .ok (.invokevirtual 119, 3) := by decide +kernel
theorem dL_law_285 : decode cL_law 285 = .ok (.istore 6, 2) := by decide +kernel
theorem dL_law_287 : decode cL_law 287 = .ok (.aload_n 2, 1) := by decide +kernel
theorem dL_law_288 : decode cL_law 288 = .ok (.invokevirtual 104, 3) := by decide +kernel
theorem dL_law_291 : decode cL_law 291 = .ok (.iload 5, 2) := by decide +kernel
theorem dL_law_293 : decode cL_law 293 = .ok (.if_icmp .eq 5, 3) := by decide +kernel
theorem dL_law_296 : decode cL_law 296 = .ok (.iconst 0, 1) := by decide +kernel
theorem dL_law_297 : decode cL_law 297 = .ok (.ireturn, 1) := by decide +kernel
theorem dL_law_298 : decode cL_law 298 = .ok (.iload 5, 2) := by decide +kernel
theorem dL_law_300 : decode cL_law 300 = .ok (.ifCond .ne 15, 3) := by decide +kernel
theorem dL_law_303 : decode cL_law 303 = .ok (.aload_n 3, 1) := by decide +kernel
theorem dL_law_304 : decode cL_law 304 = .ok (.iconst 0, 1) := by decide +kernel
theorem dL_law_305 : decode cL_law 305 = .ok (.laload, 1) := by decide +kernel
theorem dL_law_306 : decode cL_law 306 = .ok (.iload 6, 2) := by decide +kernel
theorem dL_law_308 : decode cL_law 308 = .ok (.i2l, 1) := by decide +kernel
theorem dL_law_309 : decode cL_law 309 = .ok (.lcmp, 1) := by decide +kernel
theorem dL_law_310 : decode cL_law 310 = .ok (.ifCond .eq 5, 3) := by decide +kernel
theorem dL_law_313 : decode cL_law 313 = .ok (.iconst 0, 1) := by decide +kernel
theorem dL_law_314 : decode cL_law 314 = .ok (.ireturn, 1) := by decide +kernel
theorem dL_law_315 : decode cL_law 315 = .ok (.goto 1461, 3) := by decide +kernel
theorem dL_law_318 : decode cL_law 318 = .ok (.aload_n 1, 1) := by decide +kernel
theorem dL_law_319 : decode cL_law 319 = .ok (.aload_n 0, 1) := by decide +kernel
theorem dL_law_320 : decode cL_law 320 = .ok (.iload 4, 2) := by decide +kernel
theorem dL_law_322 : decode cL_law 322 = .ok (.iconst 1, 1) := by decide +kernel
theorem dL_law_323 : decode cL_law 323 = .ok (.iadd, 1) := by decide +kernel
theorem dL_law_324 : decode cL_law 324 = .ok (.iaload, 1) := by decide +kernel
theorem dL_law_325 : decode cL_law 325 = .ok (.aload_n 3, 1) := by decide +kernel
theorem dL_law_326 : decode cL_law 326 = .ok (.invokestatic 120, 3) := by decide +kernel
theorem dL_law_329 : decode cL_law 329 = .ok (.istore 5, 2) := by decide +kernel
theorem dL_law_331 : decode cL_law 331 = .ok (.aload_n 2, 1) := by decide +kernel
theorem dL_law_332 : decode cL_law 332 = .ok (.aload_n 0, 1) := by decide +kernel
theorem dL_law_333 : decode cL_law 333 = .ok (.iload 4, 2) := by decide +kernel
theorem dL_law_335 : decode cL_law 335 = .ok (.iconst 1, 1) := by decide +kernel
theorem dL_law_336 : decode cL_law 336 = .ok (.iadd, 1) := by decide +kernel
theorem dL_law_337 : decode cL_law 337 = .ok (.iaload, 1) := by decide +kernel
theorem dL_law_338 : decode cL_law 338 = .ok (.invokevirtual 122, 3) := by decide +kernel
theorem dL_law_341 : decode cL_law 341 = .ok (.istore 6, 2) := by decide +kernel
theorem dL_law_343 : decode cL_law 343 = .ok (.aload_n 2, 1) := by decide +kernel
theorem dL_law_344 : decode cL_law 344 = .ok (.invokevirtual 104, 3) := by decide +kernel
theorem dL_law_347 : decode cL_law 347 = .ok (.iload 5, 2) := by decide +kernel
theorem dL_law_349 : decode cL_law 349 = .ok (.if_icmp .eq 5, 3) := by decide +kernel
theorem dL_law_352 : decode cL_law 352 = .ok (.iconst 0, 1) := by decide +kernel
theorem dL_law_353 : decode cL_law 353 = .ok (.ireturn, 1) := by decide +kernel
theorem dL_law_354 : decode cL_law 354 = .ok (.iload 5, 2) := by decide +kernel
theorem dL_law_356 : decode cL_law 356 = .ok (.ifCond .ne 15, 3) := by decide +kernel
theorem dL_law_359 : decode cL_law 359 = .ok (.aload_n 3, 1) := by decide +kernel
theorem dL_law_360 : decode cL_law 360 = .ok (.iconst 0, 1) := by decide +kernel
theorem dL_law_361 : decode cL_law 361 = .ok (.laload, 1) := by decide +kernel
theorem dL_law_362 : decode cL_law 362 = .ok (.iload 6, 2) := by decide +kernel
theorem dL_law_364 : decode cL_law 364 = .ok (.i2l, 1) := by decide +kernel
theorem dL_law_365 : decode cL_law 365 = .ok (.lcmp, 1) := by decide +kernel
theorem dL_law_366 : decode cL_law 366 = .ok (.ifCond .eq 5, 3) := by decide +kernel
theorem dL_law_369 : decode cL_law 369 = .ok (.iconst 0, 1) := by decide +kernel
theorem dL_law_370 : decode cL_law 370 = .ok (.ireturn, 1) := by decide +kernel
theorem dL_law_371 : decode cL_law 371 = .ok (.goto 1405, 3) := by decide +kernel
theorem dL_law_374 : decode cL_law 374 = .ok (.aload_n 1, 1) := by decide +kernel
theorem dL_law_375 : decode cL_law 375 = .ok (.aload_n 0, 1) := by decide +kernel
theorem dL_law_376 : decode cL_law 376 = .ok (.iload 4, 2) := by decide +kernel
theorem dL_law_378 : decode cL_law 378 = .ok (.iconst 1, 1) := by decide +kernel
theorem dL_law_379 : decode cL_law 379 = .ok (.iadd, 1) := by decide +kernel
theorem dL_law_380 : decode cL_law 380 = .ok (.iaload, 1) := by decide +kernel
theorem dL_law_381 : decode cL_law 381 = .ok (.aload_n 0, 1) := by decide +kernel
theorem dL_law_382 : decode cL_law 382 = .ok (.iload 4, 2) := by decide +kernel
theorem dL_law_384 : decode cL_law 384 = .ok (.iconst 2, 1) := by decide +kernel
theorem dL_law_385 : decode cL_law 385 = .ok (.iadd, 1) := by decide +kernel
theorem dL_law_386 : decode cL_law 386 = .ok (.iaload, 1) := by decide +kernel
theorem dL_law_387 : decode cL_law 387 = .ok (.aload_n 3, 1) := by decide +kernel
theorem dL_law_388 : decode cL_law 388 = .ok (.invokestatic 123, 3) := by decide +kernel
theorem dL_law_391 : decode cL_law 391 = .ok (.istore 5, 2) := by decide +kernel
theorem dL_law_393 : decode cL_law 393 = .ok (.aload_n 2, 1) := by decide +kernel
theorem dL_law_394 : decode cL_law 394 = .ok (.aload_n 0, 1) := by decide +kernel
theorem dL_law_395 : decode cL_law 395 = .ok (.iload 4, 2) := by decide +kernel
theorem dL_law_397 : decode cL_law 397 = .ok (.iconst 1, 1) := by decide +kernel
theorem dL_law_398 : decode cL_law 398 = .ok (.iadd, 1) := by decide +kernel
theorem dL_law_399 : decode cL_law 399 = .ok (.iaload, 1) := by decide +kernel
theorem dL_law_400 : decode cL_law 400 = .ok (.aload_n 0, 1) := by decide +kernel
theorem dL_law_401 : decode cL_law 401 = .ok (.iload 4, 2) := by decide +kernel
theorem dL_law_403 : decode cL_law 403 = .ok (.iconst 2, 1) := by decide +kernel
theorem dL_law_404 : decode cL_law 404 = .ok (.iadd, 1) := by decide +kernel
theorem dL_law_405 : decode cL_law 405 = .ok (.iaload, 1) := by decide +kernel
theorem dL_law_406 : decode cL_law 406 = .ok (.invokevirtual 126, 3) := by decide +kernel
theorem dL_law_409 : decode cL_law 409 = .ok (.istore 6, 2) := by decide +kernel
theorem dL_law_411 : decode cL_law 411 = .ok (.aload_n 2, 1) := by decide +kernel
theorem dL_law_412 : decode cL_law 412 = .ok (.invokevirtual 104, 3) := by decide +kernel
theorem dL_law_415 : decode cL_law 415 = .ok (.iload 5, 2) := by decide +kernel
theorem dL_law_417 : decode cL_law 417 = .ok (.if_icmp .eq 5, 3) := by decide +kernel
theorem dL_law_420 : decode cL_law 420 = .ok (.iconst 0, 1) := by decide +kernel
theorem dL_law_421 : decode cL_law 421 = .ok (.ireturn, 1) := by decide +kernel
theorem dL_law_422 : decode cL_law 422 = .ok (.iload 5, 2) := by decide +kernel
theorem dL_law_424 : decode cL_law 424 = .ok (.ifCond .ne 15, 3) := by decide +kernel
theorem dL_law_427 : decode cL_law 427 = .ok (.aload_n 3, 1) := by decide +kernel
theorem dL_law_428 : decode cL_law 428 = .ok (.iconst 0, 1) := by decide +kernel
theorem dL_law_429 : decode cL_law 429 = .ok (.laload, 1) := by decide +kernel
theorem dL_law_430 : decode cL_law 430 = .ok (.iload 6, 2) := by decide +kernel
theorem dL_law_432 : decode cL_law 432 = .ok (.i2l, 1) := by decide +kernel
theorem dL_law_433 : decode cL_law 433 = .ok (.lcmp, 1) := by decide +kernel
theorem dL_law_434 : decode cL_law 434 = .ok (.ifCond .eq 5, 3) := by decide +kernel
theorem dL_law_437 : decode cL_law 437 = .ok (.iconst 0, 1) := by decide +kernel
theorem dL_law_438 : decode cL_law 438 = .ok (.ireturn, 1) := by decide +kernel
theorem dL_law_439 : decode cL_law 439 = .ok (.goto 1337, 3) := by decide +kernel
theorem dL_law_442 : decode cL_law 442 = .ok (.aload_n 1, 1) := by decide +kernel
theorem dL_law_443 : decode cL_law 443 = .ok (.aload_n 0, 1) := by decide +kernel
theorem dL_law_444 : decode cL_law 444 = .ok (.iload 4, 2) := by decide +kernel
theorem dL_law_446 : decode cL_law 446 = .ok (.iconst 1, 1) := by decide +kernel
theorem dL_law_447 : decode cL_law 447 = .ok (.iadd, 1) := by decide +kernel
theorem dL_law_448 : decode cL_law 448 = .ok (.iaload, 1) := by decide +kernel
theorem dL_law_449 : decode cL_law 449 = .ok (.aload_n 0, 1) := by decide +kernel
theorem dL_law_450 : decode cL_law 450 = .ok (.iload 4, 2) := by decide +kernel
theorem dL_law_452 : decode cL_law 452 = .ok (.iconst 2, 1) := by decide +kernel
theorem dL_law_453 : decode cL_law 453 = .ok (.iadd, 1) := by decide +kernel
theorem dL_law_454 : decode cL_law 454 = .ok (.iaload, 1) := by decide +kernel
theorem dL_law_455 : decode cL_law 455 = .ok (.aload_n 3, 1) := by decide +kernel
theorem dL_law_456 : decode cL_law 456 = .ok (.invokestatic 127, 3) := by decide +kernel
theorem dL_law_459 : decode cL_law 459 = .ok (.istore 5, 2) := by decide +kernel
theorem dL_law_461 : decode cL_law 461 = .ok (.aload_n 2, 1) := by decide +kernel
theorem dL_law_462 : decode cL_law 462 = .ok (.aload_n 0, 1) := by decide +kernel
theorem dL_law_463 : decode cL_law 463 = .ok (.iload 4, 2) := by decide +kernel
theorem dL_law_465 : decode cL_law 465 = .ok (.iconst 1, 1) := by decide +kernel
theorem dL_law_466 : decode cL_law 466 = .ok (.iadd, 1) := by decide +kernel
theorem dL_law_467 : decode cL_law 467 = .ok (.iaload, 1) := by decide +kernel
theorem dL_law_468 : decode cL_law 468 = .ok (.aload_n 0, 1) := by decide +kernel
theorem dL_law_469 : decode cL_law 469 = .ok (.iload 4, 2) := by decide +kernel
theorem dL_law_471 : decode cL_law 471 = .ok (.iconst 2, 1) := by decide +kernel
theorem dL_law_472 : decode cL_law 472 = .ok (.iadd, 1) := by decide +kernel
theorem dL_law_473 : decode cL_law 473 = .ok (.iaload, 1) := by decide +kernel
theorem dL_law_474 : decode cL_law 474 = .ok (.invokevirtual 129, 3) := by decide +kernel
theorem dL_law_477 : decode cL_law 477 = .ok (.istore 6, 2) := by decide +kernel
theorem dL_law_479 : decode cL_law 479 = .ok (.aload_n 2, 1) := by decide +kernel
theorem dL_law_480 : decode cL_law 480 = .ok (.invokevirtual 104, 3) := by decide +kernel
theorem dL_law_483 : decode cL_law 483 = .ok (.iload 5, 2) := by decide +kernel
theorem dL_law_485 : decode cL_law 485 = .ok (.if_icmp .eq 5, 3) := by decide +kernel
theorem dL_law_488 : decode cL_law 488 = .ok (.iconst 0, 1) := by decide +kernel
theorem dL_law_489 : decode cL_law 489 = .ok (.ireturn, 1) := by decide +kernel
theorem dL_law_490 : decode cL_law 490 = .ok (.iload 5, 2) := by decide +kernel
theorem dL_law_492 : decode cL_law 492 = .ok (.ifCond .ne 15, 3) := by decide +kernel
theorem dL_law_495 : decode cL_law 495 = .ok (.aload_n 3, 1) := by decide +kernel
theorem dL_law_496 : decode cL_law 496 = .ok (.iconst 0, 1) := by decide +kernel
theorem dL_law_497 : decode cL_law 497 = .ok (.laload, 1) := by decide +kernel
theorem dL_law_498 : decode cL_law 498 = .ok (.iload 6, 2) := by decide +kernel
theorem dL_law_500 : decode cL_law 500 = .ok (.i2l, 1) := by decide +kernel
theorem dL_law_501 : decode cL_law 501 = .ok (.lcmp, 1) := by decide +kernel
theorem dL_law_502 : decode cL_law 502 = .ok (.ifCond .eq 5, 3) := by decide +kernel
theorem dL_law_505 : decode cL_law 505 = .ok (.iconst 0, 1) := by decide +kernel
theorem dL_law_506 : decode cL_law 506 = .ok (.ireturn, 1) := by decide +kernel
theorem dL_law_507 : decode cL_law 507 = .ok (.goto 1269, 3) := by decide +kernel
theorem dL_law_510 : decode cL_law 510 = .ok (.aload_n 1, 1) := by decide +kernel
theorem dL_law_511 : decode cL_law 511 = .ok (.aload_n 0, 1) := by decide +kernel
theorem dL_law_512 : decode cL_law 512 = .ok (.iload 4, 2) := by decide +kernel
theorem dL_law_514 : decode cL_law 514 = .ok (.iconst 1, 1) := by decide +kernel
theorem dL_law_515 : decode cL_law 515 = .ok (.iadd, 1) := by decide +kernel
theorem dL_law_516 : decode cL_law 516 = .ok (.iaload, 1) := by decide +kernel
theorem dL_law_517 : decode cL_law 517 = .ok (.aload_n 0, 1) := by decide +kernel
theorem dL_law_518 : decode cL_law 518 = .ok (.iload 4, 2) := by decide +kernel
theorem dL_law_520 : decode cL_law 520 = .ok (.iconst 2, 1) := by decide +kernel
theorem dL_law_521 : decode cL_law 521 = .ok (.iadd, 1) := by decide +kernel
theorem dL_law_522 : decode cL_law 522 = .ok (.iaload, 1) := by decide +kernel
theorem dL_law_523 : decode cL_law 523 = .ok (.aload_n 3, 1) := by decide +kernel
theorem dL_law_524 : decode cL_law 524 = .ok (.invokestatic 130, 3) := by decide +kernel
theorem dL_law_527 : decode cL_law 527 = .ok (.istore 5, 2) := by decide +kernel
theorem dL_law_529 : decode cL_law 529 = .ok (.aload_n 2, 1) := by decide +kernel
theorem dL_law_530 : decode cL_law 530 = .ok (.aload_n 0, 1) := by decide +kernel
theorem dL_law_531 : decode cL_law 531 = .ok (.iload 4, 2) := by decide +kernel
theorem dL_law_533 : decode cL_law 533 = .ok (.iconst 1, 1) := by decide +kernel
theorem dL_law_534 : decode cL_law 534 = .ok (.iadd, 1) := by decide +kernel
theorem dL_law_535 : decode cL_law 535 = .ok (.iaload, 1) := by decide +kernel
theorem dL_law_536 : decode cL_law 536 = .ok (.aload_n 0, 1) := by decide +kernel
theorem dL_law_537 : decode cL_law 537 = .ok (.iload 4, 2) := by decide +kernel
theorem dL_law_539 : decode cL_law 539 = .ok (.iconst 2, 1) := by decide +kernel
theorem dL_law_540 : decode cL_law 540 = .ok (.iadd, 1) := by decide +kernel
theorem dL_law_541 : decode cL_law 541 = .ok (.iaload, 1) := by decide +kernel
theorem dL_law_542 : decode cL_law 542 = .ok (.invokevirtual 132, 3) := by decide +kernel
theorem dL_law_545 : decode cL_law 545 = .ok (.istore 6, 2) := by decide +kernel
theorem dL_law_547 : decode cL_law 547 = .ok (.aload_n 2, 1) := by decide +kernel
theorem dL_law_548 : decode cL_law 548 = .ok (.invokevirtual 104, 3) := by decide +kernel
theorem dL_law_551 : decode cL_law 551 = .ok (.iload 5, 2) := by decide +kernel
theorem dL_law_553 : decode cL_law 553 = .ok (.if_icmp .eq 5, 3) := by decide +kernel
theorem dL_law_556 : decode cL_law 556 = .ok (.iconst 0, 1) := by decide +kernel
theorem dL_law_557 : decode cL_law 557 = .ok (.ireturn, 1) := by decide +kernel
theorem dL_law_558 : decode cL_law 558 = .ok (.iload 5, 2) := by decide +kernel
theorem dL_law_560 : decode cL_law 560 = .ok (.ifCond .ne 15, 3) := by decide +kernel
theorem dL_law_563 : decode cL_law 563 = .ok (.aload_n 3, 1) := by decide +kernel
theorem dL_law_564 : decode cL_law 564 = .ok (.iconst 0, 1) := by decide +kernel
theorem dL_law_565 : decode cL_law 565 = .ok (.laload, 1) := by decide +kernel
theorem dL_law_566 : decode cL_law 566 = .ok (.iload 6, 2) := by decide +kernel
theorem dL_law_568 : decode cL_law 568 = .ok (.i2l, 1) := by decide +kernel
theorem dL_law_569 : decode cL_law 569 = .ok (.lcmp, 1) := by decide +kernel
theorem dL_law_570 : decode cL_law 570 = .ok (.ifCond .eq 5, 3) := by decide +kernel
theorem dL_law_573 : decode cL_law 573 = .ok (.iconst 0, 1) := by decide +kernel
theorem dL_law_574 : decode cL_law 574 = .ok (.ireturn, 1) := by decide +kernel
theorem dL_law_575 : decode cL_law 575 = .ok (.goto 1201, 3) := by decide +kernel
theorem dL_law_578 : decode cL_law 578 = .ok (.aload_n 1, 1) := by decide +kernel
theorem dL_law_579 : decode cL_law 579 = .ok (.aload_n 0, 1) := by decide +kernel
theorem dL_law_580 : decode cL_law 580 = .ok (.iload 4, 2) := by decide +kernel
theorem dL_law_582 : decode cL_law 582 = .ok (.iconst 1, 1) := by decide +kernel
theorem dL_law_583 : decode cL_law 583 = .ok (.iadd, 1) := by decide +kernel
theorem dL_law_584 : decode cL_law 584 = .ok (.iaload, 1) := by decide +kernel
theorem dL_law_585 : decode cL_law 585 = .ok (.aload_n 3, 1) := by decide +kernel
theorem dL_law_586 : decode cL_law 586 = .ok (.invokestatic 133, 3) := by decide +kernel
theorem dL_law_589 : decode cL_law 589 = .ok (.istore 5, 2) := by decide +kernel
theorem dL_law_591 : decode cL_law 591 = .ok (.aload_n 2, 1) := by decide +kernel
theorem dL_law_592 : decode cL_law 592 = .ok (.aload_n 0, 1) := by decide +kernel
theorem dL_law_593 : decode cL_law 593 = .ok (.iload 4, 2) := by decide +kernel
theorem dL_law_595 : decode cL_law 595 = .ok (.iconst 1, 1) := by decide +kernel
theorem dL_law_596 : decode cL_law 596 = .ok (.iadd, 1) := by decide +kernel
theorem dL_law_597 : decode cL_law 597 = .ok (.iaload, 1) := by decide +kernel
theorem dL_law_598 : decode cL_law 598 = .ok (.invokevirtual 135, 3) := by decide +kernel
theorem dL_law_601 : decode cL_law 601 = .ok (.istore 6, 2) := by decide +kernel
theorem dL_law_603 : decode cL_law 603 = .ok (.aload_n 2, 1) := by decide +kernel
theorem dL_law_604 : decode cL_law 604 = .ok (.invokevirtual 104, 3) := by decide +kernel
theorem dL_law_607 : decode cL_law 607 = .ok (.iload 5, 2) := by decide +kernel
theorem dL_law_609 : decode cL_law 609 = .ok (.if_icmp .eq 5, 3) := by decide +kernel
theorem dL_law_612 : decode cL_law 612 = .ok (.iconst 0, 1) := by decide +kernel
theorem dL_law_613 : decode cL_law 613 = .ok (.ireturn, 1) := by decide +kernel
theorem dL_law_614 : decode cL_law 614 = .ok (.iload 5, 2) := by decide +kernel
theorem dL_law_616 : decode cL_law 616 = .ok (.ifCond .ne 15, 3) := by decide +kernel
theorem dL_law_619 : decode cL_law 619 = .ok (.aload_n 3, 1) := by decide +kernel
theorem dL_law_620 : decode cL_law 620 = .ok (.iconst 0, 1) := by decide +kernel
theorem dL_law_621 : decode cL_law 621 = .ok (.laload, 1) := by decide +kernel
theorem dL_law_622 : decode cL_law 622 = .ok (.iload 6, 2) := by decide +kernel
theorem dL_law_624 : decode cL_law 624 = .ok (.i2l, 1) := by decide +kernel
theorem dL_law_625 : decode cL_law 625 = .ok (.lcmp, 1) := by decide +kernel
theorem dL_law_626 : decode cL_law 626 = .ok (.ifCond .eq 5, 3) := by decide +kernel
theorem dL_law_629 : decode cL_law 629 = .ok (.iconst 0, 1) := by decide +kernel
theorem dL_law_630 : decode cL_law 630 = .ok (.ireturn, 1) := by decide +kernel
theorem dL_law_631 : decode cL_law 631 = .ok (.goto 1145, 3) := by decide +kernel
theorem dL_law_634 : decode cL_law 634 = .ok (.aload_n 1, 1) := by decide +kernel
theorem dL_law_635 : decode cL_law 635 = .ok (.aload_n 3, 1) := by decide +kernel
theorem dL_law_636 : decode cL_law 636 = .ok (.invokestatic 136, 3) := by decide +kernel
theorem dL_law_639 : decode cL_law 639 = .ok (.istore 5, 2) := by decide +kernel
theorem dL_law_641 : decode cL_law 641 = .ok (.aload_n 2, 1) := by decide +kernel
theorem dL_law_642 : decode cL_law 642 = .ok (.invokevirtual 138, 3) := by decide +kernel
theorem dL_law_645 : decode cL_law 645 = .ok (.istore 6, 2) := by decide +kernel
theorem dL_law_647 : decode cL_law 647 = .ok (.aload_n 2, 1) := by decide +kernel
theorem dL_law_648 : decode cL_law 648 = .ok (.invokevirtual 104, 3) := by decide +kernel
theorem dL_law_651 : decode cL_law 651 = .ok (.iload 5, 2) := by decide +kernel
theorem dL_law_653 : decode cL_law 653 = .ok (.if_icmp .eq 5, 3) := by decide +kernel
theorem dL_law_656 : decode cL_law 656 = .ok (.iconst 0, 1) := by decide +kernel
theorem dL_law_657 : decode cL_law 657 = .ok (.ireturn, 1) := by decide +kernel
theorem dL_law_658 : decode cL_law 658 = .ok (.iload 5, 2) := by decide +kernel
theorem dL_law_660 : decode cL_law 660 = .ok (.ifCond .ne 15, 3) := by decide +kernel
theorem dL_law_663 : decode cL_law 663 = .ok (.aload_n 3, 1) := by decide +kernel
theorem dL_law_664 : decode cL_law 664 = .ok (.iconst 0, 1) := by decide +kernel
theorem dL_law_665 : decode cL_law 665 = .ok (.laload, 1) := by decide +kernel
theorem dL_law_666 : decode cL_law 666 = .ok (.iload 6, 2) := by decide +kernel
theorem dL_law_668 : decode cL_law 668 = .ok (.i2l, 1) := by decide +kernel
theorem dL_law_669 : decode cL_law 669 = .ok (.lcmp, 1) := by decide +kernel
theorem dL_law_670 : decode cL_law 670 = .ok (.ifCond .eq 5, 3) := by decide +kernel
theorem dL_law_673 : decode cL_law 673 = .ok (.iconst 0, 1) := by decide +kernel
theorem dL_law_674 : decode cL_law 674 = .ok (.ireturn, 1) := by decide +kernel
theorem dL_law_675 : decode cL_law 675 = .ok (.goto 1101, 3) := by decide +kernel
theorem dL_law_678 : decode cL_law 678 = .ok (.aload_n 1, 1) := by decide +kernel
theorem dL_law_679 : decode cL_law 679 = .ok (.aload_n 0, 1) := by decide +kernel
theorem dL_law_680 : decode cL_law 680 = .ok (.iload 4, 2) := by decide +kernel
theorem dL_law_682 : decode cL_law 682 = .ok (.iconst 1, 1) := by decide +kernel
theorem dL_law_683 : decode cL_law 683 = .ok (.iadd, 1) := by decide +kernel
theorem dL_law_684 : decode cL_law 684 = .ok (.iaload, 1) := by decide +kernel
theorem dL_law_685 : decode cL_law 685 = .ok (.aload_n 0, 1) := by decide +kernel
theorem dL_law_686 : decode cL_law 686 = .ok (.iload 4, 2) := by decide +kernel
theorem dL_law_688 : decode cL_law 688 = .ok (.iconst 2, 1) := by decide +kernel
theorem dL_law_689 : decode cL_law 689 = .ok (.iadd, 1) := by decide +kernel
theorem dL_law_690 : decode cL_law 690 = .ok (.iaload, 1) := by decide +kernel
theorem dL_law_691 : decode cL_law 691 = .ok (.aload_n 0, 1) := by decide +kernel
theorem dL_law_692 : decode cL_law 692 = .ok (.iload 4, 2) := by decide +kernel
theorem dL_law_694 : decode cL_law 694 = .ok (.iconst 3, 1) := by decide +kernel
theorem dL_law_695 : decode cL_law 695 = .ok (.iadd, 1) := by decide +kernel
theorem dL_law_696 : decode cL_law 696 = .ok (.iaload, 1) := by decide +kernel
theorem dL_law_697 : decode cL_law 697 = .ok (.aload_n 3, 1) := by decide +kernel
theorem dL_law_698 : decode cL_law 698 = .ok (.invokestatic 139, 3) := by decide +kernel
theorem dL_law_701 : decode cL_law 701 = .ok (.istore 5, 2) := by decide +kernel
theorem dL_law_703 : decode cL_law 703 = .ok (.aload_n 2, 1) := by decide +kernel
theorem dL_law_704 : decode cL_law 704 = .ok (.aload_n 0, 1) := by decide +kernel
theorem dL_law_705 : decode cL_law 705 = .ok (.iload 4, 2) := by decide +kernel
theorem dL_law_707 : decode cL_law 707 = .ok (.iconst 1, 1) := by decide +kernel
theorem dL_law_708 : decode cL_law 708 = .ok (.iadd, 1) := by decide +kernel
theorem dL_law_709 : decode cL_law 709 = .ok (.iaload, 1) := by decide +kernel
theorem dL_law_710 : decode cL_law 710 = .ok (.aload_n 0, 1) := by decide +kernel
theorem dL_law_711 : decode cL_law 711 = .ok (.iload 4, 2) := by decide +kernel
theorem dL_law_713 : decode cL_law 713 = .ok (.iconst 2, 1) := by decide +kernel
theorem dL_law_714 : decode cL_law 714 = .ok (.iadd, 1) := by decide +kernel
theorem dL_law_715 : decode cL_law 715 = .ok (.iaload, 1) := by decide +kernel
theorem dL_law_716 : decode cL_law 716 = .ok (.aload_n 0, 1) := by decide +kernel
theorem dL_law_717 : decode cL_law 717 = .ok (.iload 4, 2) := by decide +kernel
theorem dL_law_719 : decode cL_law 719 = .ok (.iconst 3, 1) := by decide +kernel
theorem dL_law_720 : decode cL_law 720 = .ok (.iadd, 1) := by decide +kernel
theorem dL_law_721 : decode cL_law 721 = .ok (.iaload, 1) := by decide +kernel
theorem dL_law_722 : decode cL_law 722 = .ok (.invokevirtual 142, 3) := by decide +kernel
theorem dL_law_725 : decode cL_law 725 = .ok (.istore 6, 2) := by decide +kernel
theorem dL_law_727 : decode cL_law 727 = .ok (.aload_n 2, 1) := by decide +kernel
theorem dL_law_728 : decode cL_law 728 = .ok (.invokevirtual 104, 3) := by decide +kernel
theorem dL_law_731 : decode cL_law 731 = .ok (.iload 5, 2) := by decide +kernel
theorem dL_law_733 : decode cL_law 733 = .ok (.if_icmp .eq 5, 3) := by decide +kernel
theorem dL_law_736 : decode cL_law 736 = .ok (.iconst 0, 1) := by decide +kernel
theorem dL_law_737 : decode cL_law 737 = .ok (.ireturn, 1) := by decide +kernel
theorem dL_law_738 : decode cL_law 738 = .ok (.iload 5, 2) := by decide +kernel
theorem dL_law_740 : decode cL_law 740 = .ok (.ifCond .ne 15, 3) := by decide +kernel
theorem dL_law_743 : decode cL_law 743 = .ok (.aload_n 3, 1) := by decide +kernel
theorem dL_law_744 : decode cL_law 744 = .ok (.iconst 0, 1) := by decide +kernel
theorem dL_law_745 : decode cL_law 745 = .ok (.laload, 1) := by decide +kernel
theorem dL_law_746 : decode cL_law 746 = .ok (.iload 6, 2) := by decide +kernel
theorem dL_law_748 : decode cL_law 748 = .ok (.i2l, 1) := by decide +kernel
theorem dL_law_749 : decode cL_law 749 = .ok (.lcmp, 1) := by decide +kernel
theorem dL_law_750 : decode cL_law 750 = .ok (.ifCond .eq 5, 3) := by decide +kernel
theorem dL_law_753 : decode cL_law 753 = .ok (.iconst 0, 1) := by decide +kernel
theorem dL_law_754 : decode cL_law 754 = .ok (.ireturn, 1) := by decide +kernel
theorem dL_law_755 : decode cL_law 755 = .ok (.goto 1021, 3) := by decide +kernel
theorem dL_law_758 : decode cL_law 758 = .ok (.aload_n 1, 1) := by decide +kernel
theorem dL_law_759 : decode cL_law 759 = .ok (.aload_n 0, 1) := by decide +kernel
theorem dL_law_760 : decode cL_law 760 = .ok (.iload 4, 2) := by decide +kernel
theorem dL_law_762 : decode cL_law 762 = .ok (.iconst 1, 1) := by decide +kernel
theorem dL_law_763 : decode cL_law 763 = .ok (.iadd, 1) := by decide +kernel
theorem dL_law_764 : decode cL_law 764 = .ok (.iaload, 1) := by decide +kernel
theorem dL_law_765 : decode cL_law 765 = .ok (.aload_n 3, 1) := by decide +kernel
theorem dL_law_766 : decode cL_law 766 = .ok (.invokestatic 143, 3) := by decide +kernel
theorem dL_law_769 : decode cL_law 769 = .ok (.istore 5, 2) := by decide +kernel
theorem dL_law_771 : decode cL_law 771 = .ok (.aload_n 2, 1) := by decide +kernel
theorem dL_law_772 : decode cL_law 772 = .ok (.aload_n 0, 1) := by decide +kernel
theorem dL_law_773 : decode cL_law 773 = .ok (.iload 4, 2) := by decide +kernel
theorem dL_law_775 : decode cL_law 775 = .ok (.iconst 1, 1) := by decide +kernel
theorem dL_law_776 : decode cL_law 776 = .ok (.iadd, 1) := by decide +kernel
theorem dL_law_777 : decode cL_law 777 = .ok (.iaload, 1) := by decide +kernel
theorem dL_law_778 : decode cL_law 778 = .ok (.invokevirtual 145, 3) := by decide +kernel
theorem dL_law_781 : decode cL_law 781 = .ok (.istore 6, 2) := by decide +kernel
theorem dL_law_783 : decode cL_law 783 = .ok (.aload_n 2, 1) := by decide +kernel
theorem dL_law_784 : decode cL_law 784 = .ok (.invokevirtual 104, 3) := by decide +kernel
theorem dL_law_787 : decode cL_law 787 = .ok (.iload 5, 2) := by decide +kernel
theorem dL_law_789 : decode cL_law 789 = .ok (.if_icmp .eq 5, 3) := by decide +kernel
theorem dL_law_792 : decode cL_law 792 = .ok (.iconst 0, 1) := by decide +kernel
theorem dL_law_793 : decode cL_law 793 = .ok (.ireturn, 1) := by decide +kernel
theorem dL_law_794 : decode cL_law 794 = .ok (.iload 5, 2) := by decide +kernel
theorem dL_law_796 : decode cL_law 796 = .ok (.ifCond .ne 15, 3) := by decide +kernel
theorem dL_law_799 : decode cL_law 799 = .ok (.aload_n 3, 1) := by decide +kernel
theorem dL_law_800 : decode cL_law 800 = .ok (.iconst 0, 1) := by decide +kernel
theorem dL_law_801 : decode cL_law 801 = .ok (.laload, 1) := by decide +kernel
theorem dL_law_802 : decode cL_law 802 = .ok (.iload 6, 2) := by decide +kernel
theorem dL_law_804 : decode cL_law 804 = .ok (.i2l, 1) := by decide +kernel
theorem dL_law_805 : decode cL_law 805 = .ok (.lcmp, 1) := by decide +kernel
theorem dL_law_806 : decode cL_law 806 = .ok (.ifCond .eq 5, 3) := by decide +kernel
theorem dL_law_809 : decode cL_law 809 = .ok (.iconst 0, 1) := by decide +kernel
theorem dL_law_810 : decode cL_law 810 = .ok (.ireturn, 1) := by decide +kernel
theorem dL_law_811 : decode cL_law 811 = .ok (.goto 965, 3) := by decide +kernel
theorem dL_law_814 : decode cL_law 814 = .ok (.aload_n 1, 1) := by decide +kernel
theorem dL_law_815 : decode cL_law 815 = .ok (.aload_n 0, 1) := by decide +kernel
theorem dL_law_816 : decode cL_law 816 = .ok (.iload 4, 2) := by decide +kernel
theorem dL_law_818 : decode cL_law 818 = .ok (.iconst 1, 1) := by decide +kernel
theorem dL_law_819 : decode cL_law 819 = .ok (.iadd, 1) := by decide +kernel
theorem dL_law_820 : decode cL_law 820 = .ok (.iaload, 1) := by decide +kernel
theorem dL_law_821 : decode cL_law 821 = .ok (.aload_n 0, 1) := by decide +kernel
theorem dL_law_822 : decode cL_law 822 = .ok (.iload 4, 2) := by decide +kernel
theorem dL_law_824 : decode cL_law 824 = .ok (.iconst 2, 1) := by decide +kernel
theorem dL_law_825 : decode cL_law 825 = .ok (.iadd, 1) := by decide +kernel
theorem dL_law_826 : decode cL_law 826 = .ok (.iaload, 1) := by decide +kernel
theorem dL_law_827 : decode cL_law 827 = .ok (.aload_n 3, 1) := by decide +kernel
theorem dL_law_828 : decode cL_law 828 = .ok (.invokestatic 146, 3) := by decide +kernel
theorem dL_law_831 : decode cL_law 831 = .ok (.istore 5, 2) := by decide +kernel
theorem dL_law_833 : decode cL_law 833 = .ok (.aload_n 2, 1) := by decide +kernel
theorem dL_law_834 : decode cL_law 834 = .ok (.aload_n 0, 1) := by decide +kernel
theorem dL_law_835 : decode cL_law 835 = .ok (.iload 4, 2) := by decide +kernel
theorem dL_law_837 : decode cL_law 837 = .ok (.iconst 1, 1) := by decide +kernel
theorem dL_law_838 : decode cL_law 838 = .ok (.iadd, 1) := by decide +kernel
theorem dL_law_839 : decode cL_law 839 = .ok (.iaload, 1) := by decide +kernel
theorem dL_law_840 : decode cL_law 840 = .ok (.aload_n 0, 1) := by decide +kernel
theorem dL_law_841 : decode cL_law 841 = .ok (.iload 4, 2) := by decide +kernel
theorem dL_law_843 : decode cL_law 843 = .ok (.iconst 2, 1) := by decide +kernel
theorem dL_law_844 : decode cL_law 844 = .ok (.iadd, 1) := by decide +kernel
theorem dL_law_845 : decode cL_law 845 = .ok (.iaload, 1) := by decide +kernel
theorem dL_law_846 : decode cL_law 846 = .ok (.invokevirtual 148, 3) := by decide +kernel
theorem dL_law_849 : decode cL_law 849 = .ok (.istore 6, 2) := by decide +kernel
theorem dL_law_851 : decode cL_law 851 = .ok (.aload_n 2, 1) := by decide +kernel
theorem dL_law_852 : decode cL_law 852 = .ok (.invokevirtual 104, 3) := by decide +kernel
theorem dL_law_855 : decode cL_law 855 = .ok (.iload 5, 2) := by decide +kernel
theorem dL_law_857 : decode cL_law 857 = .ok (.if_icmp .eq 5, 3) := by decide +kernel
theorem dL_law_860 : decode cL_law 860 = .ok (.iconst 0, 1) := by decide +kernel
theorem dL_law_861 : decode cL_law 861 = .ok (.ireturn, 1) := by decide +kernel
theorem dL_law_862 : decode cL_law 862 = .ok (.iload 5, 2) := by decide +kernel
theorem dL_law_864 : decode cL_law 864 = .ok (.ifCond .ne 15, 3) := by decide +kernel
theorem dL_law_867 : decode cL_law 867 = .ok (.aload_n 3, 1) := by decide +kernel
theorem dL_law_868 : decode cL_law 868 = .ok (.iconst 0, 1) := by decide +kernel
theorem dL_law_869 : decode cL_law 869 = .ok (.laload, 1) := by decide +kernel
theorem dL_law_870 : decode cL_law 870 = .ok (.iload 6, 2) := by decide +kernel
theorem dL_law_872 : decode cL_law 872 = .ok (.i2l, 1) := by decide +kernel
theorem dL_law_873 : decode cL_law 873 = .ok (.lcmp, 1) := by decide +kernel
theorem dL_law_874 : decode cL_law 874 = .ok (.ifCond .eq 5, 3) := by decide +kernel
theorem dL_law_877 : decode cL_law 877 = .ok (.iconst 0, 1) := by decide +kernel
theorem dL_law_878 : decode cL_law 878 = .ok (.ireturn, 1) := by decide +kernel
theorem dL_law_879 : decode cL_law 879 = .ok (.goto 897, 3) := by decide +kernel
theorem dL_law_882 : decode cL_law 882 = .ok (.aload_n 1, 1) := by decide +kernel
theorem dL_law_883 : decode cL_law 883 = .ok (.aload_n 0, 1) := by decide +kernel
theorem dL_law_884 : decode cL_law 884 = .ok (.iload 4, 2) := by decide +kernel
theorem dL_law_886 : decode cL_law 886 = .ok (.iconst 1, 1) := by decide +kernel
theorem dL_law_887 : decode cL_law 887 = .ok (.iadd, 1) := by decide +kernel
theorem dL_law_888 : decode cL_law 888 = .ok (.iaload, 1) := by decide +kernel
theorem dL_law_889 : decode cL_law 889 = .ok (.aload_n 0, 1) := by decide +kernel
theorem dL_law_890 : decode cL_law 890 = .ok (.iload 4, 2) := by decide +kernel
theorem dL_law_892 : decode cL_law 892 = .ok (.iconst 2, 1) := by decide +kernel
theorem dL_law_893 : decode cL_law 893 = .ok (.iadd, 1) := by decide +kernel
theorem dL_law_894 : decode cL_law 894 = .ok (.iaload, 1) := by decide +kernel
theorem dL_law_895 : decode cL_law 895 = .ok (.ifCond .eq 7, 3) := by decide +kernel
theorem dL_law_898 : decode cL_law 898 = .ok (.iconst 1, 1) := by decide +kernel
theorem dL_law_899 : decode cL_law 899 = .ok (.goto 4, 3) := by decide +kernel
theorem dL_law_902 : decode cL_law 902 = .ok (.iconst 0, 1) := by decide +kernel
theorem dL_law_903 : decode cL_law 903 = .ok (.aload_n 3, 1) := by decide +kernel
theorem dL_law_904 : decode cL_law 904 = .ok (.invokestatic 149, 3) := by decide +kernel
theorem dL_law_907 : decode cL_law 907 = .ok (.istore 5, 2) := by decide +kernel
theorem dL_law_909 : decode cL_law 909 = .ok (.aload_n 2, 1) := by decide +kernel
theorem dL_law_910 : decode cL_law 910 = .ok (.aload_n 0, 1) := by decide +kernel
theorem dL_law_911 : decode cL_law 911 = .ok (.iload 4, 2) := by decide +kernel
theorem dL_law_913 : decode cL_law 913 = .ok (.iconst 1, 1) := by decide +kernel
theorem dL_law_914 : decode cL_law 914 = .ok (.iadd, 1) := by decide +kernel
theorem dL_law_915 : decode cL_law 915 = .ok (.iaload, 1) := by decide +kernel
theorem dL_law_916 : decode cL_law 916 = .ok (.aload_n 0, 1) := by decide +kernel
theorem dL_law_917 : decode cL_law 917 = .ok (.iload 4, 2) := by decide +kernel
theorem dL_law_919 : decode cL_law 919 = .ok (.iconst 2, 1) := by decide +kernel
theorem dL_law_920 : decode cL_law 920 = .ok (.iadd, 1) := by decide +kernel
theorem dL_law_921 : decode cL_law 921 = .ok (.iaload, 1) := by decide +kernel
theorem dL_law_922 : decode cL_law 922 = .ok (.ifCond .eq 7, 3) := by decide +kernel
theorem dL_law_925 : decode cL_law 925 = .ok (.iconst 1, 1) := by decide +kernel
theorem dL_law_926 : decode cL_law 926 = .ok (.goto 4, 3) := by decide +kernel
theorem dL_law_929 : decode cL_law 929 = .ok (.iconst 0, 1) := by decide +kernel
theorem dL_law_930 : decode cL_law 930 = .ok (.invokevirtual 152, 3) := by decide +kernel
theorem dL_law_933 : decode cL_law 933 = .ok (.istore 6, 2) := by decide +kernel
theorem dL_law_935 : decode cL_law 935 = .ok (.aload_n 2, 1) := by decide +kernel
theorem dL_law_936 : decode cL_law 936 = .ok (.invokevirtual 104, 3) := by decide +kernel
theorem dL_law_939 : decode cL_law 939 = .ok (.iload 5, 2) := by decide +kernel
theorem dL_law_941 : decode cL_law 941 = .ok (.if_icmp .eq 5, 3) := by decide +kernel
theorem dL_law_944 : decode cL_law 944 = .ok (.iconst 0, 1) := by decide +kernel
theorem dL_law_945 : decode cL_law 945 = .ok (.ireturn, 1) := by decide +kernel
theorem dL_law_946 : decode cL_law 946 = .ok (.iload 5, 2) := by decide +kernel
theorem dL_law_948 : decode cL_law 948 = .ok (.ifCond .ne 15, 3) := by decide +kernel
theorem dL_law_951 : decode cL_law 951 = .ok (.aload_n 3, 1) := by decide +kernel
theorem dL_law_952 : decode cL_law 952 = .ok (.iconst 0, 1) := by decide +kernel
theorem dL_law_953 : decode cL_law 953 = .ok (.laload, 1) := by decide +kernel
theorem dL_law_954 : decode cL_law 954 = .ok (.iload 6, 2) := by decide +kernel
theorem dL_law_956 : decode cL_law 956 = .ok (.i2l, 1) := by decide +kernel
theorem dL_law_957 : decode cL_law 957 = .ok (.lcmp, 1) := by decide +kernel
theorem dL_law_958 : decode cL_law 958 = .ok (.ifCond .eq 5, 3) := by decide +kernel
theorem dL_law_961 : decode cL_law 961 = .ok (.iconst 0, 1) := by decide +kernel
theorem dL_law_962 : decode cL_law 962 = .ok (.ireturn, 1) := by decide +kernel
theorem dL_law_963 : decode cL_law 963 = .ok (.goto 813, 3) := by decide +kernel
theorem dL_law_966 : decode cL_law 966 = .ok (.aload_n 1, 1) := by decide +kernel
theorem dL_law_967 : decode cL_law 967 = .ok (.aload_n 0, 1) := by decide +kernel
theorem dL_law_968 : decode cL_law 968 = .ok (.iload 4, 2) := by decide +kernel
theorem dL_law_970 : decode cL_law 970 = .ok (.iconst 1, 1) := by decide +kernel
theorem dL_law_971 : decode cL_law 971 = .ok (.iadd, 1) := by decide +kernel
theorem dL_law_972 : decode cL_law 972 = .ok (.iaload, 1) := by decide +kernel
theorem dL_law_973 : decode cL_law 973 = .ok (.aload_n 0, 1) := by decide +kernel
theorem dL_law_974 : decode cL_law 974 = .ok (.iload 4, 2) := by decide +kernel
theorem dL_law_976 : decode cL_law 976 = .ok (.iconst 2, 1) := by decide +kernel
theorem dL_law_977 : decode cL_law 977 = .ok (.iadd, 1) := by decide +kernel
theorem dL_law_978 : decode cL_law 978 = .ok (.iaload, 1) := by decide +kernel
theorem dL_law_979 : decode cL_law 979 = .ok (.aload_n 3, 1) := by decide +kernel
theorem dL_law_980 : decode cL_law 980 = .ok (.invokestatic 153, 3) := by decide +kernel
theorem dL_law_983 : decode cL_law 983 = .ok (.istore 5, 2) := by decide +kernel
theorem dL_law_985 : decode cL_law 985 = .ok (.aload_n 2, 1) := by decide +kernel
theorem dL_law_986 : decode cL_law 986 = .ok (.aload_n 0, 1) := by decide +kernel
theorem dL_law_987 : decode cL_law 987 = .ok (.iload 4, 2) := by decide +kernel
theorem dL_law_989 : decode cL_law 989 = .ok (.iconst 1, 1) := by decide +kernel
theorem dL_law_990 : decode cL_law 990 = .ok (.iadd, 1) := by decide +kernel
theorem dL_law_991 : decode cL_law 991 = .ok (.iaload, 1) := by decide +kernel
theorem dL_law_992 : decode cL_law 992 = .ok (.aload_n 0, 1) := by decide +kernel
theorem dL_law_993 : decode cL_law 993 = .ok (.iload 4, 2) := by decide +kernel
theorem dL_law_995 : decode cL_law 995 = .ok (.iconst 2, 1) := by decide +kernel
theorem dL_law_996 : decode cL_law 996 = .ok (.iadd, 1) := by decide +kernel
theorem dL_law_997 : decode cL_law 997 = .ok (.iaload, 1) := by decide +kernel
theorem dL_law_998 : decode cL_law 998 = .ok (.invokevirtual 155, 3) := by decide +kernel
theorem dL_law_1001 : decode cL_law 1001 = .ok (.istore 6, 2) := by decide +kernel
theorem dL_law_1003 : decode cL_law 1003 = .ok (.aload_n 2, 1) := by decide +kernel
theorem dL_law_1004 : decode cL_law 1004 = .ok (.invokevirtual 104, 3) := by decide +kernel
theorem dL_law_1007 : decode cL_law 1007 = .ok (.iload 5, 2) := by decide +kernel
theorem dL_law_1009 : decode cL_law 1009 = .ok (.if_icmp .eq 5, 3) := by decide +kernel
theorem dL_law_1012 : decode cL_law 1012 = .ok (.iconst 0, 1) := by decide +kernel
theorem dL_law_1013 : decode cL_law 1013 = .ok (.ireturn, 1) := by decide +kernel
theorem dL_law_1014 : decode cL_law 1014 = .ok (.iload 5, 2) := by decide +kernel
theorem dL_law_1016 : decode cL_law 1016 = .ok (.ifCond .ne 15, 3) := by decide +kernel
theorem dL_law_1019 : decode cL_law 1019 = .ok (.aload_n 3, 1) := by decide +kernel
theorem dL_law_1020 : decode cL_law 1020 = .ok (.iconst 0, 1) := by decide +kernel
theorem dL_law_1021 : decode cL_law 1021 = .ok (.laload, 1) := by decide +kernel
theorem dL_law_1022 : decode cL_law 1022 = .ok (.iload 6, 2) := by decide +kernel
theorem dL_law_1024 : decode cL_law 1024 = .ok (.i2l, 1) := by decide +kernel
theorem dL_law_1025 : decode cL_law 1025 = .ok (.lcmp, 1) := by decide +kernel
theorem dL_law_1026 : decode cL_law 1026 = .ok (.ifCond .eq 5, 3) := by decide +kernel
theorem dL_law_1029 : decode cL_law 1029 = .ok (.iconst 0, 1) := by decide +kernel
theorem dL_law_1030 : decode cL_law 1030 = .ok (.ireturn, 1) := by decide +kernel
theorem dL_law_1031 : decode cL_law 1031 = .ok (.goto 745, 3) := by decide +kernel
theorem dL_law_1034 : decode cL_law 1034 = .ok (.aload_n 1, 1) := by decide +kernel
theorem dL_law_1035 : decode cL_law 1035 = .ok (.aload_n 3, 1) := by decide +kernel
theorem dL_law_1036 : decode cL_law 1036 = .ok (.invokestatic 156, 3) := by decide +kernel
theorem dL_law_1039 : decode cL_law 1039 = .ok (.istore 5, 2) := by decide +kernel
theorem dL_law_1041 : decode cL_law 1041 = .ok (.aload_n 2, 1) := by decide +kernel
theorem dL_law_1042 : decode cL_law 1042 = .ok (.invokevirtual 158, 3) := by decide +kernel
theorem dL_law_1045 : decode cL_law 1045 = .ok (.istore 6, 2) := by decide +kernel
theorem dL_law_1047 : decode cL_law 1047 = .ok (.aload_n 2, 1) := by decide +kernel
theorem dL_law_1048 : decode cL_law 1048 = .ok (.invokevirtual 104, 3) := by decide +kernel
theorem dL_law_1051 : decode cL_law 1051 = .ok (.iload 5, 2) := by decide +kernel
theorem dL_law_1053 : decode cL_law 1053 = .ok (.if_icmp .eq 5, 3) := by decide +kernel
theorem dL_law_1056 : decode cL_law 1056 = .ok (.iconst 0, 1) := by decide +kernel
theorem dL_law_1057 : decode cL_law 1057 = .ok (.ireturn, 1) := by decide +kernel
theorem dL_law_1058 : decode cL_law 1058 = .ok (.iload 5, 2) := by decide +kernel
theorem dL_law_1060 : decode cL_law 1060 = .ok (.ifCond .ne 15, 3) := by decide +kernel
theorem dL_law_1063 : decode cL_law 1063 = .ok (.aload_n 3, 1) := by decide +kernel
theorem dL_law_1064 : decode cL_law 1064 = .ok (.iconst 0, 1) := by decide +kernel
theorem dL_law_1065 : decode cL_law 1065 = .ok (.laload, 1) := by decide +kernel
theorem dL_law_1066 : decode cL_law 1066 = .ok (.iload 6, 2) := by decide +kernel
theorem dL_law_1068 : decode cL_law 1068 = .ok (.i2l, 1) := by decide +kernel
theorem dL_law_1069 : decode cL_law 1069 = .ok (.lcmp, 1) := by decide +kernel
theorem dL_law_1070 : decode cL_law 1070 = .ok (.ifCond .eq 5, 3) := by decide +kernel
theorem dL_law_1073 : decode cL_law 1073 = .ok (.iconst 0, 1) := by decide +kernel
theorem dL_law_1074 : decode cL_law 1074 = .ok (.ireturn, 1) := by decide +kernel
theorem dL_law_1075 : decode cL_law 1075 = .ok (.goto 701, 3) := by decide +kernel
theorem dL_law_1078 : decode cL_law 1078 = .ok (.aload_n 1, 1) := by decide +kernel
theorem dL_law_1079 : decode cL_law 1079 = .ok (.aload_n 3, 1) := by decide +kernel
theorem dL_law_1080 : decode cL_law 1080 = .ok (.invokestatic 159, 3) := by decide +kernel
theorem dL_law_1083 : decode cL_law 1083 = .ok (.istore 5, 2) := by decide +kernel
theorem dL_law_1085 : decode cL_law 1085 = .ok (.aload_n 2, 1) := by decide +kernel
theorem dL_law_1086 : decode cL_law 1086 = .ok (.invokevirtual 161, 3) := by decide +kernel
theorem dL_law_1089 : decode cL_law 1089 = .ok (.istore 6, 2) := by decide +kernel
theorem dL_law_1091 : decode cL_law 1091 = .ok (.aload_n 2, 1) := by decide +kernel
theorem dL_law_1092 : decode cL_law 1092 = .ok (.invokevirtual 104, 3) := by decide +kernel
theorem dL_law_1095 : decode cL_law 1095 = .ok (.iload 5, 2) := by decide +kernel
theorem dL_law_1097 : decode cL_law 1097 = .ok (.if_icmp .eq 5, 3) := by decide +kernel
theorem dL_law_1100 : decode cL_law 1100 = .ok (.iconst 0, 1) := by decide +kernel
theorem dL_law_1101 : decode cL_law 1101 = .ok (.ireturn, 1) := by decide +kernel
theorem dL_law_1102 : decode cL_law 1102 = .ok (.iload 5, 2) := by decide +kernel
theorem dL_law_1104 : decode cL_law 1104 = .ok (.ifCond .ne 15, 3) := by decide +kernel
theorem dL_law_1107 : decode cL_law 1107 = .ok (.aload_n 3, 1) := by decide +kernel
theorem dL_law_1108 : decode cL_law 1108 = .ok (.iconst 0, 1) := by decide +kernel
theorem dL_law_1109 : decode cL_law 1109 = .ok (.laload, 1) := by decide +kernel
theorem dL_law_1110 : decode cL_law 1110 = .ok (.iload 6, 2) := by decide +kernel
theorem dL_law_1112 : decode cL_law 1112 = .ok (.i2l, 1) := by decide +kernel
theorem dL_law_1113 : decode cL_law 1113 = .ok (.lcmp, 1) := by decide +kernel
theorem dL_law_1114 : decode cL_law 1114 = .ok (.ifCond .eq 5, 3) := by decide +kernel
theorem dL_law_1117 : decode cL_law 1117 = .ok (.iconst 0, 1) := by decide +kernel
theorem dL_law_1118 : decode cL_law 1118 = .ok (.ireturn, 1) := by decide +kernel
theorem dL_law_1119 : decode cL_law 1119 = .ok (.goto 657, 3) := by decide +kernel
theorem dL_law_1122 : decode cL_law 1122 = .ok (.aload_n 1, 1) := by decide +kernel
theorem dL_law_1123 : decode cL_law 1123 = .ok (.aload_n 0, 1) := by decide +kernel
theorem dL_law_1124 : decode cL_law 1124 = .ok (.iload 4, 2) := by decide +kernel
theorem dL_law_1126 : decode cL_law 1126 = .ok (.iconst 1, 1) := by decide +kernel
theorem dL_law_1127 : decode cL_law 1127 = .ok (.iadd, 1) := by decide +kernel
theorem dL_law_1128 : decode cL_law 1128 = .ok (.iaload, 1) := by decide +kernel
theorem dL_law_1129 : decode cL_law 1129 = .ok (.aload_n 3, 1) := by decide +kernel
theorem dL_law_1130 : decode cL_law 1130 = .ok (.invokestatic 162, 3) := by decide +kernel
theorem dL_law_1133 : decode cL_law 1133 = .ok (.istore 5, 2) := by decide +kernel
theorem dL_law_1135 : decode cL_law 1135 = .ok (.aload_n 2, 1) := by decide +kernel
theorem dL_law_1136 : decode cL_law 1136 = .ok (.aload_n 0, 1) := by decide +kernel
theorem dL_law_1137 : decode cL_law 1137 = .ok (.iload 4, 2) := by decide +kernel
theorem dL_law_1139 : decode cL_law 1139 = .ok (.iconst 1, 1) := by decide +kernel
theorem dL_law_1140 : decode cL_law 1140 = .ok (.iadd, 1) := by decide +kernel
theorem dL_law_1141 : decode cL_law 1141 = .ok (.iaload, 1) := by decide +kernel
theorem dL_law_1142 : decode cL_law 1142 = .ok (.invokevirtual 164, 3) := by decide +kernel
theorem dL_law_1145 : decode cL_law 1145 = .ok (.istore 6, 2) := by decide +kernel
theorem dL_law_1147 : decode cL_law 1147 = .ok (.aload_n 2, 1) := by decide +kernel
theorem dL_law_1148 : decode cL_law 1148 = .ok (.invokevirtual 104, 3) := by decide +kernel
theorem dL_law_1151 : decode cL_law 1151 = .ok (.iload 5, 2) := by decide +kernel
theorem dL_law_1153 : decode cL_law 1153 = .ok (.if_icmp .eq 5, 3) := by decide +kernel
theorem dL_law_1156 : decode cL_law 1156 = .ok (.iconst 0, 1) := by decide +kernel
theorem dL_law_1157 : decode cL_law 1157 = .ok (.ireturn, 1) := by decide +kernel
theorem dL_law_1158 : decode cL_law 1158 = .ok (.iload 5, 2) := by decide +kernel
theorem dL_law_1160 : decode cL_law 1160 = .ok (.ifCond .ne 15, 3) := by decide +kernel
theorem dL_law_1163 : decode cL_law 1163 = .ok (.aload_n 3, 1) := by decide +kernel
theorem dL_law_1164 : decode cL_law 1164 = .ok (.iconst 0, 1) := by decide +kernel
theorem dL_law_1165 : decode cL_law 1165 = .ok (.laload, 1) := by decide +kernel
theorem dL_law_1166 : decode cL_law 1166 = .ok (.iload 6, 2) := by decide +kernel
theorem dL_law_1168 : decode cL_law 1168 = .ok (.i2l, 1) := by decide +kernel
theorem dL_law_1169 : decode cL_law 1169 = .ok (.lcmp, 1) := by decide +kernel
theorem dL_law_1170 : decode cL_law 1170 = .ok (.ifCond .eq 5, 3) := by decide +kernel
theorem dL_law_1173 : decode cL_law 1173 = .ok (.iconst 0, 1) := by decide +kernel
theorem dL_law_1174 : decode cL_law 1174 = .ok (.ireturn, 1) := by decide +kernel
theorem dL_law_1175 : decode cL_law 1175 = .ok (.goto 601, 3) := by decide +kernel
theorem dL_law_1178 : decode cL_law 1178 = .ok (.aload_n 1, 1) := by decide +kernel
theorem dL_law_1179 : decode cL_law 1179 = .ok (.aload_n 0, 1) := by decide +kernel
theorem dL_law_1180 : decode cL_law 1180 = .ok (.iload 4, 2) := by decide +kernel
theorem dL_law_1182 : decode cL_law 1182 = .ok (.iconst 1, 1) := by decide +kernel
theorem dL_law_1183 : decode cL_law 1183 = .ok (.iadd, 1) := by decide +kernel
theorem dL_law_1184 : decode cL_law 1184 = .ok (.iaload, 1) := by decide +kernel
theorem dL_law_1185 : decode cL_law 1185 = .ok (.aload_n 0, 1) := by decide +kernel
theorem dL_law_1186 : decode cL_law 1186 = .ok (.iload 4, 2) := by decide +kernel
theorem dL_law_1188 : decode cL_law 1188 = .ok (.iconst 2, 1) := by decide +kernel
theorem dL_law_1189 : decode cL_law 1189 = .ok (.iadd, 1) := by decide +kernel
theorem dL_law_1190 : decode cL_law 1190 = .ok (.iaload, 1) := by decide +kernel
theorem dL_law_1191 : decode cL_law 1191 = .ok (.aload_n 3, 1) := by decide +kernel
theorem dL_law_1192 : decode cL_law 1192 = .ok (.invokestatic 165, 3) := by decide +kernel
theorem dL_law_1195 : decode cL_law 1195 = .ok (.istore 5, 2) := by decide +kernel
theorem dL_law_1197 : decode cL_law 1197 = .ok (.aload_n 2, 1) := by decide +kernel
theorem dL_law_1198 : decode cL_law 1198 = .ok (.aload_n 0, 1) := by decide +kernel
theorem dL_law_1199 : decode cL_law 1199 = .ok (.iload 4, 2) := by decide +kernel
theorem dL_law_1201 : decode cL_law 1201 = .ok (.iconst 1, 1) := by decide +kernel
theorem dL_law_1202 : decode cL_law 1202 = .ok (.iadd, 1) := by decide +kernel
theorem dL_law_1203 : decode cL_law 1203 = .ok (.iaload, 1) := by decide +kernel
theorem dL_law_1204 : decode cL_law 1204 = .ok (.aload_n 0, 1) := by decide +kernel
theorem dL_law_1205 : decode cL_law 1205 = .ok (.iload 4, 2) := by decide +kernel
theorem dL_law_1207 : decode cL_law 1207 = .ok (.iconst 2, 1) := by decide +kernel
theorem dL_law_1208 : decode cL_law 1208 = .ok (.iadd, 1) := by decide +kernel
theorem dL_law_1209 : decode cL_law 1209 = .ok (.iaload, 1) := by decide +kernel
theorem dL_law_1210 : decode cL_law 1210 = .ok (.invokevirtual 167, 3) := by decide +kernel
theorem dL_law_1213 : decode cL_law 1213 = .ok (.istore 6, 2) := by decide +kernel
theorem dL_law_1215 : decode cL_law 1215 = .ok (.aload_n 2, 1) := by decide +kernel
theorem dL_law_1216 : decode cL_law 1216 = .ok (.invokevirtual 104, 3) := by decide +kernel
theorem dL_law_1219 : decode cL_law 1219 = .ok (.iload 5, 2) := by decide +kernel
theorem dL_law_1221 : decode cL_law 1221 = .ok (.if_icmp .eq 5, 3) := by decide +kernel
theorem dL_law_1224 : decode cL_law 1224 = .ok (.iconst 0, 1) := by decide +kernel
theorem dL_law_1225 : decode cL_law 1225 = .ok (.ireturn, 1) := by decide +kernel
theorem dL_law_1226 : decode cL_law 1226 = .ok (.iload 5, 2) := by decide +kernel
theorem dL_law_1228 : decode cL_law 1228 = .ok (.ifCond .ne 15, 3) := by decide +kernel
theorem dL_law_1231 : decode cL_law 1231 = .ok (.aload_n 3, 1) := by decide +kernel
theorem dL_law_1232 : decode cL_law 1232 = .ok (.iconst 0, 1) := by decide +kernel
theorem dL_law_1233 : decode cL_law 1233 = .ok (.laload, 1) := by decide +kernel
theorem dL_law_1234 : decode cL_law 1234 = .ok (.iload 6, 2) := by decide +kernel
theorem dL_law_1236 : decode cL_law 1236 = .ok (.i2l, 1) := by decide +kernel
theorem dL_law_1237 : decode cL_law 1237 = .ok (.lcmp, 1) := by decide +kernel
theorem dL_law_1238 : decode cL_law 1238 = .ok (.ifCond .eq 5, 3) := by decide +kernel
theorem dL_law_1241 : decode cL_law 1241 = .ok (.iconst 0, 1) := by decide +kernel
theorem dL_law_1242 : decode cL_law 1242 = .ok (.ireturn, 1) := by decide +kernel
theorem dL_law_1243 : decode cL_law 1243 = .ok (.goto 533, 3) := by decide +kernel
theorem dL_law_1246 : decode cL_law 1246 = .ok (.aload_n 1, 1) := by decide +kernel
theorem dL_law_1247 : decode cL_law 1247 = .ok (.invokevirtual 168, 3) := by decide +kernel
theorem dL_law_1250 : decode cL_law 1250 = .ok (.aload_n 2, 1) := by decide +kernel
theorem dL_law_1251 : decode cL_law 1251 = .ok (.invokevirtual 171, 3) := by decide +kernel
theorem dL_law_1254 : decode cL_law 1254 = .ok (.if_icmp .eq 522, 3) := by decide +kernel
theorem dL_law_1257 : decode cL_law 1257 = .ok (.iconst 0, 1) := by decide +kernel
theorem dL_law_1258 : decode cL_law 1258 = .ok (.ireturn, 1) := by decide +kernel
theorem dL_law_1259 : decode cL_law 1259 = .ok (.aload_n 1, 1) := by decide +kernel
theorem dL_law_1260 : decode cL_law 1260 = .ok (.aload_n 0, 1) := by decide +kernel
theorem dL_law_1261 : decode cL_law 1261 = .ok (.iload 4, 2) := by decide +kernel
theorem dL_law_1263 : decode cL_law 1263 = .ok (.iconst 1, 1) := by decide +kernel
theorem dL_law_1264 : decode cL_law 1264 = .ok (.iadd, 1) := by decide +kernel
theorem dL_law_1265 : decode cL_law 1265 = .ok (.iaload, 1) := by decide +kernel
theorem dL_law_1266 : decode cL_law 1266 = .ok (.aload_n 3, 1) := by decide +kernel
theorem dL_law_1267 : decode cL_law 1267 = .ok (.invokestatic 172, 3) := by decide +kernel
theorem dL_law_1270 : decode cL_law 1270 = .ok (.istore 5, 2) := by decide +kernel
theorem dL_law_1272 : decode cL_law 1272 = .ok (.aload_n 2, 1) := by decide +kernel
theorem dL_law_1273 : decode cL_law 1273 = .ok (.aload_n 0, 1) := by decide +kernel
theorem dL_law_1274 : decode cL_law 1274 = .ok (.iload 4, 2) := by decide +kernel
theorem dL_law_1276 : decode cL_law 1276 = .ok (.iconst 1, 1) := by decide +kernel
theorem dL_law_1277 : decode cL_law 1277 = .ok (.iadd, 1) := by decide +kernel
theorem dL_law_1278 : decode cL_law 1278 = .ok (.iaload, 1) := by decide +kernel
end
section
theorem dL_law_1279 : decode cL_law 1279 = .ok (.invokevirtual 174, 3) := by decide +kernel
theorem dL_law_1282 : decode cL_law 1282 = .ok (.istore 6, 2) := by decide +kernel
theorem dL_law_1284 : decode cL_law 1284 = .ok (.aload_n 2, 1) := by decide +kernel
theorem dL_law_1285 : decode cL_law 1285 = .ok (.invokevirtual 104, 3) := by decide +kernel
theorem dL_law_1288 : decode cL_law 1288 = .ok (.iload 5, 2) := by decide +kernel
theorem dL_law_1290 : decode cL_law 1290 = .ok (.if_icmp .eq 5, 3) := by decide +kernel
theorem dL_law_1293 : decode cL_law 1293 = .ok (.iconst 0, 1) := by decide +kernel
theorem dL_law_1294 : decode cL_law 1294 = .ok (.ireturn, 1) := by decide +kernel
theorem dL_law_1295 : decode cL_law 1295 = .ok (.iload 5, 2) := by decide +kernel
theorem dL_law_1297 : decode cL_law 1297 = .ok (.ifCond .ne 15, 3) := by decide +kernel
theorem dL_law_1300 : decode cL_law 1300 = .ok (.aload_n 3, 1) := by decide +kernel
theorem dL_law_1301 : decode cL_law 1301 = .ok (.iconst 0, 1) := by decide +kernel
theorem dL_law_1302 : decode cL_law 1302 = .ok (.laload, 1) := by decide +kernel
theorem dL_law_1303 : decode cL_law 1303 = .ok (.iload 6, 2) := by decide +kernel
theorem dL_law_1305 : decode cL_law 1305 = .ok (.i2l, 1) := by decide +kernel
theorem dL_law_1306 : decode cL_law 1306 = .ok (.lcmp, 1) := by decide +kernel
theorem dL_law_1307 : decode cL_law 1307 = .ok (.ifCond .eq 5, 3) := by decide +kernel
theorem dL_law_1310 : decode cL_law 1310 = .ok (.iconst 0, 1) := by decide +kernel
theorem dL_law_1311 : decode cL_law 1311 = .ok (.ireturn, 1) := by decide +kernel
theorem dL_law_1312 : decode cL_law 1312 = .ok (.goto 464, 3) := by decide +kernel
theorem dL_law_1315 : decode cL_law 1315 = .ok (.aload_n 1, 1) := by decide +kernel
theorem dL_law_1316 : decode cL_law 1316 = .ok (.aload_n 0, 1) := by decide +kernel
theorem dL_law_1317 : decode cL_law 1317 = .ok (.iload 4, 2) := by decide +kernel
theorem dL_law_1319 : decode cL_law 1319 = .ok (.iconst 1, 1) := by decide +kernel
theorem dL_law_1320 : decode cL_law 1320 = .ok (.iadd, 1) := by decide +kernel
theorem dL_law_1321 : decode cL_law 1321 = .ok (.iaload, 1) := by decide +kernel
theorem dL_law_1322 : decode cL_law 1322 = .ok (.aload_n 0, 1) := by decide +kernel
theorem dL_law_1323 : decode cL_law 1323 = .ok (.iload 4, 2) := by decide +kernel
theorem dL_law_1325 : decode cL_law 1325 = .ok (.iconst 2, 1) := by decide +kernel
theorem dL_law_1326 : decode cL_law 1326 = .ok (.iadd, 1) := by decide +kernel
theorem dL_law_1327 : decode cL_law 1327 = .ok (.iaload, 1) := by decide +kernel
theorem dL_law_1328 : decode cL_law 1328 = .ok (.aload_n 0, 1) := by decide +kernel
theorem dL_law_1329 : decode cL_law 1329 = .ok (.iload 4, 2) := by decide +kernel
theorem dL_law_1331 : decode cL_law 1331 = .ok (.iconst 3, 1) := by decide +kernel
theorem dL_law_1332 : decode cL_law 1332 = .ok (.iadd, 1) := by decide +kernel
theorem dL_law_1333 : decode cL_law 1333 = .ok (.iaload, 1) := by decide +kernel
theorem dL_law_1334 : decode cL_law 1334 = .ok (.aload_n 3, 1) := by decide +kernel
theorem dL_law_1335 : decode cL_law 1335 = .ok (.invokestatic 175, 3) := by decide +kernel
theorem dL_law_1338 : decode cL_law 1338 = .ok (.istore 5, 2) := by decide +kernel
theorem dL_law_1340 : decode cL_law 1340 = .ok (.aload_n 2, 1) := by decide +kernel
theorem dL_law_1341 : decode cL_law 1341 = .ok (.aload_n 0, 1) := by decide +kernel
theorem dL_law_1342 : decode cL_law 1342 = .ok (.iload 4, 2) := by decide +kernel
theorem dL_law_1344 : decode cL_law 1344 = .ok (.iconst 1, 1) := by decide +kernel
theorem dL_law_1345 : decode cL_law 1345 = .ok (.iadd, 1) := by decide +kernel
theorem dL_law_1346 : decode cL_law 1346 = .ok (.iaload, 1) := by decide +kernel
theorem dL_law_1347 : decode cL_law 1347 = .ok (.aload_n 0, 1) := by decide +kernel
theorem dL_law_1348 : decode cL_law 1348 = .ok (.iload 4, 2) := by decide +kernel
theorem dL_law_1350 : decode cL_law 1350 = .ok (.iconst 2, 1) := by decide +kernel
theorem dL_law_1351 : decode cL_law 1351 = .ok (.iadd, 1) := by decide +kernel
theorem dL_law_1352 : decode cL_law 1352 = .ok (.iaload, 1) := by decide +kernel
theorem dL_law_1353 : decode cL_law 1353 = .ok (.aload_n 0, 1) := by decide +kernel
theorem dL_law_1354 : decode cL_law 1354 = .ok (.iload 4, 2) := by decide +kernel
theorem dL_law_1356 : decode cL_law 1356 = .ok (.iconst 3, 1) := by decide +kernel
theorem dL_law_1357 : decode cL_law 1357 = .ok (.iadd, 1) := by decide +kernel
theorem dL_law_1358 : decode cL_law 1358 = .ok (.iaload, 1) := by decide +kernel
theorem dL_law_1359 : decode cL_law 1359 = .ok (.invokevirtual 177, 3) := by decide +kernel
theorem dL_law_1362 : decode cL_law 1362 = .ok (.istore 6, 2) := by decide +kernel
theorem dL_law_1364 : decode cL_law 1364 = .ok (.aload_n 2, 1) := by decide +kernel
theorem dL_law_1365 : decode cL_law 1365 = .ok (.invokevirtual 104, 3) := by decide +kernel
theorem dL_law_1368 : decode cL_law 1368 = .ok (.iload 5, 2) := by decide +kernel
theorem dL_law_1370 : decode cL_law 1370 = .ok (.if_icmp .eq 5, 3) := by decide +kernel
theorem dL_law_1373 : decode cL_law 1373 = .ok (.iconst 0, 1) := by decide +kernel
theorem dL_law_1374 : decode cL_law 1374 = .ok (.ireturn, 1) := by decide +kernel
theorem dL_law_1375 : decode cL_law 1375 = .ok (.iload 5, 2) := by decide +kernel
theorem dL_law_1377 : decode cL_law 1377 = .ok (.ifCond .ne 15, 3) := by decide +kernel
theorem dL_law_1380 : decode cL_law 1380 = .ok (.aload_n 3, 1) := by decide +kernel
theorem dL_law_1381 : decode cL_law 1381 = .ok (.iconst 0, 1) := by decide +kernel
theorem dL_law_1382 : decode cL_law 1382 = .ok (.laload, 1) := by decide +kernel
theorem dL_law_1383 : decode cL_law 1383 = .ok (.iload 6, 2) := by decide +kernel
theorem dL_law_1385 : decode cL_law 1385 = .ok (.i2l, 1) := by decide +kernel
theorem dL_law_1386 : decode cL_law 1386 = .ok (.lcmp, 1) := by decide +kernel
theorem dL_law_1387 : decode cL_law 1387 = .ok (.ifCond .eq 5, 3) := by decide +kernel
theorem dL_law_1390 : decode cL_law 1390 = .ok (.iconst 0, 1) := by decide +kernel
theorem dL_law_1391 : decode cL_law 1391 = .ok (.ireturn, 1) := by decide +kernel
theorem dL_law_1392 : decode cL_law 1392 = .ok (.goto 384, 3) := by decide +kernel
theorem dL_law_1395 : decode cL_law 1395 = .ok (.aload_n 1, 1) := by decide +kernel
theorem dL_law_1396 : decode cL_law 1396 = .ok (.aload_n 0, 1) := by decide +kernel
theorem dL_law_1397 : decode cL_law 1397 = .ok (.iload 4, 2) := by decide +kernel
theorem dL_law_1399 : decode cL_law 1399 = .ok (.iconst 1, 1) := by decide +kernel
theorem dL_law_1400 : decode cL_law 1400 = .ok (.iadd, 1) := by decide +kernel
theorem dL_law_1401 : decode cL_law 1401 = .ok (.iaload, 1) := by decide +kernel
theorem dL_law_1402 : decode cL_law 1402 = .ok (.aload_n 3, 1) := by decide +kernel
theorem dL_law_1403 : decode cL_law 1403 = .ok (.invokestatic 178, 3) := by decide +kernel
theorem dL_law_1406 : decode cL_law 1406 = .ok (.istore 5, 2) := by decide +kernel
theorem dL_law_1408 : decode cL_law 1408 = .ok (.aload_n 2, 1) := by decide +kernel
theorem dL_law_1409 : decode cL_law 1409 = .ok (.aload_n 0, 1) := by decide +kernel
theorem dL_law_1410 : decode cL_law 1410 = .ok (.iload 4, 2) := by decide +kernel
theorem dL_law_1412 : decode cL_law 1412 = .ok (.iconst 1, 1) := by decide +kernel
theorem dL_law_1413 : decode cL_law 1413 = .ok (.iadd, 1) := by decide +kernel
theorem dL_law_1414 : decode cL_law 1414 = .ok (.iaload, 1) := by decide +kernel
theorem dL_law_1415 : decode cL_law 1415 = .ok (.invokevirtual 180, 3) := by decide +kernel
theorem dL_law_1418 : decode cL_law 1418 = .ok (.istore 6, 2) := by decide +kernel
theorem dL_law_1420 : decode cL_law 1420 = .ok (.aload_n 2, 1) := by decide +kernel
theorem dL_law_1421 : decode cL_law 1421 = .ok (.invokevirtual 104, 3) := by decide +kernel
theorem dL_law_1424 : decode cL_law 1424 = .ok (.iload 5, 2) := by decide +kernel
theorem dL_law_1426 : decode cL_law 1426 = .ok (.if_icmp .eq 5, 3) := by decide +kernel
theorem dL_law_1429 : decode cL_law 1429 = .ok (.iconst 0, 1) := by decide +kernel
theorem dL_law_1430 : decode cL_law 1430 = .ok (.ireturn, 1) := by decide +kernel
theorem dL_law_1431 : decode cL_law 1431 = .ok (.iload 5, 2) := by decide +kernel
theorem dL_law_1433 : decode cL_law 1433 = .ok (.ifCond .ne 15, 3) := by decide +kernel
theorem dL_law_1436 : decode cL_law 1436 = .ok (.aload_n 3, 1) := by decide +kernel
theorem dL_law_1437 : decode cL_law 1437 = .ok (.iconst 0, 1) := by decide +kernel
theorem dL_law_1438 : decode cL_law 1438 = .ok (.laload, 1) := by decide +kernel
theorem dL_law_1439 : decode cL_law 1439 = .ok (.iload 6, 2) := by decide +kernel
theorem dL_law_1441 : decode cL_law 1441 = .ok (.i2l, 1) := by decide +kernel
theorem dL_law_1442 : decode cL_law 1442 = .ok (.lcmp, 1) := by decide +kernel
theorem dL_law_1443 : decode cL_law 1443 = .ok (.ifCond .eq 5, 3) := by decide +kernel
theorem dL_law_1446 : decode cL_law 1446 = .ok (.iconst 0, 1) := by decide +kernel
theorem dL_law_1447 : decode cL_law 1447 = .ok (.ireturn, 1) := by decide +kernel
theorem dL_law_1448 : decode cL_law 1448 = .ok (.goto 328, 3) := by decide +kernel
theorem dL_law_1451 : decode cL_law 1451 = .ok (.aload_n 1, 1) := by decide +kernel
theorem dL_law_1452 : decode cL_law 1452 = .ok (.invokevirtual 181, 3) := by decide +kernel
theorem dL_law_1455 : decode cL_law 1455 = .ok (.aload_n 2, 1) := by decide +kernel
theorem dL_law_1456 : decode cL_law 1456 = .ok (.invokevirtual 184, 3) := by decide +kernel
theorem dL_law_1459 : decode cL_law 1459 = .ok (.if_icmp .eq 317, 3) := by decide +kernel
theorem dL_law_1462 : decode cL_law 1462 = .ok (.iconst 0, 1) := by decide +kernel
theorem dL_law_1463 : decode cL_law 1463 = .ok (.ireturn, 1) := by decide +kernel
theorem dL_law_1464 : decode cL_law 1464 = .ok (.aload_n 1, 1) := by decide +kernel
theorem dL_law_1465 : decode cL_law 1465 = .ok (.aload_n 0, 1) := by decide +kernel
theorem dL_law_1466 : decode cL_law 1466 = .ok (.iload 4, 2) := by decide +kernel
theorem dL_law_1468 : decode cL_law 1468 = .ok (.iconst 1, 1) := by decide +kernel
theorem dL_law_1469 : decode cL_law 1469 = .ok (.iadd, 1) := by decide +kernel
theorem dL_law_1470 : decode cL_law 1470 = .ok (.iaload, 1) := by decide +kernel
theorem dL_law_1471 : decode cL_law 1471 = .ok (.aload_n 0, 1) := by decide +kernel
theorem dL_law_1472 : decode cL_law 1472 = .ok (.iload 4, 2) := by decide +kernel
theorem dL_law_1474 : decode cL_law 1474 = .ok (.iconst 2, 1) := by decide +kernel
theorem dL_law_1475 : decode cL_law 1475 = .ok (.iadd, 1) := by decide +kernel
theorem dL_law_1476 : decode cL_law 1476 = .ok (.iaload, 1) := by decide +kernel
theorem dL_law_1477 : decode cL_law 1477 = .ok (.i2l, 1) := by decide +kernel
theorem dL_law_1478 : decode cL_law 1478 = .ok (.bipush 32, 2) := by decide +kernel
theorem dL_law_1480 : decode cL_law 1480 = .ok (.lshl, 1) := by decide +kernel
theorem dL_law_1481 : decode cL_law 1481 = .ok (.aload_n 0, 1) := by decide +kernel
theorem dL_law_1482 : decode cL_law 1482 = .ok (.iload 4, 2) := by decide +kernel
theorem dL_law_1484 : decode cL_law 1484 = .ok (.iconst 3, 1) := by decide +kernel
theorem dL_law_1485 : decode cL_law 1485 = .ok (.iadd, 1) := by decide +kernel
theorem dL_law_1486 : decode cL_law 1486 = .ok (.iaload, 1) := by decide +kernel
theorem dL_law_1487 : decode cL_law 1487 = .ok (.i2l, 1) := by decide +kernel
theorem dL_law_1488 : decode cL_law 1488 = .ok (.ldc2_w 185, 3) := by decide +kernel
theorem dL_law_1491 : decode cL_law 1491 = .ok (.land, 1) := by decide +kernel
theorem dL_law_1492 : decode cL_law 1492 = .ok (.lor, 1) := by decide +kernel
theorem dL_law_1493 : decode cL_law 1493 = .ok (.aload_n 3, 1) := by decide +kernel
theorem dL_law_1494 : decode cL_law 1494 = .ok (.invokestatic 187, 3) := by decide +kernel
theorem dL_law_1497 : decode cL_law 1497 = .ok (.istore 5, 2) := by decide +kernel
theorem dL_law_1499 : decode cL_law 1499 = .ok (.aload_n 2, 1) := by decide +kernel
theorem dL_law_1500 : decode cL_law 1500 = .ok (.aload_n 0, 1) := by decide +kernel
theorem dL_law_1501 : decode cL_law 1501 = .ok (.iload 4, 2) := by decide +kernel
theorem dL_law_1503 : decode cL_law 1503 = .ok (.iconst 1, 1) := by decide +kernel
theorem dL_law_1504 : decode cL_law 1504 = .ok (.iadd, 1) := by decide +kernel
theorem dL_law_1505 : decode cL_law 1505 = .ok (.iaload, 1) := by decide +kernel
theorem dL_law_1506 : decode cL_law 1506 = .ok (.aload_n 0, 1) := by decide +kernel
theorem dL_law_1507 : decode cL_law 1507 = .ok (.iload 4, 2) := by decide +kernel
theorem dL_law_1509 : decode cL_law 1509 = .ok (.iconst 2, 1) := by decide +kernel
theorem dL_law_1510 : decode cL_law 1510 = .ok (.iadd, 1) := by decide +kernel
theorem dL_law_1511 : decode cL_law 1511 = .ok (.iaload, 1) := by decide +kernel
theorem dL_law_1512 : decode cL_law 1512 = .ok (.i2l, 1) := by decide +kernel
theorem dL_law_1513 : decode cL_law 1513 = .ok (.bipush 32, 2) := by decide +kernel
theorem dL_law_1515 : decode cL_law 1515 = .ok (.lshl, 1) := by decide +kernel
theorem dL_law_1516 : decode cL_law 1516 = .ok (.aload_n 0, 1) := by decide +kernel
theorem dL_law_1517 : decode cL_law 1517 = .ok (.iload 4, 2) := by decide +kernel
theorem dL_law_1519 : decode cL_law 1519 = .ok (.iconst 3, 1) := by decide +kernel
theorem dL_law_1520 : decode cL_law 1520 = .ok (.iadd, 1) := by decide +kernel
theorem dL_law_1521 : decode cL_law 1521 = .ok (.iaload, 1) := by decide +kernel
theorem dL_law_1522 : decode cL_law 1522 = .ok (.i2l, 1) := by decide +kernel
theorem dL_law_1523 : decode cL_law 1523 = .ok (.ldc2_w 185, 3) := by decide +kernel
theorem dL_law_1526 : decode cL_law 1526 = .ok (.land, 1) := by decide +kernel
theorem dL_law_1527 : decode cL_law 1527 = .ok (.lor, 1) := by decide +kernel
theorem dL_law_1528 : decode cL_law 1528 = .ok (.invokevirtual 190, 3) := by decide +kernel
theorem dL_law_1531 : decode cL_law 1531 = .ok (.istore 6, 2) := by decide +kernel
theorem dL_law_1533 : decode cL_law 1533 = .ok (.aload_n 2, 1) := by decide +kernel
theorem dL_law_1534 : decode cL_law 1534 = .ok (.invokevirtual 104, 3) := by decide +kernel
theorem dL_law_1537 : decode cL_law 1537 = .ok (.iload 5, 2) := by decide +kernel
theorem dL_law_1539 : decode cL_law 1539 = .ok (.if_icmp .eq 5, 3) := by decide +kernel
theorem dL_law_1542 : decode cL_law 1542 = .ok (.iconst 0, 1) := by decide +kernel
theorem dL_law_1543 : decode cL_law 1543 = .ok (.ireturn, 1) := by decide +kernel
theorem dL_law_1544 : decode cL_law 1544 = .ok (.iload 5, 2) := by decide +kernel
theorem dL_law_1546 : decode cL_law 1546 = .ok (.ifCond .ne 15, 3) := by decide +kernel
theorem dL_law_1549 : decode cL_law 1549 = .ok (.aload_n 3, 1) := by decide +kernel
theorem dL_law_1550 : decode cL_law 1550 = .ok (.iconst 0, 1) := by decide +kernel
theorem dL_law_1551 : decode cL_law 1551 = .ok (.laload, 1) := by decide +kernel
theorem dL_law_1552 : decode cL_law 1552 = .ok (.iload 6, 2) := by decide +kernel
theorem dL_law_1554 : decode cL_law 1554 = .ok (.i2l, 1) := by decide +kernel
theorem dL_law_1555 : decode cL_law 1555 = .ok (.lcmp, 1) := by decide +kernel
theorem dL_law_1556 : decode cL_law 1556 = .ok (.ifCond .eq 5, 3) := by decide +kernel
theorem dL_law_1559 : decode cL_law 1559 = .ok (.iconst 0, 1) := by decide +kernel
theorem dL_law_1560 : decode cL_law 1560 = .ok (.ireturn, 1) := by decide +kernel
theorem dL_law_1561 : decode cL_law 1561 = .ok (.goto 215, 3) := by decide +kernel
theorem dL_law_1564 : decode cL_law 1564 = .ok (.aload_n 1, 1) := by decide +kernel
theorem dL_law_1565 : decode cL_law 1565 = .ok (.aload_n 0, 1) := by decide +kernel
theorem dL_law_1566 : decode cL_law 1566 = .ok (.iload 4, 2) := by decide +kernel
theorem dL_law_1568 : decode cL_law 1568 = .ok (.iconst 1, 1) := by decide +kernel
theorem dL_law_1569 : decode cL_law 1569 = .ok (.iadd, 1) := by decide +kernel
theorem dL_law_1570 : decode cL_law 1570 = .ok (.iaload, 1) := by decide +kernel
theorem dL_law_1571 : decode cL_law 1571 = .ok (.i2l, 1) := by decide +kernel
theorem dL_law_1572 : decode cL_law 1572 = .ok (.bipush 32, 2) := by decide +kernel
theorem dL_law_1574 : decode cL_law 1574 = .ok (.lshl, 1) := by decide +kernel
theorem dL_law_1575 : decode cL_law 1575 = .ok (.aload_n 0, 1) := by decide +kernel
theorem dL_law_1576 : decode cL_law 1576 = .ok (.iload 4, 2) := by decide +kernel
theorem dL_law_1578 : decode cL_law 1578 = .ok (.iconst 2, 1) := by decide +kernel
theorem dL_law_1579 : decode cL_law 1579 = .ok (.iadd, 1) := by decide +kernel
theorem dL_law_1580 : decode cL_law 1580 = .ok (.iaload, 1) := by decide +kernel
theorem dL_law_1581 : decode cL_law 1581 = .ok (.i2l, 1) := by decide +kernel
theorem dL_law_1582 : decode cL_law 1582 = .ok (.ldc2_w 185, 3) := by decide +kernel
theorem dL_law_1585 : decode cL_law 1585 = .ok (.land, 1) := by decide +kernel
theorem dL_law_1586 : decode cL_law 1586 = .ok (.lor, 1) := by decide +kernel
theorem dL_law_1587 : decode cL_law 1587 = .ok (.aload_n 0, 1) := by decide +kernel
theorem dL_law_1588 : decode cL_law 1588 = .ok (.iload 4, 2) := by decide +kernel
theorem dL_law_1590 : decode cL_law 1590 = .ok (.iconst 3, 1) := by decide +kernel
theorem dL_law_1591 : decode cL_law 1591 = .ok (.iadd, 1) := by decide +kernel
theorem dL_law_1592 : decode cL_law 1592 = .ok (.iaload, 1) := by decide +kernel
theorem dL_law_1593 : decode cL_law 1593 = .ok (.aload_n 3, 1) := by decide +kernel
theorem dL_law_1594 : decode cL_law 1594 = .ok (.invokestatic 191, 3) := by decide +kernel
theorem dL_law_1597 : decode cL_law 1597 = .ok (.istore 5, 2) := by decide +kernel
theorem dL_law_1599 : decode cL_law 1599 = .ok (.aload_n 2, 1) := by decide +kernel
theorem dL_law_1600 : decode cL_law 1600 = .ok (.aload_n 0, 1) := by decide +kernel
theorem dL_law_1601 : decode cL_law 1601 = .ok (.iload 4, 2) := by decide +kernel
theorem dL_law_1603 : decode cL_law 1603 = .ok (.iconst 1, 1) := by decide +kernel
theorem dL_law_1604 : decode cL_law 1604 = .ok (.iadd, 1) := by decide +kernel
theorem dL_law_1605 : decode cL_law 1605 = .ok (.iaload, 1) := by decide +kernel
theorem dL_law_1606 : decode cL_law 1606 = .ok (.i2l, 1) := by decide +kernel
theorem dL_law_1607 : decode cL_law 1607 = .ok (.bipush 32, 2) := by decide +kernel
theorem dL_law_1609 : decode cL_law 1609 = .ok (.lshl, 1) := by decide +kernel
theorem dL_law_1610 : decode cL_law 1610 = .ok (.aload_n 0, 1) := by decide +kernel
theorem dL_law_1611 : decode cL_law 1611 = .ok (.iload 4, 2) := by decide +kernel
theorem dL_law_1613 : decode cL_law 1613 = .ok (.iconst 2, 1) := by decide +kernel
theorem dL_law_1614 : decode cL_law 1614 = .ok (.iadd, 1) := by decide +kernel
theorem dL_law_1615 : decode cL_law 1615 = .ok (.iaload, 1) := by decide +kernel
theorem dL_law_1616 : decode cL_law 1616 = .ok (.i2l, 1) := by decide +kernel
theorem dL_law_1617 : decode cL_law 1617 = .ok (.ldc2_w 185, 3) := by decide +kernel
theorem dL_law_1620 : decode cL_law 1620 = .ok (.land, 1) := by decide +kernel
theorem dL_law_1621 : decode cL_law 1621 = .ok (.lor, 1) := by decide +kernel
theorem dL_law_1622 : decode cL_law 1622 = .ok (.aload_n 0, 1) := by decide +kernel
theorem dL_law_1623 : decode cL_law 1623 = .ok (.iload 4, 2) := by decide +kernel
theorem dL_law_1625 : decode cL_law 1625 = .ok (.iconst 3, 1) := by decide +kernel
theorem dL_law_1626 : decode cL_law 1626 = .ok (.iadd, 1) := by decide +kernel
theorem dL_law_1627 : decode cL_law 1627 = .ok (.iaload, 1) := by decide +kernel
theorem dL_law_1628 : decode cL_law 1628 = .ok (.invokevirtual 194, 3) := by decide +kernel
theorem dL_law_1631 : decode cL_law 1631 = .ok (.istore 6, 2) := by decide +kernel
theorem dL_law_1633 : decode cL_law 1633 = .ok (.aload_n 2, 1) := by decide +kernel
theorem dL_law_1634 : decode cL_law 1634 = .ok (.invokevirtual 104, 3) := by decide +kernel
theorem dL_law_1637 : decode cL_law 1637 = .ok (.iload 5, 2) := by decide +kernel
theorem dL_law_1639 : decode cL_law 1639 = .ok (.if_icmp .eq 5, 3) := by decide +kernel
theorem dL_law_1642 : decode cL_law 1642 = .ok (.iconst 0, 1) := by decide +kernel
theorem dL_law_1643 : decode cL_law 1643 = .ok (.ireturn, 1) := by decide +kernel
theorem dL_law_1644 : decode cL_law 1644 = .ok (.iload 5, 2) := by decide +kernel
theorem dL_law_1646 : decode cL_law 1646 = .ok (.ifCond .ne 15, 3) := by decide +kernel
theorem dL_law_1649 : decode cL_law 1649 = .ok (.aload_n 3, 1) := by decide +kernel
theorem dL_law_1650 : decode cL_law 1650 = .ok (.iconst 0, 1) := by decide +kernel
theorem dL_law_1651 : decode cL_law 1651 = .ok (.laload, 1) := by decide +kernel
theorem dL_law_1652 : decode cL_law 1652 = .ok (.iload 6, 2) := by decide +kernel
theorem dL_law_1654 : decode cL_law 1654 = .ok (.i2l, 1) := by decide +kernel
theorem dL_law_1655 : decode cL_law 1655 = .ok (.lcmp, 1) := by decide +kernel
theorem dL_law_1656 : decode cL_law 1656 = .ok (.ifCond .eq 5, 3) := by decide +kernel
theorem dL_law_1659 : decode cL_law 1659 = .ok (.iconst 0, 1) := by decide +kernel
theorem dL_law_1660 : decode cL_law 1660 = .ok (.ireturn, 1) := by decide +kernel
theorem dL_law_1661 : decode cL_law 1661 = .ok (.goto 115, 3) := by decide +kernel
theorem dL_law_1664 : decode cL_law 1664 = .ok (.aload_n 1, 1) := by decide +kernel
theorem dL_law_1665 : decode cL_law 1665 = .ok (.aload_n 0, 1) := by decide +kernel
theorem dL_law_1666 : decode cL_law 1666 = .ok (.iload 4, 2) := by decide +kernel
theorem dL_law_1668 : decode cL_law 1668 = .ok (.iconst 1, 1) := by decide +kernel
theorem dL_law_1669 : decode cL_law 1669 = .ok (.iadd, 1) := by decide +kernel
theorem dL_law_1670 : decode cL_law 1670 = .ok (.iaload, 1) := by decide +kernel
theorem dL_law_1671 : decode cL_law 1671 = .ok (.aload_n 3, 1) := by decide +kernel
theorem dL_law_1672 : decode cL_law 1672 = .ok (.invokestatic 195, 3) := by decide +kernel
theorem dL_law_1675 : decode cL_law 1675 = .ok (.istore 5, 2) := by decide +kernel
theorem dL_law_1677 : decode cL_law 1677 = .ok (.aload_n 2, 1) := by decide +kernel
theorem dL_law_1678 : decode cL_law 1678 = .ok (.aload_n 0, 1) := by decide +kernel
theorem dL_law_1679 : decode cL_law 1679 = .ok (.iload 4, 2) := by decide +kernel
theorem dL_law_1681 : decode cL_law 1681 = .ok (.iconst 1, 1) := by decide +kernel
theorem dL_law_1682 : decode cL_law 1682 = .ok (.iadd, 1) := by decide +kernel
theorem dL_law_1683 : decode cL_law 1683 = .ok (.iaload, 1) := by decide +kernel
theorem dL_law_1684 : decode cL_law 1684 = .ok (.invokevirtual 197, 3) := by decide +kernel
theorem dL_law_1687 : decode cL_law 1687 = .ok (.istore 6, 2) := by decide +kernel
theorem dL_law_1689 : decode cL_law 1689 = .ok (.aload_n 2, 1) := by decide +kernel
theorem dL_law_1690 : decode cL_law 1690 = .ok (.invokevirtual 104, 3) := by decide +kernel
theorem dL_law_1693 : decode cL_law 1693 = .ok (.iload 5, 2) := by decide +kernel
theorem dL_law_1695 : decode cL_law 1695 = .ok (.if_icmp .eq 5, 3) := by decide +kernel
theorem dL_law_1698 : decode cL_law 1698 = .ok (.iconst 0, 1) := by decide +kernel
theorem dL_law_1699 : decode cL_law 1699 = .ok (.ireturn, 1) := by decide +kernel
theorem dL_law_1700 : decode cL_law 1700 = .ok (.iload 5, 2) := by decide +kernel
theorem dL_law_1702 : decode cL_law 1702 = .ok (.ifCond .ne 15, 3) := by decide +kernel
theorem dL_law_1705 : decode cL_law 1705 = .ok (.aload_n 3, 1) := by decide +kernel
theorem dL_law_1706 : decode cL_law 1706 = .ok (.iconst 0, 1) := by decide +kernel
theorem dL_law_1707 : decode cL_law 1707 = .ok (.laload, 1) := by decide +kernel
theorem dL_law_1708 : decode cL_law 1708 = .ok (.iload 6, 2) := by decide +kernel
theorem dL_law_1710 : decode cL_law 1710 = .ok (.i2l, 1) := by decide +kernel
theorem dL_law_1711 : decode cL_law 1711 = .ok (.lcmp, 1) := by decide +kernel
theorem dL_law_1712 : decode cL_law 1712 = .ok (.ifCond .eq 5, 3) := by decide +kernel
theorem dL_law_1715 : decode cL_law 1715 = .ok (.iconst 0, 1) := by decide +kernel
theorem dL_law_1716 : decode cL_law 1716 = .ok (.ireturn, 1) := by decide +kernel
theorem dL_law_1717 : decode cL_law 1717 = .ok (.goto 59, 3) := by decide +kernel
theorem dL_law_1720 : decode cL_law 1720 = .ok (.aload_n 1, 1) := by decide +kernel
theorem dL_law_1721 : decode cL_law 1721 = .ok (.aload_n 0, 1) := by decide +kernel
theorem dL_law_1722 : decode cL_law 1722 = .ok (.iload 4, 2) := by decide +kernel
theorem dL_law_1724 : decode cL_law 1724 = .ok (.iconst 1, 1) := by decide +kernel
theorem dL_law_1725 : decode cL_law 1725 = .ok (.iadd, 1) := by decide +kernel
theorem dL_law_1726 : decode cL_law 1726 = .ok (.iaload, 1) := by decide +kernel
theorem dL_law_1727 : decode cL_law 1727 = .ok (.aload_n 3, 1) := by decide +kernel
theorem dL_law_1728 : decode cL_law 1728 = .ok (.invokestatic 198, 3) := by decide +kernel
theorem dL_law_1731 : decode cL_law 1731 = .ok (.istore 5, 2) := by decide +kernel
theorem dL_law_1733 : decode cL_law 1733 = .ok (.aload_n 2, 1) := by decide +kernel
theorem dL_law_1734 : decode cL_law 1734 = .ok (.aload_n 0, 1) := by decide +kernel
theorem dL_law_1735 : decode cL_law 1735 = .ok (.iload 4, 2) := by decide +kernel
theorem dL_law_1737 : decode cL_law 1737 = .ok (.iconst 1, 1) := by decide +kernel
theorem dL_law_1738 : decode cL_law 1738 = .ok (.iadd, 1) := by decide +kernel
theorem dL_law_1739 : decode cL_law 1739 = .ok (.iaload, 1) := by decide +kernel
theorem dL_law_1740 : decode cL_law 1740 = .ok (.invokevirtual 200, 3) := by decide +kernel
theorem dL_law_1743 : decode cL_law 1743 = .ok (.istore 6, 2) := by decide +kernel
theorem dL_law_1745 : decode cL_law 1745 = .ok (.aload_n 2, 1) := by decide +kernel
theorem dL_law_1746 : decode cL_law 1746 = .ok (.invokevirtual 104, 3) := by decide +kernel
theorem dL_law_1749 : decode cL_law 1749 = .ok (.iload 5, 2) := by decide +kernel
theorem dL_law_1751 : decode cL_law 1751 = .ok (.if_icmp .eq 5, 3) := by decide +kernel
theorem dL_law_1754 : decode cL_law 1754 = .ok (.iconst 0, 1) := by decide +kernel
theorem dL_law_1755 : decode cL_law 1755 = .ok (.ireturn, 1) := by decide +kernel
theorem dL_law_1756 : decode cL_law 1756 = .ok (.iload 5, 2) := by decide +kernel
theorem dL_law_1758 : decode cL_law 1758 = .ok (.ifCond .ne 15, 3) := by decide +kernel
theorem dL_law_1761 : decode cL_law 1761 = .ok (.aload_n 3, 1) := by decide +kernel
theorem dL_law_1762 : decode cL_law 1762 = .ok (.iconst 0, 1) := by decide +kernel
theorem dL_law_1763 : decode cL_law 1763 = .ok (.laload, 1) := by decide +kernel
theorem dL_law_1764 : decode cL_law 1764 = .ok (.iload 6, 2) := by decide +kernel
theorem dL_law_1766 : decode cL_law 1766 = .ok (.i2l, 1) := by decide +kernel
theorem dL_law_1767 : decode cL_law 1767 = .ok (.lcmp, 1) := by decide +kernel
theorem dL_law_1768 : decode cL_law 1768 = .ok (.ifCond .eq 5, 3) := by decide +kernel
theorem dL_law_1771 : decode cL_law 1771 = .ok (.iconst 0, 1) := by decide +kernel
theorem dL_law_1772 : decode cL_law 1772 = .ok (.ireturn, 1) := by decide +kernel
theorem dL_law_1773 : decode cL_law 1773 = .ok (.goto 3, 3) := by decide +kernel
theorem dL_law_1776 : decode cL_law 1776 = .ok (.iinc 4 4, 3) := by decide +kernel
theorem dL_law_1779 : decode cL_law 1779 = .ok (.goto (-1756), 3) := by decide +kernel
theorem dL_law_1782 : decode cL_law 1782 = .ok (.iconst 1, 1) := by decide +kernel
theorem dL_law_1783 : decode cL_law 1783 = .ok (.ireturn, 1) := by decide +kernel
end
section
/-! THE LAYER: all places of the run are numbered in the order in which they are made; place o lies at the address base + o. -/
abbrev qG : Type := va_G × Nat × (Nat → ClassId) × (Nat → Nat) × (Nat → Nat)
def qa (g : qG) (o : Nat) : Nat := g.2.1 + o
def qA (g : qG) : Nat → Prop := fun q => g.2.1 ≤ q
def qty (g : qG) : List (ClassId × FieldType) := [(g.2.2.1 0, .int), (g.2.2.1 1, .boolean), (g.2.2.1 2, .char), (g.2.2.1 3, .long), (g.2.2.1 4, .object RX5)]
def qW (g : qG) (N : Nat) (M : Nat → va_E) : va_W := (List.range N).map (fun o => (qa g o, M o))
theorem qW_len (g : qG) (N : Nat) (M : Nat → va_E) : (qW g N M).length = N := by simp [qW]
theorem qW_at {g : qG} {N : Nat} {M : Nat → va_E} {o : Nat} (h : o < N) : (qW g N M)[o]? = some (qa g o, M o) := by
  unfold qW
  rw [List.getElem?_map, List.getElem?_range h]
  rfl
theorem qW_out {g : qG} {N : Nat} {M : Nat → va_E} {o : Nat} {q : Nat × va_E} (h : (qW g N M)[o]? = some q) : o < N ∧ q = (qa g o, M o) := by
  have h1 : o < N := by
    have := (List.getElem?_eq_some_iff.mp h).1
    rwa [qW_len] at this
  rw [qW_at h1] at h
  exact ⟨h1, (Option.some.inj h).symm⟩
theorem qW_set {g : qG} {N : Nat} {M : Nat → va_E} {o : Nat} {e : va_E} (h : o < N) : (qW g N M).set o (qa g o, e) = qW g N (va_up M o e) := by
  apply List.ext_getElem?
  intro i
  rw [List.getElem?_set]
  by_cases hi : i < N
  · by_cases ho : o = i
    · subst ho
      rw [if_pos rfl, qW_len, if_pos h, qW_at h, va_up_self]
    · rw [if_neg ho, qW_at hi, qW_at hi, va_up_ne _ _ (fun z => ho z.symm)]
  · have h1 : (qW g N M)[i]? = none := List.getElem?_eq_none (by rw [qW_len]; omega)
    have h2 : (qW g N (va_up M o e))[i]? = none := List.getElem?_eq_none (by rw [qW_len]; omega)
    rw [if_neg (by omega), h1, h2]
theorem qW_push {g : qG} {N : Nat} {M : Nat → va_E} {e : va_E} : qW g N M ++ [(qa g N, e)] = qW g (N + 1) (va_up M N e) := by
  unfold qW
  rw [List.range_succ, List.map_append, List.map_cons, List.map_nil, va_up_self]
  congr 1
  refine List.map_congr_left fun a ha => ?_
  rw [va_up_ne _ _ (by have := List.mem_range.mp ha; omega)]
theorem qW_D (g : qG) (N : Nat) (M : Nat → va_E) : va_D (qA g) (qW g N M) := by
  refine ⟨fun i j p q hi hj hpq => ?_, fun k q hk => ?_⟩
  · obtain ⟨-, rfl⟩ := qW_out hi
    obtain ⟨-, rfl⟩ := qW_out hj
    have : qa g i = qa g j := hpq
    unfold qa at this
    omega
  · obtain ⟨-, rfl⟩ := qW_out hk
    exact Nat.le_add_right _ _
theorem qW_congr {g : qG} {N : Nat} {M M' : Nat → va_E} (h : ∀ o, o < N → M o = M' o) : qW g N M = qW g N M' := by
  unfold qW
  refine List.map_congr_left fun a ha => ?_
  rw [h a (List.mem_range.mp ha)]
/-- a word of the tables that stays -/
def qw (w : Cond) : Prop := w ∈ lw_tbl ∧ goodWord w = true
def qNest : List (String × Nat × MethodName × String) := [(RX7, 9, yX4_init, RX7), (RX7, 18, yX6_init, RX7), (RX7, 25, yX1_init, RX7), (RX7, 32, yX5_init, RX7), (RX0, 24, yX5_init, RX7), (RX3, 21, yX5_init, RX7), (RX7, 56, yX2_init, RX7), (RX5, 64, yX7_refusalOfLength, RX7)]
def qCast : List String := ["java/lang/IllegalArgumentException", "java/lang/IllegalStateException", "java/lang/IndexOutOfBoundsException"]
def qDecl : List MethodName := [⟨"java/lang/Exception", "<init>", "(Ljava/lang/String;)V"⟩, ⟨"java/lang/RuntimeException", "<init>", "(Ljava/lang/String;)V"⟩, ⟨"java/lang/Throwable", "<init>", "(Ljava/lang/String;)V"⟩]
def qStr : List (String × Nat × String) := [(RX1, 76, "open"), (RX1, 78, "close"), (RX1, 80, "long"), (RX1, 82, "ends"), (RX1, 84, "turn"), (RX1, 86, ""), (RX7, 66, "no such character code"), (RX7, 77, "the text is full"), (RX7, 91, "the text is not a town"), (RX7, 131, "no such number of the town"), (RX7, 304, "no such street"), (RX7, 154, "no such number of a street"), (RX7, 309, "no such crossing"), (RX7, 173, "no such number of a crossing"), (RX7, 311, "a place is 0 or more"), (RX7, 294, "no such crossing or street"), (RX7, 297, "an argument is out of its range"), (RX7, 299, "the town does not allow it"), (RX7, 214, "the text is not a plan"), (RX7, 225, "no state is remembered"), (RX7, 247, "the length is not 0 to 999"), (RX7, 256, "a script has 1 to 3 commands"), (RX7, 262, "the script has too many digits"), (RX7, 270, "the days are not 1 to 60"), (RX7, 313, "no such save slot"), (RX7, 287, "nothing has been saved in this slot")]
def qSlen : List Nat := [4, 5, 4, 4, 4, 0]
def qSbyt : List (List Int32) := [[111, 112, 101, 110], [99, 108, 111, 115, 101], [108, 111, 110, 103], [101, 110, 100, 115], [116, 117, 114, 110], []]
/-- what holds of the machine in every state of the run, its heap being H -/
def qI (g : qG) (s : State) (H : Heap) : Prop :=
  (∀ w ∈ lw_tbl, goodWord w = true → w.before #[] s = true) ∧ va_K g.1 vwCl (qty g) s ∧ (∀ q ∈ qNest, va_Nw (.methodLinkNest q.1 q.2.1 q.2.2.1 q.2.2.2) s) ∧ (∀ E ∈ qCast, va_Nw (.castable E E) s) ∧ (∀ x ∈ qDecl, va_Nw (.declares x) s) ∧
  (∀ (i : Nat) (q : String × Nat × String), qStr[i]? = some q → vk_R q.1 q.2.1 q.2.2 (g.2.2.2.1 i) s) ∧ vx_Zq Bundle.tN "UNASSIGNED_STACK" Bundle.steD (qA g) s H ∧ vx_Zq Bundle.tN "SUPPRESSED_SENTINEL" Bundle.listD (qA g) s H ∧
  vk_S 6 qSlen qSbyt g.2.2.2.1 g.2.2.2.2 (qA g) s H ∧ va_Z "java/lang/String" "COMPACT_STRINGS" "Z" (.int 1) (qA g) s H ∧ va_Zq "jdk/internal/util/Preconditions" "SIOOBE_FORMATTER" "Ljava/util/function/BiFunction;" (qA g) s H
theorem qI.step {g : qG} {s U : State} {H : Heap} (h : qI g s H) (hW : s.WarmedH U.vm) (hk : ∀ a : Nat, a < H.size → ¬ qA g a → U.heap[a]? = H[a]?) : qI g U U.heap := by
  obtain ⟨h1, h2, h3, h4, h5, h6, h7, h8, h9, h10, h11⟩ := h
  have hv := hW.alike
  exact ⟨fun w hw hg => word_at hW (good_of_word hg) (h1 w hw hg), h2.moved hv, fun q hq => (h3 q hq).warmM hW, fun E hE => (h4 E hE).warmC hW, fun x hx => (h5 x hx).warmD hW, fun i q hq => (h6 i q hq).warm hW,
    (h7.moved hv).kept hk, (h8.moved hv).kept hk, (h9.moved hv).kept hk, (va_Z.moved hv h10).kept hk, (va_Zq.moved hv h11).kept hk⟩
/-- what stays the same through a method -/
def qC (g : qG) (cc : ByteArray) (own : String) (nL : Nat) (p : Program) (s : State) (m : MethodId) (meth : Method) (c : Code) : Prop :=
  p.tables.exec = Jvm.exec ∧ c.code = cc ∧ c.maxLocals = nL ∧ s.vm.findClass own = some m.cls ∧ meth.locks = false ∧ qI g s s.heap ∧ g.2.1 ≤ s.heap.size
theorem qC.w {g : qG} {cc : ByteArray} {own : String} {nL : Nat} {p : Program} {s : State} {m : MethodId} {meth : Method} {c : Code} (C : qC g cc own nL p s m meth c) {w : Cond} {args : Array Value} (h : qw w) : w.before args s = true := word_at (State.WarmedH.refl s) (good_of_word h.2) (C.2.2.2.2.2.1.1 w h.1 h.2)
/-- at pc, the places hold M (N of them), the locals lv, the stack st: from here Q is reached -/
def qR (g : qG) (N : Nat) (hz : Nat → Prop) (nL : Nat) (p : Program) (l : Launch) (e : Env) (R : Room) (s : State) (m : MethodId) (args : Array Value) (below : List Frame) (meth : Method) (c : Code) (cells slots : Nat) (Q : State → Prop) (M : Nat → va_E) (pc : Nat) (lv : List (Nat × Value)) (st : List Value) : Prop :=
  ∀ (H : Heap) (locs : List Loc) (ls : Array Slot), va_P g.1 vwCl (qW g N M) H → hz H.size → va_S (qA g) s.heap H locs → lv_has ls nL lv → W p l e R s m args below meth c H locs cells slots Q (F0 m pc ls st)
section QLA
variable {g : qG} {N : Nat} {hz : Nat → Prop} {nL : Nat} {p : Program} {l : Launch} {e : Env} {R : Room} {s : State} {m : MethodId} {args : Array Value} {below : List Frame} {meth : Method} {c : Code} {cells slots : Nat} {Q : State → Prop} {M : Nat → va_E} {pc : Nat} {lv : List (Nat × Value)} {rest : List Value} {cc : ByteArray} {own : String}
theorem q_iconst (C : qC g cc own nL p s m meth c) {n : Int} {v : Int32} (hdg : decode cc pc = .ok (.iconst n, 1)) (hv : Int32.ofInt n = v) (k : qR g N hz nL p l e R s m args below meth c cells slots Q M (pc + 1) lv (.int v :: rest)) : qR g N hz nL p l e R s m args below meth c cells slots Q M pc lv rest :=
  fun H locs ls hP hh hS hl => lv_iconst C.1 C.2.1 hdg hv (k H locs ls hP hh hS hl)
theorem q_bipush (C : qC g cc own nL p s m meth c) {n : Int} {v : Int32} (hdg : decode cc pc = .ok (.bipush n, 2)) (hv : (Int8.ofInt n).toInt32 = v) (k : qR g N hz nL p l e R s m args below meth c cells slots Q M (pc + 2) lv (.int v :: rest)) : qR g N hz nL p l e R s m args below meth c cells slots Q M pc lv rest :=
  fun H locs ls hP hh hS hl => lv_bipush C.1 C.2.1 hdg hv (k H locs ls hP hh hS hl)
theorem q_sipush (C : qC g cc own nL p s m meth c) {n : Int} {v : Int32} (hdg : decode cc pc = .ok (.sipush n, 3)) (hv : (Int16.ofInt n).toInt32 = v) (k : qR g N hz nL p l e R s m args below meth c cells slots Q M (pc + 3) lv (.int v :: rest)) : qR g N hz nL p l e R s m args below meth c cells slots Q M pc lv rest :=
  fun H locs ls hP hh hS hl => lv_sipush C.1 C.2.1 hdg hv (k H locs ls hP hh hS hl)
theorem q_lconst (C : qC g cc own nL p s m meth c) {n : Fin 2} {v : Int64} (hdg : decode cc pc = .ok (.lconst n, 1)) (hv : Int64.ofNat (n : Nat) = v) (k : qR g N hz nL p l e R s m args below meth c cells slots Q M (pc + 1) lv (.long v :: rest)) : qR g N hz nL p l e R s m args below meth c cells slots Q M pc lv rest :=
  fun H locs ls hP hh hS hl => lv_lconst C.1 C.2.1 hdg hv (k H locs ls hP hh hS hl)
theorem q_ldc (C : qC g cc own nL p s m meth c) {index : Nat} {v : Int32} (hw : qw (Jvm.Cond.constant own index v)) (hdg : decode cc pc = .ok (.ldc index, 2)) (k : qR g N hz nL p l e R s m args below meth c cells slots Q M (pc + 2) lv (.int v :: rest)) : qR g N hz nL p l e R s m args below meth c cells slots Q M pc lv rest :=
  fun H locs ls hP hh hS hl => lv_ldc C.1 C.2.1 C.2.2.2.1 (C.w hw) hdg (k H locs ls hP hh hS hl)
theorem q_ldc2 (C : qC g cc own nL p s m meth c) {index : Nat} {v : Int64} (hw : qw (Jvm.Cond.constantLong own index v)) (hdg : decode cc pc = .ok (.ldc2_w index, 3)) (k : qR g N hz nL p l e R s m args below meth c cells slots Q M (pc + 3) lv (.long v :: rest)) : qR g N hz nL p l e R s m args below meth c cells slots Q M pc lv rest :=
  fun H locs ls hP hh hS hl => lv_ldc2 C.1 C.2.1 C.2.2.2.1 (C.w hw) hdg (k H locs ls hP hh hS hl)
theorem q_iload_n (C : qC g cc own nL p s m meth c) {k : Fin 4} {i : Nat} {x : Int32} (j : Nat) (hdg : decode cc pc = .ok (.iload_n k, 1)) (hi : (k : Nat) = i) (hl0 : lv[j]? = some (i, .int x)) (k : qR g N hz nL p l e R s m args below meth c cells slots Q M (pc + 1) lv (.int x :: rest)) : qR g N hz nL p l e R s m args below meth c cells slots Q M pc lv rest :=
  fun H locs ls hP hh hS hl => lv_iload_n C.1 C.2.1 hdg hi (lv_at hl j hl0) (k H locs ls hP hh hS hl)
theorem q_iload (C : qC g cc own nL p s m meth c) {i : Nat} {x : Int32} (j : Nat) (hdg : decode cc pc = .ok (.iload i, 2)) (hl0 : lv[j]? = some (i, .int x)) (k : qR g N hz nL p l e R s m args below meth c cells slots Q M (pc + 2) lv (.int x :: rest)) : qR g N hz nL p l e R s m args below meth c cells slots Q M pc lv rest :=
  fun H locs ls hP hh hS hl => lv_iload C.1 C.2.1 hdg (lv_at hl j hl0) (k H locs ls hP hh hS hl)
theorem q_lload_n (C : qC g cc own nL p s m meth c) {k : Fin 4} {i : Nat} {x : Int64} (j : Nat) (hdg : decode cc pc = .ok (.lload_n k, 1)) (hi : (k : Nat) = i) (hl0 : lv[j]? = some (i, .long x)) (k : qR g N hz nL p l e R s m args below meth c cells slots Q M (pc + 1) lv (.long x :: rest)) : qR g N hz nL p l e R s m args below meth c cells slots Q M pc lv rest :=
  fun H locs ls hP hh hS hl => lv_lload_n C.1 C.2.1 hdg hi (lv_at hl j hl0) (k H locs ls hP hh hS hl)
theorem q_lload (C : qC g cc own nL p s m meth c) {i : Nat} {x : Int64} (j : Nat) (hdg : decode cc pc = .ok (.lload i, 2)) (hl0 : lv[j]? = some (i, .long x)) (k : qR g N hz nL p l e R s m args below meth c cells slots Q M (pc + 2) lv (.long x :: rest)) : qR g N hz nL p l e R s m args below meth c cells slots Q M pc lv rest :=
  fun H locs ls hP hh hS hl => lv_lload C.1 C.2.1 hdg (lv_at hl j hl0) (k H locs ls hP hh hS hl)
theorem q_aload_n (C : qC g cc own nL p s m meth c) {k : Fin 4} {i x : Nat} (j : Nat) (hdg : decode cc pc = .ok (.aload_n k, 1)) (hi : (k : Nat) = i) (hl0 : lv[j]? = some (i, .ref x)) (k : qR g N hz nL p l e R s m args below meth c cells slots Q M (pc + 1) lv (.ref x :: rest)) : qR g N hz nL p l e R s m args below meth c cells slots Q M pc lv rest :=
  fun H locs ls hP hh hS hl => lv_aload_n C.1 C.2.1 hdg hi (lv_at hl j hl0) (k H locs ls hP hh hS hl)
theorem q_aload (C : qC g cc own nL p s m meth c) {i x : Nat} (j : Nat) (hdg : decode cc pc = .ok (.aload i, 2)) (hl0 : lv[j]? = some (i, .ref x)) (k : qR g N hz nL p l e R s m args below meth c cells slots Q M (pc + 2) lv (.ref x :: rest)) : qR g N hz nL p l e R s m args below meth c cells slots Q M pc lv rest :=
  fun H locs ls hP hh hS hl => lv_aload C.1 C.2.1 hdg (lv_at hl j hl0) (k H locs ls hP hh hS hl)
theorem q_istore_n (C : qC g cc own nL p s m meth c) {k : Fin 4} {i : Nat} {x : Int32} {lv' : List (Nat × Value)} (hdg : decode cc pc = .ok (.istore_n k, 1)) (hi : (k : Nat) = i) (hn : i < nL) (hl0 : (i, Value.int x) :: lv.filter (fun q => !(q.1 == i) && !(q.1 + 1 == i && q.2.category == 2)) = lv') (k : qR g N hz nL p l e R s m args below meth c cells slots Q M (pc + 1) lv' rest) : qR g N hz nL p l e R s m args below meth c cells slots Q M pc lv (.int x :: rest) :=
  fun H locs ls hP hh hS hl => lv_istore_n C.1 C.2.1 hdg hi hl hn hl0 (fun ls hl => k H locs ls hP hh hS hl)
theorem q_istore (C : qC g cc own nL p s m meth c) {i : Nat} {x : Int32} {lv' : List (Nat × Value)} (hdg : decode cc pc = .ok (.istore i, 2)) (hn : i < nL) (hl0 : (i, Value.int x) :: lv.filter (fun q => !(q.1 == i) && !(q.1 + 1 == i && q.2.category == 2)) = lv') (k : qR g N hz nL p l e R s m args below meth c cells slots Q M (pc + 2) lv' rest) : qR g N hz nL p l e R s m args below meth c cells slots Q M pc lv (.int x :: rest) :=
  fun H locs ls hP hh hS hl => lv_istore C.1 C.2.1 hdg hl hn hl0 (fun ls hl => k H locs ls hP hh hS hl)
theorem q_lstore_n (C : qC g cc own nL p s m meth c) {k : Fin 4} {i : Nat} {x : Int64} {lv' : List (Nat × Value)} (hdg : decode cc pc = .ok (.lstore_n k, 1)) (hi : (k : Nat) = i) (hn : i + 1 < nL) (hl0 : (i, Value.long x) :: lv.filter (fun q => !(q.1 == i) && (!(q.1 == i + 1) && !(q.1 + 1 == i && q.2.category == 2))) = lv') (k : qR g N hz nL p l e R s m args below meth c cells slots Q M (pc + 1) lv' rest) : qR g N hz nL p l e R s m args below meth c cells slots Q M pc lv (.long x :: rest) :=
  fun H locs ls hP hh hS hl => lv_lstore_n C.1 C.2.1 hdg hi hl hn hl0 (fun ls hl => k H locs ls hP hh hS hl)
theorem q_lstore (C : qC g cc own nL p s m meth c) {i : Nat} {x : Int64} {lv' : List (Nat × Value)} (hdg : decode cc pc = .ok (.lstore i, 2)) (hn : i + 1 < nL) (hl0 : (i, Value.long x) :: lv.filter (fun q => !(q.1 == i) && (!(q.1 == i + 1) && !(q.1 + 1 == i && q.2.category == 2))) = lv') (k : qR g N hz nL p l e R s m args below meth c cells slots Q M (pc + 2) lv' rest) : qR g N hz nL p l e R s m args below meth c cells slots Q M pc lv (.long x :: rest) :=
  fun H locs ls hP hh hS hl => lv_lstore C.1 C.2.1 hdg hl hn hl0 (fun ls hl => k H locs ls hP hh hS hl)
theorem q_astore_n (C : qC g cc own nL p s m meth c) {k : Fin 4} {i x : Nat} {lv' : List (Nat × Value)} (hdg : decode cc pc = .ok (.astore_n k, 1)) (hi : (k : Nat) = i) (hn : i < nL) (hl0 : (i, Value.ref x) :: lv.filter (fun q => !(q.1 == i) && !(q.1 + 1 == i && q.2.category == 2)) = lv') (k : qR g N hz nL p l e R s m args below meth c cells slots Q M (pc + 1) lv' rest) : qR g N hz nL p l e R s m args below meth c cells slots Q M pc lv (.ref x :: rest) :=
  fun H locs ls hP hh hS hl => lv_astore_n C.1 C.2.1 hdg hi hl hn hl0 (fun ls hl => k H locs ls hP hh hS hl)
theorem q_astore (C : qC g cc own nL p s m meth c) {i x : Nat} {lv' : List (Nat × Value)} (hdg : decode cc pc = .ok (.astore i, 2)) (hn : i < nL) (hl0 : (i, Value.ref x) :: lv.filter (fun q => !(q.1 == i) && !(q.1 + 1 == i && q.2.category == 2)) = lv') (k : qR g N hz nL p l e R s m args below meth c cells slots Q M (pc + 2) lv' rest) : qR g N hz nL p l e R s m args below meth c cells slots Q M pc lv (.ref x :: rest) :=
  fun H locs ls hP hh hS hl => lv_astore C.1 C.2.1 hdg hl hn hl0 (fun ls hl => k H locs ls hP hh hS hl)
theorem q_iinc (C : qC g cc own nL p s m meth c) {i : Nat} {n : Int} {x v : Int32} {lv' : List (Nat × Value)} (j : Nat) (hdg : decode cc pc = .ok (.iinc i n, 3)) (hk : lv[j]? = some (i, .int x)) (hv : x + Int32.ofInt n = v) (hn : i < nL) (hl0 : (i, Value.int v) :: lv.filter (fun q => !(q.1 == i) && !(q.1 + 1 == i && q.2.category == 2)) = lv') (k : qR g N hz nL p l e R s m args below meth c cells slots Q M (pc + 3) lv' rest) : qR g N hz nL p l e R s m args below meth c cells slots Q M pc lv rest :=
  fun H locs ls hP hh hS hl => lv_iinc C.1 C.2.1 hdg hl hk hv hn hl0 (fun ls hl => k H locs ls hP hh hS hl)
/-- other locals, by their places; the world said otherwise -/
theorem q_norm (ks : List Nat) {lv' : List (Nat × Value)} (hl0 : lv_pick lv ks = lv') (k : qR g N hz nL p l e R s m args below meth c cells slots Q M pc lv' rest) : qR g N hz nL p l e R s m args below meth c cells slots Q M pc lv rest :=
  fun H locs ls hP hh hS hl => k H locs ls hP hh hS (lv_sub hl ks hl0)
theorem q_iadd (C : qC g cc own nL p s m meth c) {x y : Int32} (hdg : decode cc pc = .ok (.iadd, 1)) (k : qR g N hz nL p l e R s m args below meth c cells slots Q M (pc + 1) lv (.int (x + y) :: rest)) : qR g N hz nL p l e R s m args below meth c cells slots Q M pc lv (.int y :: .int x :: rest) :=
  fun H locs ls hP hh hS hl => lv_iadd C.1 C.2.1 hdg (k H locs ls hP hh hS hl)
theorem q_isub (C : qC g cc own nL p s m meth c) {x y : Int32} (hdg : decode cc pc = .ok (.isub, 1)) (k : qR g N hz nL p l e R s m args below meth c cells slots Q M (pc + 1) lv (.int (x - y) :: rest)) : qR g N hz nL p l e R s m args below meth c cells slots Q M pc lv (.int y :: .int x :: rest) :=
  fun H locs ls hP hh hS hl => lv_isub C.1 C.2.1 hdg (k H locs ls hP hh hS hl)
theorem q_imul (C : qC g cc own nL p s m meth c) {x y : Int32} (hdg : decode cc pc = .ok (.imul, 1)) (k : qR g N hz nL p l e R s m args below meth c cells slots Q M (pc + 1) lv (.int (x * y) :: rest)) : qR g N hz nL p l e R s m args below meth c cells slots Q M pc lv (.int y :: .int x :: rest) :=
  fun H locs ls hP hh hS hl => lv_imul C.1 C.2.1 hdg (k H locs ls hP hh hS hl)
theorem q_iand (C : qC g cc own nL p s m meth c) {x y : Int32} (hdg : decode cc pc = .ok (.iand, 1)) (k : qR g N hz nL p l e R s m args below meth c cells slots Q M (pc + 1) lv (.int (x &&& y) :: rest)) : qR g N hz nL p l e R s m args below meth c cells slots Q M pc lv (.int y :: .int x :: rest) :=
  fun H locs ls hP hh hS hl => lv_iand C.1 C.2.1 hdg (k H locs ls hP hh hS hl)
theorem q_ior (C : qC g cc own nL p s m meth c) {x y : Int32} (hdg : decode cc pc = .ok (.ior, 1)) (k : qR g N hz nL p l e R s m args below meth c cells slots Q M (pc + 1) lv (.int (x ||| y) :: rest)) : qR g N hz nL p l e R s m args below meth c cells slots Q M pc lv (.int y :: .int x :: rest) :=
  fun H locs ls hP hh hS hl => lv_ior C.1 C.2.1 hdg (k H locs ls hP hh hS hl)
theorem q_ishl (C : qC g cc own nL p s m meth c) {x y : Int32} (hdg : decode cc pc = .ok (.ishl, 1)) (k : qR g N hz nL p l e R s m args below meth c cells slots Q M (pc + 1) lv (.int (x <<< (y &&& 31)) :: rest)) : qR g N hz nL p l e R s m args below meth c cells slots Q M pc lv (.int y :: .int x :: rest) :=
  fun H locs ls hP hh hS hl => lv_ishl C.1 C.2.1 hdg (k H locs ls hP hh hS hl)
theorem q_ladd (C : qC g cc own nL p s m meth c) {x y : Int64} (hdg : decode cc pc = .ok (.ladd, 1)) (k : qR g N hz nL p l e R s m args below meth c cells slots Q M (pc + 1) lv (.long (x + y) :: rest)) : qR g N hz nL p l e R s m args below meth c cells slots Q M pc lv (.long y :: .long x :: rest) :=
  fun H locs ls hP hh hS hl => lv_ladd C.1 C.2.1 hdg (k H locs ls hP hh hS hl)
theorem q_lsub (C : qC g cc own nL p s m meth c) {x y : Int64} (hdg : decode cc pc = .ok (.lsub, 1)) (k : qR g N hz nL p l e R s m args below meth c cells slots Q M (pc + 1) lv (.long (x - y) :: rest)) : qR g N hz nL p l e R s m args below meth c cells slots Q M pc lv (.long y :: .long x :: rest) :=
  fun H locs ls hP hh hS hl => lv_lsub C.1 C.2.1 hdg (k H locs ls hP hh hS hl)
theorem q_lmul (C : qC g cc own nL p s m meth c) {x y : Int64} (hdg : decode cc pc = .ok (.lmul, 1)) (k : qR g N hz nL p l e R s m args below meth c cells slots Q M (pc + 1) lv (.long (x * y) :: rest)) : qR g N hz nL p l e R s m args below meth c cells slots Q M pc lv (.long y :: .long x :: rest) :=
  fun H locs ls hP hh hS hl => lv_lmul C.1 C.2.1 hdg (k H locs ls hP hh hS hl)
theorem q_land (C : qC g cc own nL p s m meth c) {x y : Int64} (hdg : decode cc pc = .ok (.land, 1)) (k : qR g N hz nL p l e R s m args below meth c cells slots Q M (pc + 1) lv (.long (x &&& y) :: rest)) : qR g N hz nL p l e R s m args below meth c cells slots Q M pc lv (.long y :: .long x :: rest) :=
  fun H locs ls hP hh hS hl => lv_land C.1 C.2.1 hdg (k H locs ls hP hh hS hl)
theorem q_lor (C : qC g cc own nL p s m meth c) {x y : Int64} (hdg : decode cc pc = .ok (.lor, 1)) (k : qR g N hz nL p l e R s m args below meth c cells slots Q M (pc + 1) lv (.long (x ||| y) :: rest)) : qR g N hz nL p l e R s m args below meth c cells slots Q M pc lv (.long y :: .long x :: rest) :=
  fun H locs ls hP hh hS hl => lv_lor C.1 C.2.1 hdg (k H locs ls hP hh hS hl)
theorem q_idiv (C : qC g cc own nL p s m meth c) {x y : Int32} (hdg : decode cc pc = .ok (.idiv, 1)) (hne : ¬ y = 0) (k : qR g N hz nL p l e R s m args below meth c cells slots Q M (pc + 1) lv (.int (x / y) :: rest)) : qR g N hz nL p l e R s m args below meth c cells slots Q M pc lv (.int y :: .int x :: rest) :=
  fun H locs ls hP hh hS hl => lv_idiv C.1 C.2.1 hdg hne (k H locs ls hP hh hS hl)
theorem q_irem (C : qC g cc own nL p s m meth c) {x y : Int32} (hdg : decode cc pc = .ok (.irem, 1)) (hne : ¬ y = 0) (k : qR g N hz nL p l e R s m args below meth c cells slots Q M (pc + 1) lv (.int (x - x / y * y) :: rest)) : qR g N hz nL p l e R s m args below meth c cells slots Q M pc lv (.int y :: .int x :: rest) :=
  fun H locs ls hP hh hS hl => lv_irem C.1 C.2.1 hdg hne (k H locs ls hP hh hS hl)
theorem q_ldiv (C : qC g cc own nL p s m meth c) {x y : Int64} (hdg : decode cc pc = .ok (.ldiv, 1)) (hne : ¬ y = 0) (k : qR g N hz nL p l e R s m args below meth c cells slots Q M (pc + 1) lv (.long (x / y) :: rest)) : qR g N hz nL p l e R s m args below meth c cells slots Q M pc lv (.long y :: .long x :: rest) :=
  fun H locs ls hP hh hS hl => lv_ldiv C.1 C.2.1 hdg hne (k H locs ls hP hh hS hl)
theorem q_lrem (C : qC g cc own nL p s m meth c) {x y : Int64} (hdg : decode cc pc = .ok (.lrem, 1)) (hne : ¬ y = 0) (k : qR g N hz nL p l e R s m args below meth c cells slots Q M (pc + 1) lv (.long (x - x / y * y) :: rest)) : qR g N hz nL p l e R s m args below meth c cells slots Q M pc lv (.long y :: .long x :: rest) :=
  fun H locs ls hP hh hS hl => lv_lrem C.1 C.2.1 hdg hne (k H locs ls hP hh hS hl)
theorem q_lcmp (C : qC g cc own nL p s m meth c) {x y : Int64} (hdg : decode cc pc = .ok (.lcmp, 1)) (k : qR g N hz nL p l e R s m args below meth c cells slots Q M (pc + 1) lv (.int (lg_cmp x y) :: rest)) : qR g N hz nL p l e R s m args below meth c cells slots Q M pc lv (.long y :: .long x :: rest) :=
  fun H locs ls hP hh hS hl => W.lcmp C.1 C.2.1 hdg (k H locs ls hP hh hS hl)
theorem q_i2l (C : qC g cc own nL p s m meth c) {x : Int32} {v : Int64} (hdg : decode cc pc = .ok (.i2l, 1)) (hv : x.toInt64 = v) (k : qR g N hz nL p l e R s m args below meth c cells slots Q M (pc + 1) lv (.long v :: rest)) : qR g N hz nL p l e R s m args below meth c cells slots Q M pc lv (.int x :: rest) :=
  fun H locs ls hP hh hS hl => lv_i2l C.1 C.2.1 hdg hv (k H locs ls hP hh hS hl)
theorem q_l2i (C : qC g cc own nL p s m meth c) {x : Int64} {v : Int32} (hdg : decode cc pc = .ok (.l2i, 1)) (hv : x.toInt32 = v) (k : qR g N hz nL p l e R s m args below meth c cells slots Q M (pc + 1) lv (.int v :: rest)) : qR g N hz nL p l e R s m args below meth c cells slots Q M pc lv (.long x :: rest) :=
  fun H locs ls hP hh hS hl => lv_l2i C.1 C.2.1 hdg hv (k H locs ls hP hh hS hl)
theorem q_i2c (C : qC g cc own nL p s m meth c) {x : Int32} {v : Int32} (hdg : decode cc pc = .ok (.i2c, 1)) (hv : (x.toUInt32 % 65536).toInt32 = v) (k : qR g N hz nL p l e R s m args below meth c cells slots Q M (pc + 1) lv (.int v :: rest)) : qR g N hz nL p l e R s m args below meth c cells slots Q M pc lv (.int x :: rest) :=
  fun H locs ls hP hh hS hl => lv_i2c C.1 C.2.1 hdg hv (k H locs ls hP hh hS hl)
theorem q_lushr (C : qC g cc own nL p s m meth c) {x v : Int64} {y : Int32} (hdg : decode cc pc = .ok (.lushr, 1)) (hv : (x.toUInt64 >>> (y.toInt64.toUInt64 &&& Int64.toUInt64 63)).toInt64 = v) (k : qR g N hz nL p l e R s m args below meth c cells slots Q M (pc + 1) lv (.long v :: rest)) : qR g N hz nL p l e R s m args below meth c cells slots Q M pc lv (.int y :: .long x :: rest) :=
  fun H locs ls hP hh hS hl => lv_lushr C.1 C.2.1 hdg hv (k H locs ls hP hh hS hl)
theorem q_lshl (C : qC g cc own nL p s m meth c) {x v : Int64} {y : Int32} (hdg : decode cc pc = .ok (.lshl, 1)) (hv : x <<< (y.toInt64 &&& 63) = v) (k : qR g N hz nL p l e R s m args below meth c cells slots Q M (pc + 1) lv (.long v :: rest)) : qR g N hz nL p l e R s m args below meth c cells slots Q M pc lv (.int y :: .long x :: rest) :=
  fun H locs ls hP hh hS hl => lv_lshl C.1 C.2.1 hdg hv (k H locs ls hP hh hS hl)
theorem q_dup (C : qC g cc own nL p s m meth c) {va : Value} (hdg : decode cc pc = .ok (.dup, 1)) (hva : va.category = 1) (k : qR g N hz nL p l e R s m args below meth c cells slots Q M (pc + 1) lv (va :: va :: rest)) : qR g N hz nL p l e R s m args below meth c cells slots Q M pc lv (va :: rest) :=
  fun H locs ls hP hh hS hl => lv_dup C.1 C.2.1 hdg hva (k H locs ls hP hh hS hl)
theorem q_dup2 (C : qC g cc own nL p s m meth c) {va vb : Value} (hdg : decode cc pc = .ok (.dup2, 1)) (hva : va.category = 1) (hvb : vb.category = 1) (k : qR g N hz nL p l e R s m args below meth c cells slots Q M (pc + 1) lv (va :: vb :: va :: vb :: rest)) : qR g N hz nL p l e R s m args below meth c cells slots Q M pc lv (va :: vb :: rest) :=
  fun H locs ls hP hh hS hl => lv_dup2_11 C.1 C.2.1 hdg hva hvb (k H locs ls hP hh hS hl)
theorem q_pop (C : qC g cc own nL p s m meth c) {va : Value} (hdg : decode cc pc = .ok (.pop, 1)) (hva : va.category = 1) (k : qR g N hz nL p l e R s m args below meth c cells slots Q M (pc + 1) lv rest) : qR g N hz nL p l e R s m args below meth c cells slots Q M pc lv (va :: rest) :=
  fun H locs ls hP hh hS hl => lv_pop C.1 C.2.1 hdg hva (k H locs ls hP hh hS hl)
theorem q_goto (C : qC g cc own nL p s m meth c) {off : Int} {tgt : Nat} (hdg : decode cc pc = .ok (.goto off, 3)) (ht : (pc : Int) + off = (tgt : Int)) (k : qR g N hz nL p l e R s m args below meth c cells slots Q M tgt lv rest) : qR g N hz nL p l e R s m args below meth c cells slots Q M pc lv rest :=
  fun H locs ls hP hh hS hl => lv_goto C.1 C.2.1 hdg ht (k H locs ls hP hh hS hl)
theorem q_if_eq (C : qC g cc own nL p s m meth c) {x : Int32} {off : Int} {tgt : Nat} {α : Type} {A B r : α} (h : (if x = 0 then A else B) = r) (hdg : decode cc pc = .ok (.ifCond .eq off, 3)) (ht : (pc : Int) + off = (tgt : Int)) (kt : A = r → qR g N hz nL p l e R s m args below meth c cells slots Q M tgt lv rest) (kf : B = r → qR g N hz nL p l e R s m args below meth c cells slots Q M (pc + 3) lv rest) : qR g N hz nL p l e R s m args below meth c cells slots Q M pc lv (.int x :: rest) :=
  fun H locs ls hP hh hS hl => lv_if_eq C.1 C.2.1 hdg ht (fun q => kt (by rw [← h, if_pos q]) H locs ls hP hh hS hl) (fun q => kf (by rw [← h]; first | rw [if_neg q] | rw [if_neg (fun z => z q)]) H locs ls hP hh hS hl)
theorem q_if_ne (C : qC g cc own nL p s m meth c) {x : Int32} {off : Int} {tgt : Nat} {α : Type} {A B r : α} (h : (if ¬ x = 0 then A else B) = r) (hdg : decode cc pc = .ok (.ifCond .ne off, 3)) (ht : (pc : Int) + off = (tgt : Int)) (kt : A = r → qR g N hz nL p l e R s m args below meth c cells slots Q M tgt lv rest) (kf : B = r → qR g N hz nL p l e R s m args below meth c cells slots Q M (pc + 3) lv rest) : qR g N hz nL p l e R s m args below meth c cells slots Q M pc lv (.int x :: rest) :=
  fun H locs ls hP hh hS hl => lv_if_ne C.1 C.2.1 hdg ht (fun q => kt (by rw [← h, if_pos q]) H locs ls hP hh hS hl) (fun q => kf (by rw [← h]; first | rw [if_neg q] | rw [if_neg (fun z => z q)]) H locs ls hP hh hS hl)
theorem q_if_lt (C : qC g cc own nL p s m meth c) {x : Int32} {off : Int} {tgt : Nat} {α : Type} {A B r : α} (h : (if x < 0 then A else B) = r) (hdg : decode cc pc = .ok (.ifCond .lt off, 3)) (ht : (pc : Int) + off = (tgt : Int)) (kt : A = r → qR g N hz nL p l e R s m args below meth c cells slots Q M tgt lv rest) (kf : B = r → qR g N hz nL p l e R s m args below meth c cells slots Q M (pc + 3) lv rest) : qR g N hz nL p l e R s m args below meth c cells slots Q M pc lv (.int x :: rest) :=
  fun H locs ls hP hh hS hl => lv_if_lt C.1 C.2.1 hdg ht (fun q => kt (by rw [← h, if_pos q]) H locs ls hP hh hS hl) (fun q => kf (by rw [← h]; first | rw [if_neg q] | rw [if_neg (fun z => z q)]) H locs ls hP hh hS hl)
theorem q_if_ge (C : qC g cc own nL p s m meth c) {x : Int32} {off : Int} {tgt : Nat} {α : Type} {A B r : α} (h : (if 0 ≤ x then A else B) = r) (hdg : decode cc pc = .ok (.ifCond .ge off, 3)) (ht : (pc : Int) + off = (tgt : Int)) (kt : A = r → qR g N hz nL p l e R s m args below meth c cells slots Q M tgt lv rest) (kf : B = r → qR g N hz nL p l e R s m args below meth c cells slots Q M (pc + 3) lv rest) : qR g N hz nL p l e R s m args below meth c cells slots Q M pc lv (.int x :: rest) :=
  fun H locs ls hP hh hS hl => lv_if_ge C.1 C.2.1 hdg ht (fun q => kt (by rw [← h, if_pos q]) H locs ls hP hh hS hl) (fun q => kf (by rw [← h]; first | rw [if_neg q] | rw [if_neg (fun z => z q)]) H locs ls hP hh hS hl)
theorem q_if_gt (C : qC g cc own nL p s m meth c) {x : Int32} {off : Int} {tgt : Nat} {α : Type} {A B r : α} (h : (if 0 < x then A else B) = r) (hdg : decode cc pc = .ok (.ifCond .gt off, 3)) (ht : (pc : Int) + off = (tgt : Int)) (kt : A = r → qR g N hz nL p l e R s m args below meth c cells slots Q M tgt lv rest) (kf : B = r → qR g N hz nL p l e R s m args below meth c cells slots Q M (pc + 3) lv rest) : qR g N hz nL p l e R s m args below meth c cells slots Q M pc lv (.int x :: rest) :=
  fun H locs ls hP hh hS hl => lv_if_gt C.1 C.2.1 hdg ht (fun q => kt (by rw [← h, if_pos q]) H locs ls hP hh hS hl) (fun q => kf (by rw [← h]; first | rw [if_neg q] | rw [if_neg (fun z => z q)]) H locs ls hP hh hS hl)
theorem q_if_le (C : qC g cc own nL p s m meth c) {x : Int32} {off : Int} {tgt : Nat} {α : Type} {A B r : α} (h : (if x ≤ 0 then A else B) = r) (hdg : decode cc pc = .ok (.ifCond .le off, 3)) (ht : (pc : Int) + off = (tgt : Int)) (kt : A = r → qR g N hz nL p l e R s m args below meth c cells slots Q M tgt lv rest) (kf : B = r → qR g N hz nL p l e R s m args below meth c cells slots Q M (pc + 3) lv rest) : qR g N hz nL p l e R s m args below meth c cells slots Q M pc lv (.int x :: rest) :=
  fun H locs ls hP hh hS hl => lv_if_le C.1 C.2.1 hdg ht (fun q => kt (by rw [← h, if_pos q]) H locs ls hP hh hS hl) (fun q => kf (by rw [← h]; first | rw [if_neg q] | rw [if_neg (fun z => z q)]) H locs ls hP hh hS hl)
theorem q_icmp_eq (C : qC g cc own nL p s m meth c) {x y : Int32} {off : Int} {tgt : Nat} {α : Type} {A B r : α} (h : (if x = y then A else B) = r) (hdg : decode cc pc = .ok (.if_icmp .eq off, 3)) (ht : (pc : Int) + off = (tgt : Int)) (kt : A = r → qR g N hz nL p l e R s m args below meth c cells slots Q M tgt lv rest) (kf : B = r → qR g N hz nL p l e R s m args below meth c cells slots Q M (pc + 3) lv rest) : qR g N hz nL p l e R s m args below meth c cells slots Q M pc lv (.int y :: .int x :: rest) :=
  fun H locs ls hP hh hS hl => lv_icmp_eq C.1 C.2.1 hdg ht (fun q => kt (by rw [← h, if_pos q]) H locs ls hP hh hS hl) (fun q => kf (by rw [← h]; first | rw [if_neg q] | rw [if_neg (fun z => z q)]) H locs ls hP hh hS hl)
theorem q_icmp_ne (C : qC g cc own nL p s m meth c) {x y : Int32} {off : Int} {tgt : Nat} {α : Type} {A B r : α} (h : (if ¬ x = y then A else B) = r) (hdg : decode cc pc = .ok (.if_icmp .ne off, 3)) (ht : (pc : Int) + off = (tgt : Int)) (kt : A = r → qR g N hz nL p l e R s m args below meth c cells slots Q M tgt lv rest) (kf : B = r → qR g N hz nL p l e R s m args below meth c cells slots Q M (pc + 3) lv rest) : qR g N hz nL p l e R s m args below meth c cells slots Q M pc lv (.int y :: .int x :: rest) :=
  fun H locs ls hP hh hS hl => lv_icmp_ne C.1 C.2.1 hdg ht (fun q => kt (by rw [← h, if_pos q]) H locs ls hP hh hS hl) (fun q => kf (by rw [← h]; first | rw [if_neg q] | rw [if_neg (fun z => z q)]) H locs ls hP hh hS hl)
theorem q_icmp_lt (C : qC g cc own nL p s m meth c) {x y : Int32} {off : Int} {tgt : Nat} {α : Type} {A B r : α} (h : (if x < y then A else B) = r) (hdg : decode cc pc = .ok (.if_icmp .lt off, 3)) (ht : (pc : Int) + off = (tgt : Int)) (kt : A = r → qR g N hz nL p l e R s m args below meth c cells slots Q M tgt lv rest) (kf : B = r → qR g N hz nL p l e R s m args below meth c cells slots Q M (pc + 3) lv rest) : qR g N hz nL p l e R s m args below meth c cells slots Q M pc lv (.int y :: .int x :: rest) :=
  fun H locs ls hP hh hS hl => lv_icmp_lt C.1 C.2.1 hdg ht (fun q => kt (by rw [← h, if_pos q]) H locs ls hP hh hS hl) (fun q => kf (by rw [← h]; first | rw [if_neg q] | rw [if_neg (fun z => z q)]) H locs ls hP hh hS hl)
theorem q_icmp_ge (C : qC g cc own nL p s m meth c) {x y : Int32} {off : Int} {tgt : Nat} {α : Type} {A B r : α} (h : (if y ≤ x then A else B) = r) (hdg : decode cc pc = .ok (.if_icmp .ge off, 3)) (ht : (pc : Int) + off = (tgt : Int)) (kt : A = r → qR g N hz nL p l e R s m args below meth c cells slots Q M tgt lv rest) (kf : B = r → qR g N hz nL p l e R s m args below meth c cells slots Q M (pc + 3) lv rest) : qR g N hz nL p l e R s m args below meth c cells slots Q M pc lv (.int y :: .int x :: rest) :=
  fun H locs ls hP hh hS hl => lv_icmp_ge C.1 C.2.1 hdg ht (fun q => kt (by rw [← h, if_pos q]) H locs ls hP hh hS hl) (fun q => kf (by rw [← h]; first | rw [if_neg q] | rw [if_neg (fun z => z q)]) H locs ls hP hh hS hl)
theorem q_icmp_gt (C : qC g cc own nL p s m meth c) {x y : Int32} {off : Int} {tgt : Nat} {α : Type} {A B r : α} (h : (if y < x then A else B) = r) (hdg : decode cc pc = .ok (.if_icmp .gt off, 3)) (ht : (pc : Int) + off = (tgt : Int)) (kt : A = r → qR g N hz nL p l e R s m args below meth c cells slots Q M tgt lv rest) (kf : B = r → qR g N hz nL p l e R s m args below meth c cells slots Q M (pc + 3) lv rest) : qR g N hz nL p l e R s m args below meth c cells slots Q M pc lv (.int y :: .int x :: rest) :=
  fun H locs ls hP hh hS hl => lv_icmp_gt C.1 C.2.1 hdg ht (fun q => kt (by rw [← h, if_pos q]) H locs ls hP hh hS hl) (fun q => kf (by rw [← h]; first | rw [if_neg q] | rw [if_neg (fun z => z q)]) H locs ls hP hh hS hl)
theorem q_icmp_le (C : qC g cc own nL p s m meth c) {x y : Int32} {off : Int} {tgt : Nat} {α : Type} {A B r : α} (h : (if x ≤ y then A else B) = r) (hdg : decode cc pc = .ok (.if_icmp .le off, 3)) (ht : (pc : Int) + off = (tgt : Int)) (kt : A = r → qR g N hz nL p l e R s m args below meth c cells slots Q M tgt lv rest) (kf : B = r → qR g N hz nL p l e R s m args below meth c cells slots Q M (pc + 3) lv rest) : qR g N hz nL p l e R s m args below meth c cells slots Q M pc lv (.int y :: .int x :: rest) :=
  fun H locs ls hP hh hS hl => lv_icmp_le C.1 C.2.1 hdg ht (fun q => kt (by rw [← h, if_pos q]) H locs ls hP hh hS hl) (fun q => kf (by rw [← h]; first | rw [if_neg q] | rw [if_neg (fun z => z q)]) H locs ls hP hh hS hl)
theorem q_tableOut (C : qC g cc own nL p s m meth c) {dflt lo hi : Int} {offs : Array Int} {len : Nat} {x : Int32} {tgt : Nat} (hdg : decode cc pc = .ok (.tableswitch dflt lo hi offs, len)) (h : x.toInt < lo ∨ hi < x.toInt) (ht : (pc : Int) + dflt = (tgt : Int)) (k : qR g N hz nL p l e R s m args below meth c cells slots Q M tgt lv rest) : qR g N hz nL p l e R s m args below meth c cells slots Q M pc lv (.int x :: rest) :=
  fun H locs ls hP hh hS hl => lv_tableOut C.1 C.2.1 hdg h ht (k H locs ls hP hh hS hl)
theorem q_tableIn (C : qC g cc own nL p s m meth c) {dflt lo hi : Int} {offs : Array Int} {len : Nat} {x : Int32} {off : Int} {tgt : Nat} (hdg : decode cc pc = .ok (.tableswitch dflt lo hi offs, len)) (h1 : ¬ x.toInt < lo) (h2 : ¬ hi < x.toInt) (ho : offs[(x.toInt - lo).toNat]? = some off) (ht : (pc : Int) + off = (tgt : Int)) (k : qR g N hz nL p l e R s m args below meth c cells slots Q M tgt lv rest) : qR g N hz nL p l e R s m args below meth c cells slots Q M pc lv (.int x :: rest) :=
  fun H locs ls hP hh hS hl => lv_tableIn C.1 C.2.1 hdg h1 h2 ho ht (k H locs ls hP hh hS hl)
theorem q_lookup (C : qC g cc own nL p s m meth c) {dflt : Int} {ps : Array (Int × Int)} {len : Nat} {x : Int32} {off : Int} {tgt : Nat} (hdg : decode cc pc = .ok (.lookupswitch dflt ps, len)) (hp : (ps.toList.zip (ps.toList.drop 1)).all (fun (a, next) => a.1 < next.1) = true) (ho : Op.lookupswitch.offset ps.toList dflt x.toInt = off) (ht : (pc : Int) + off = (tgt : Int)) (k : qR g N hz nL p l e R s m args below meth c cells slots Q M tgt lv rest) : qR g N hz nL p l e R s m args below meth c cells slots Q M pc lv (.int x :: rest) :=
  fun H locs ls hP hh hS hl => lv_lookup C.1 C.2.1 hdg hp ho ht (k H locs ls hP hh hS hl)
theorem qC.K (C : qC g cc own nL p s m meth c) : va_K g.1 vwCl (qty g) s := C.2.2.2.2.2.1.2.1
theorem qcl_w : ∀ q ∈ vwCl, ∀ w ∈ u_ws q.1 q.2.1 q.2.2, qw w := by
  unfold qw
  decide +kernel
theorem qcl_t : ∀ (ci : Nat) (q : vw_C), vwCl[ci]? = some q → ∃ ty0 : Nat → FieldType, (∀ k, k < q.2.2 → parseFieldDescriptor (q.2.1 k).2.2.1 = some (ty0 k)) ∧ (∀ a, a < q.2.2 → ∀ b, b < q.2.2 → a ≠ b → (q.2.1 a).2.1 ≠ (q.2.1 b).2.1) := by
  intro ci q h
  match ci, h with
  | 0, h => cases h; exact ⟨tyX0, tyX0_ok, nmX0⟩
  | 1, h => cases h; exact ⟨tyX1, tyX1_ok, nmX1⟩
  | 2, h => cases h; exact ⟨tyX2, tyX2_ok, nmX2⟩
  | 3, h => cases h; exact ⟨tyX3, tyX3_ok, nmX3⟩
  | 4, h => cases h; exact ⟨tyX4, tyX4_ok, nmX4⟩
  | 5, h => cases h; exact ⟨tyX5, tyX5_ok, nmX5⟩
  | 6, h => cases h; exact ⟨tyX6, tyX6_ok, nmX6⟩
  | 7, h => cases h; exact ⟨tyX7, tyX7_ok, nmX7⟩
  | 8, h => cases h; exact ⟨tyX8, tyX8_ok, nmX8⟩
  | k + 9, h => simp [vwCl] at h
theorem qcl_ts (C : qC g cc own nL p s m meth c) {ci : Nat} {q : vw_C} (hc : vwCl[ci]? = some q) : ∀ w ∈ u_ws q.1 q.2.1 q.2.2, w.before args s = true := fun w hw => C.w (qcl_w q (List.mem_of_getElem? hc) w hw)
theorem q_get (C : qC g cc own nL p s m meth c) {o ci k index : Nat} {fs : List Value} {v : Value} {q : vw_C} (ho : o < N) (hM : M o = .inr (ci, fs)) (hc : vwCl[ci]? = some q) (hk : k < q.2.2) (hv : fs[k]? = some v) (hlk : qw (.fieldLink own index (q.2.1 k).1 (q.2.1 k).2.1 (q.2.1 k).2.2.1)) (hdg : decode cc pc = .ok (.getfield index, 3)) (kk : qR g N hz nL p l e R s m args below meth c cells slots Q M (pc + 3) lv (v :: rest)) : qR g N hz nL p l e R s m args below meth c cells slots Q M pc lv (.ref (qa g o) :: rest) :=
  fun H locs ls hP hh hS hl => va_get (D := g.1) (C := q.1) (T := q.2.1) (N := q.2.2) (ci := ci) C.1 C.2.1 (Ts := u_ws q.1 q.2.1 q.2.2) (qcl_ts C hc) (fun w hw => hw) C.2.2.2.1 C.K hP o (fs := fs) (by rw [qW_at ho, hM]) hc k hk (C.w hlk) (fun _ h9 => h9) hv hdg (kk H locs ls hP hh hS hl)
theorem q_put (C : qC g cc own nL p s m meth c) {o ci k index : Nat} {fs : List Value} {v : Value} {q : vw_C} (ho : o < N) (hM : M o = .inr (ci, fs)) (hc : vwCl[ci]? = some q) (hk : k < q.2.2) (hlk : qw (.fieldLink own index (q.2.1 k).1 (q.2.1 k).2.1 (q.2.1 k).2.2.1)) (hfin : (q.2.1 k).2.2.2 = false) {ty : FieldType} (hd : parseFieldDescriptor (q.2.1 k).2.2.1 = some ty) (hn : narrow ty v = v) (hfit : fits ty v = true) (hl9 : k < fs.length) (hdg : decode cc pc = .ok (.putfield index, 3)) (kk : qR g N hz nL p l e R s m args below meth c cells slots Q (va_up M o (.inr (ci, fs.set k v))) (pc + 3) lv rest) : qR g N hz nL p l e R s m args below meth c cells slots Q M pc lv (v :: .ref (qa g o) :: rest) := by
  intro H locs ls hP hh hS0 hl0
  have hts := qcl_ts (args := args) C hc
  obtain ⟨ty0, hty, hnm⟩ := qcl_t ci q hc
  have hap := va_apart (own := own) hts (fun w hw => hw) ty0 hty hnm C.K hc
  have hD := qW_D g N M
  have he : (qW g N M)[o]? = some (qa g o, .inr (ci, fs)) := by rw [qW_at ho, hM]
  obtain ⟨r, h1, cell, q1, q2, q3, q4⟩ := hP o _ he
  have hr : r = q := Option.some.inj (h1.symm.trans hc)
  subst hr
  obtain ⟨hS, hfc, kC, hkC, hkind⟩ := C.K.1 ci _ hc
  obtain ⟨cf, kf, fi, f, hi, hsl⟩ := hS k hk
  have hlay := hts _ (u_in_lay hk)
  unfold u_lay at hlay
  rw [if_neg (by rw [hfin]; decide)] at hlay
  have hst := (u_facts hfc hkC (u_lays hts (fun w hw => hw) hk) hi).1
  have h6 := u_store hfc hkC hkind hlay hi hd hn hfit
  refine W.putK C.1 C.2.1 (f := f) ⟨C.2.2.2.1, C.w hlk, ⟨_, _, _, hi⟩, hst⟩ (by rw [q2]; exact h6) q1 q3 (by rw [hsl]; exact k2_hasslot (q4 k hk)) rfl rfl hdg fun H' e1 e2 e3 => ?_
  rw [hsl] at e1 ⊢
  have hP' : va_P g.1 vwCl ((qW g N M).set o (qa g o, .inr (ci, fs.set k v))) H' := hP.set hD he ⟨_, hc, t_OB.to (V := updV (vp_V fs) k v) ⟨_, e1, q2, q3, t_set q4 hap hk v⟩ (fun j _ => vp_updV_set hl9 v j)⟩ e3
  rw [qW_set ho] at hP'
  exact kk H' _ ls hP' (by rw [e2]; exact hh) (hS0.put e2 e3 (hD.2 o _ he)) hl0
theorem q_putF (C : qC g cc own nL p s m meth c) {o ci k index : Nat} {fs : List Value} {v : Value} {q : vw_C} (ho : o < N) (hM : M o = .inr (ci, fs)) (hc : vwCl[ci]? = some q) (hk : k < q.2.2) (hlk : qw (.fieldLink own index (q.2.1 k).1 (q.2.1 k).2.1 (q.2.1 k).2.2.1)) (hfin : (q.2.1 k).2.2.2 = true) (hin2 : meth.name = "<init>") (hdecl : (q.2.1 k).1 = own) {ty : FieldType} (hd : parseFieldDescriptor (q.2.1 k).2.2.1 = some ty) (hn : narrow ty v = v) (hfit : fits ty v = true) (hl9 : k < fs.length) (hdg : decode cc pc = .ok (.putfield index, 3)) (kk : qR g N hz nL p l e R s m args below meth c cells slots Q (va_up M o (.inr (ci, fs.set k v))) (pc + 3) lv rest) : qR g N hz nL p l e R s m args below meth c cells slots Q M pc lv (v :: .ref (qa g o) :: rest) := by
  intro H locs ls hP hh hS0 hl0
  have hts := qcl_ts (args := args) C hc
  obtain ⟨ty0, hty, hnm⟩ := qcl_t ci q hc
  have hap := va_apart (own := own) hts (fun w hw => hw) ty0 hty hnm C.K hc
  have hD := qW_D g N M
  have he : (qW g N M)[o]? = some (qa g o, .inr (ci, fs)) := by rw [qW_at ho, hM]
  obtain ⟨r, h1, cell, q1, q2, q3, q4⟩ := hP o _ he
  have hr : r = q := Option.some.inj (h1.symm.trans hc)
  subst hr
  obtain ⟨hS, hfc, kC, hkC, hkind⟩ := C.K.1 ci _ hc
  obtain ⟨cf, kf, fi, f, hi, hsl⟩ := hS k hk
  have hlay := hts _ (u_in_lay hk)
  unfold u_lay at hlay
  rw [if_pos hfin] at hlay
  have hst := (u_facts hfc hkC (u_lays hts (fun w hw => hw) hk) hi).1
  have hcf : m.cls = cf := by
    obtain ⟨_, _, c', _, _, _, -, -, hf', -, -, -, hown2, -⟩ := Cond.laysFinal_spec hlay
    have e1 : c' = cf := by have := hi.symm.trans hf'; simp at this; exact this.1.symm
    rw [hdecl] at hown2
    rw [← e1]; exact Option.some.inj (C.2.2.2.1.symm.trans hown2)
  have h6 := u_fits hfc hkC hkind (Or.inr hlay) hi hd hn hfit
  refine W.putFinK C.1 C.2.1 C.2.2.2.1 (C.w hlk) hi hst hcf hin2 (by rw [q2]; exact h6) q1 q3 (by rw [hsl]; exact k2_hasslot (q4 k hk)) rfl rfl hdg fun H' e1 e2 e3 => ?_
  rw [hsl] at e1 ⊢
  have hP' : va_P g.1 vwCl ((qW g N M).set o (qa g o, .inr (ci, fs.set k v))) H' := hP.set hD he ⟨_, hc, t_OB.to (V := updV (vp_V fs) k v) ⟨_, e1, q2, q3, t_set q4 hap hk v⟩ (fun j _ => vp_updV_set hl9 v j)⟩ e3
  rw [qW_set ho] at hP'
  exact kk H' _ ls hP' (by rw [e2]; exact hh) (hS0.put e2 e3 (hD.2 o _ he)) hl0
/-- an index within, as a test -/
def qin (i : Int32) (n : Nat) : Bool := decide (0 ≤ i) && decide (i.toNatClampNeg < n)
theorem qin_vp {i : Int32} {n : Nat} (h : qin i n = true) : vp_in i n := by
  simp only [qin, Bool.and_eq_true, decide_eq_true_eq] at h
  rintro (q | q)
  · have h1 := Int32.lt_iff_toInt_lt.mp q
    have h2 := Int32.le_iff_toInt_le.mp h.1
    omega
  · omega
theorem q_if {α : Type} {b : Bool} {A : Option α} {r : α} (h : (if b = true then A else none) = some r) : b = true ∧ A = some r := by
  by_cases hb : b = true
  · rw [if_pos hb] at h; exact ⟨hb, h⟩
  · rw [if_neg hb] at h; cases h
theorem q_iald (C : qC g cc own nL p s m meth c) {o n : Nat} {f : Nat → Int32} {i : Int32} (ho : o < N) (hM : M o = .inl (g.2.2.1 0, n, .inl f)) (hin : qin i n = true) (hdg : decode cc pc = .ok (.iaload, 1)) (kk : qR g N hz nL p l e R s m args below meth c cells slots Q M (pc + 1) lv (.int (f i.toNatClampNeg) :: rest)) : qR g N hz nL p l e R s m args below meth c cells slots Q M pc lv (.int i :: .ref (qa g o) :: rest) :=
  fun H locs ls hP hh hS hl => va_iald C.1 C.2.1 C.K hP o 0 (f := f) (n := n) (cA := g.2.2.1 0) (by rw [qW_at ho, hM]) rfl (qin_vp hin) hdg (kk H locs ls hP hh hS hl)
theorem q_zald (C : qC g cc own nL p s m meth c) {o n : Nat} {f : Nat → Int32} {i : Int32} (ho : o < N) (hM : M o = .inl (g.2.2.1 1, n, .inl f)) (hin : qin i n = true) (hdg : decode cc pc = .ok (.baload, 1)) (kk : qR g N hz nL p l e R s m args below meth c cells slots Q M (pc + 1) lv (.int (f i.toNatClampNeg) :: rest)) : qR g N hz nL p l e R s m args below meth c cells slots Q M pc lv (.int i :: .ref (qa g o) :: rest) :=
  fun H locs ls hP hh hS hl => va_zald C.1 C.2.1 C.K hP o 1 (f := f) (n := n) (cA := g.2.2.1 1) (by rw [qW_at ho, hM]) rfl (qin_vp hin) hdg (kk H locs ls hP hh hS hl)
theorem q_cald (C : qC g cc own nL p s m meth c) {o n : Nat} {f : Nat → Int32} {i : Int32} (ho : o < N) (hM : M o = .inl (g.2.2.1 2, n, .inl f)) (hin : qin i n = true) (hdg : decode cc pc = .ok (.caload, 1)) (kk : qR g N hz nL p l e R s m args below meth c cells slots Q M (pc + 1) lv (.int (f i.toNatClampNeg) :: rest)) : qR g N hz nL p l e R s m args below meth c cells slots Q M pc lv (.int i :: .ref (qa g o) :: rest) :=
  fun H locs ls hP hh hS hl => va_cald C.1 C.2.1 C.K hP o 2 (f := f) (n := n) (cA := g.2.2.1 2) (by rw [qW_at ho, hM]) rfl (qin_vp hin) hdg (kk H locs ls hP hh hS hl)
theorem q_iast (C : qC g cc own nL p s m meth c) {o n : Nat} {f : Nat → Int32} {i x : Int32} (ho : o < N) (hM : M o = .inl (g.2.2.1 0, n, .inl f)) (hin : qin i n = true) (hdg : decode cc pc = .ok (.iastore, 1)) (kk : qR g N hz nL p l e R s m args below meth c cells slots Q (va_up M o (.inl (g.2.2.1 0, n, .inl (upd f i.toNatClampNeg x)))) (pc + 1) lv rest) : qR g N hz nL p l e R s m args below meth c cells slots Q M pc lv (.int x :: .int i :: .ref (qa g o) :: rest) := by
  intro H locs ls hP hh hS hl
  have hD := qW_D g N M
  have ha : (qW g N M)[o]? = some (qa g o, .inl (g.2.2.1 0, n, .inl f)) := by rw [qW_at ho, hM]
  refine W.iast C.1 C.2.1 (hP o _ ha) ((C.K.2 0 _ rfl).1 n (fun j => .int (f j))) (fun q => by cases q) (by show ¬ (i < 0 ∨ (arrV _ _ _).slots.size ≤ _); rw [arrV_size]; exact qin_vp hin) rfl rfl hdg fun H1 e z oq => ?_
  have hP' : va_P g.1 vwCl ((qW g N M).set o (qa g o, .inl (g.2.2.1 0, n, .inl (upd f i.toNatClampNeg x)))) H1 := by
    refine hP.set hD ha ?_ oq
    show H1[qa g o]? = some (vp_cell _ _)
    rw [e, vp_cell_i, vp_cell_i, arrV_store]
    congr 2
    funext q
    by_cases hq : q = i.toNatClampNeg
    · subst hq
      simp [updV, upd, vp_nar]
      try rfl
    · simp [updV, upd, hq]
  rw [qW_set ho] at hP'
  exact kk H1 _ ls hP' (by rw [z]; exact hh) (hS.put z oq (hD.2 o _ ha)) hl
theorem q_zast (C : qC g cc own nL p s m meth c) {o n : Nat} {f : Nat → Int32} {i x : Int32} (ho : o < N) (hM : M o = .inl (g.2.2.1 1, n, .inl f)) (hin : qin i n = true) (hdg : decode cc pc = .ok (.bastore, 1)) (kk : qR g N hz nL p l e R s m args below meth c cells slots Q (va_up M o (.inl (g.2.2.1 1, n, .inl (upd f i.toNatClampNeg (vp_nar .boolean x))))) (pc + 1) lv rest) : qR g N hz nL p l e R s m args below meth c cells slots Q M pc lv (.int x :: .int i :: .ref (qa g o) :: rest) := by
  intro H locs ls hP hh hS hl
  have hD := qW_D g N M
  have ha : (qW g N M)[o]? = some (qa g o, .inl (g.2.2.1 1, n, .inl f)) := by rw [qW_at ho, hM]
  refine W.zast C.1 C.2.1 (hP o _ ha) ((C.K.2 1 _ rfl).1 n (fun j => .int (f j))) (fun q => by cases q) (by show ¬ (i < 0 ∨ (arrV _ _ _).slots.size ≤ _); rw [arrV_size]; exact qin_vp hin) rfl rfl hdg fun H1 e z oq => ?_
  have hP' : va_P g.1 vwCl ((qW g N M).set o (qa g o, .inl (g.2.2.1 1, n, .inl (upd f i.toNatClampNeg (vp_nar .boolean x))))) H1 := by
    refine hP.set hD ha ?_ oq
    show H1[qa g o]? = some (vp_cell _ _)
    rw [e, vp_cell_i, vp_cell_i, arrV_store]
    congr 2
    funext q
    by_cases hq : q = i.toNatClampNeg
    · subst hq
      simp [updV, upd, vp_nar]
      try rfl
    · simp [updV, upd, hq]
  rw [qW_set ho] at hP'
  exact kk H1 _ ls hP' (by rw [z]; exact hh) (hS.put z oq (hD.2 o _ ha)) hl
theorem q_cast (C : qC g cc own nL p s m meth c) {o n : Nat} {f : Nat → Int32} {i x : Int32} (ho : o < N) (hM : M o = .inl (g.2.2.1 2, n, .inl f)) (hin : qin i n = true) (hdg : decode cc pc = .ok (.castore, 1)) (kk : qR g N hz nL p l e R s m args below meth c cells slots Q (va_up M o (.inl (g.2.2.1 2, n, .inl (upd f i.toNatClampNeg (vp_nar .char x))))) (pc + 1) lv rest) : qR g N hz nL p l e R s m args below meth c cells slots Q M pc lv (.int x :: .int i :: .ref (qa g o) :: rest) := by
  intro H locs ls hP hh hS hl
  have hD := qW_D g N M
  have ha : (qW g N M)[o]? = some (qa g o, .inl (g.2.2.1 2, n, .inl f)) := by rw [qW_at ho, hM]
  refine W.cast C.1 C.2.1 (hP o _ ha) ((C.K.2 2 _ rfl).1 n (fun j => .int (f j))) (fun q => by cases q) (by show ¬ (i < 0 ∨ (arrV _ _ _).slots.size ≤ _); rw [arrV_size]; exact qin_vp hin) rfl rfl hdg fun H1 e z oq => ?_
  have hP' : va_P g.1 vwCl ((qW g N M).set o (qa g o, .inl (g.2.2.1 2, n, .inl (upd f i.toNatClampNeg (vp_nar .char x))))) H1 := by
    refine hP.set hD ha ?_ oq
    show H1[qa g o]? = some (vp_cell _ _)
    rw [e, vp_cell_i, vp_cell_i, arrV_store]
    congr 2
    funext q
    by_cases hq : q = i.toNatClampNeg
    · subst hq
      simp [updV, upd, vp_nar]
      try rfl
    · simp [updV, upd, hq]
  rw [qW_set ho] at hP'
  exact kk H1 _ ls hP' (by rw [z]; exact hh) (hS.put z oq (hD.2 o _ ha)) hl
theorem q_lald (C : qC g cc own nL p s m meth c) {o n : Nat} {f : Nat → Int64} {i : Int32} (ho : o < N) (hM : M o = .inl (g.2.2.1 3, n, .inr (.inl f))) (hin : qin i n = true) (hdg : decode cc pc = .ok (.laload, 1)) (kk : qR g N hz nL p l e R s m args below meth c cells slots Q M (pc + 1) lv (.long (f i.toNatClampNeg) :: rest)) : qR g N hz nL p l e R s m args below meth c cells slots Q M pc lv (.int i :: .ref (qa g o) :: rest) :=
  fun H locs ls hP hh hS hl => va_lald C.1 C.2.1 C.K hP o 3 (f := f) (n := n) (cA := g.2.2.1 3) (by rw [qW_at ho, hM]) rfl (qin_vp hin) hdg (kk H locs ls hP hh hS hl)
theorem q_last (C : qC g cc own nL p s m meth c) {o n : Nat} {f : Nat → Int64} {i : Int32} {x : Int64} (ho : o < N) (hM : M o = .inl (g.2.2.1 3, n, .inr (.inl f))) (hin : qin i n = true) (hz9 : hz = fun _ => True) (hdg : decode cc pc = .ok (.lastore, 1)) (kk : qR g N hz nL p l e R s m args below meth c cells slots Q (va_up M o (.inl (g.2.2.1 3, n, .inr (.inl (vp_updL f i.toNatClampNeg x))))) (pc + 1) lv rest) : qR g N hz nL p l e R s m args below meth c cells slots Q M pc lv (.long x :: .int i :: .ref (qa g o) :: rest) := by
  intro H locs ls hP hh hS hl
  refine va_last C.1 C.2.1 C.K hP (qW_D g N M) hS o 3 (f := f) (n := n) (cA := g.2.2.1 3) (by rw [qW_at ho, hM]) rfl (qin_vp hin) hdg fun H1 locs1 hP1 hD1 hS1 => ?_
  have hP1 : va_P g.1 vwCl ((qW g N M).set o (qa g o, .inl (g.2.2.1 3, n, .inr (.inl (vp_updL f i.toNatClampNeg x))))) H1 := hP1
  rw [qW_set ho] at hP1
  exact kk H1 locs1 ls hP1 (by rw [hz9]; trivial) hS1 hl
theorem q_aald (C : qC g cc own nL p s m meth c) {o n v : Nat} {f : Nat → Option Nat} {i : Int32} (ho : o < N) (hM : M o = .inl (g.2.2.1 4, n, .inr (.inr (.inr (.inr f))))) (hin : qin i n = true) (hf : f i.toNatClampNeg = some v) (hdg : decode cc pc = .ok (.aaload, 1)) (kk : qR g N hz nL p l e R s m args below meth c cells slots Q M (pc + 1) lv (.ref v :: rest)) : qR g N hz nL p l e R s m args below meth c cells slots Q M pc lv (.int i :: .ref (qa g o) :: rest) :=
  fun H locs ls hP hh hS hl => va_aldq C.1 C.2.1 C.K hP o 4 (C := RX5) (f := f) (n := n) (cA := g.2.2.1 4) (by rw [qW_at ho, hM]) rfl (qin_vp hin) hdg (by rw [hf]; exact kk H locs ls hP hh hS hl)
theorem q_aast (C : qC g cc own nL p s m meth c) {o n ci ov : Nat} {q : vw_C} {vs : List Value} {f : Nat → Option Nat} {i : Int32} (ho : o < N) (hM : M o = .inl (g.2.2.1 4, n, .inr (.inr (.inr (.inr f))))) (hov : ov < N) (hMv : M ov = .inr (ci, vs)) (hc : vwCl[ci]? = some q) (hq : q.1 = RX5) (hin : qin i n = true) (hdg : decode cc pc = .ok (.aastore, 1)) (kk : qR g N hz nL p l e R s m args below meth c cells slots Q (va_up M o (.inl (g.2.2.1 4, n, .inr (.inr (.inr (.inr (va_up f i.toNatClampNeg (some (qa g ov))))))))) (pc + 1) lv rest) : qR g N hz nL p l e R s m args below meth c cells slots Q M pc lv (.ref (qa g ov) :: .int i :: .ref (qa g o) :: rest) := by
  intro H locs ls hP hh hS hl
  have hin := qin_vp hin
  have hlt : i.toNatClampNeg < n := Nat.not_le.mp fun q => hin (Or.inr q)
  have h0 : ¬ i < 0 := fun q => hin (Or.inl q)
  have hD := qW_D g N M
  have ha : (qW g N M)[o]? = some (qa g o, .inl (g.2.2.1 4, n, .inr (.inr (.inr (.inr f))))) := by rw [qW_at ho, hM]
  obtain ⟨r', hr', cellV, g1, g2, g3, -⟩ := hP ov (qa g ov, .inr (ci, vs)) (by rw [qW_at hov, hMv])
  have hcls := (C.K.1 ci q hc).2
  obtain ⟨kA, comp, k1, k2, k3, -⟩ := (C.K.2 4 (g.2.2.1 4, .object RX5) rfl).2
  rw [← hq] at k3
  have hcomp : comp = g.1.1 ci := Option.some.inj (k3.symm.trans hcls.1)
  subst hcomp
  obtain ⟨kC, hkC, -⟩ := hcls.2
  refine W.aast C.1 C.2.1 (hP o _ ha) (fun q h => by cases h) (fun h => by cases h) k1 k2 rfl hkC ⟨h0, by show _ < (arrV _ _ _).slots.size; rw [arrV_size]; exact hlt⟩ g1 (fun q h => by rw [g3] at h; cases h) (by rw [g2]; exact hkC) (by rw [g2]; exact va_assign hcls) rfl rfl hdg fun H1 e z oq => ?_
  have hP' : va_P g.1 vwCl ((qW g N M).set o (qa g o, .inl (g.2.2.1 4, n, .inr (.inr (.inr (.inr (va_up f i.toNatClampNeg (some (qa g ov))))))))) H1 := by
    refine hP.set hD ha ?_ oq
    show H1[qa g o]? = some (vp_cell _ _)
    rw [e, vp_cell_q, vp_cell_q, arrV_store]
    congr 2
    funext q
    by_cases hq : q = i.toNatClampNeg
    · subst hq
      simp [updV, va_up, va_rf]
    · simp [updV, va_up, hq]
  rw [qW_set ho] at hP'
  exact kk H1 _ ls hP' (by rw [z]; exact hh) (hS.put z oq (hD.2 o _ ha)) hl
end QLA
end
section
/-! CONTRACTS: from the places' contents M to M', with an answer r0 -/
def qE (g : qG) (N : Nat) (hz : Nat → Prop) (M : Nat → va_E) (t : State) : Prop := va_P g.1 vwCl (qW g N M) t.heap ∧ hz t.heap.size
def qPc (g : qG) (N : Nat) (hz : Nat → Prop) (M : Nat → va_E) (av : List Value) : Array Value → State → Prop := va_Pc av (fun U => qI g U U.heap ∧ qE g N hz M U ∧ g.2.1 ≤ U.heap.size)
def qQi (g : qG) (N : Nat) (hz : Nat → Prop) (M : Nat → va_E) (r0 : Int32) : Array Value → State → Outcome → State → Prop := va_Qi (S := Unit) (fun r _ => r = r0) (fun _ t => qE g N hz M t) (qA g)
def qQl (g : qG) (N : Nat) (hz : Nat → Prop) (M : Nat → va_E) (r0 : Int64) : Array Value → State → Outcome → State → Prop := va_Ql (S := Unit) (fun r _ => r = r0) (fun _ t => qE g N hz M t) (qA g)
def qQv (g : qG) (N : Nat) (hz : Nat → Prop) (M : Nat → va_E) : Array Value → State → Outcome → State → Prop := va_Qv (S := Unit) (fun _ => True) (fun _ t => qE g N hz M t) (qA g)
def qQr (g : qG) (N : Nat) (hz : Nat → Prop) (M : Nat → va_E) (a0 : Nat) : Array Value → State → Outcome → State → Prop := va_Qr (S := Unit) (fun _ => True) (fun _ a t => a = a0 ∧ qE g N hz M t) (qA g)
theorem qPc_blind (g : qG) (N : Nat) (hz : Nat → Prop) (M : Nat → va_E) (av : List Value) : FrameBlind (qPc g N hz M av) := by
  intro a U f mk ⟨h1, h2, h3, h4⟩
  exact ⟨h1, h2.step (U := U.calling f mk a) (State.WarmedH.refl U) (fun _ _ _ => rfl), h3, h4⟩
/-- how a method of the system is called: by its class's own link -/
def qLV (own : String) (index : Nat) (y : MethodName) (bytes : ByteArray) (maxL : Nat) (ret : Option FieldType) (n : Nat) : Prop :=
  qw (.methodLink own index y) ∧ qw (.instanceMethod y) ∧ qw (.selects y.cls y y) ∧ qw (.initialized y.cls) ∧ qw (.code y bytes maxL ret) ∧ (y.cls ≠ "java/lang/invoke/MethodHandle" ∧ y.cls ≠ "java/lang/invoke/VarHandle") ∧ (parseMethodDescriptor y.desc).map (fun d => d.parameters.length) = some n
def qLS (own : String) (index : Nat) (y : MethodName) (bytes : ByteArray) (maxL : Nat) (ret : Option FieldType) (n : Nat) : Prop :=
  qw (.methodLink own index y) ∧ qw (.static y) ∧ qw (.initialized y.cls) ∧ qw (.code y bytes maxL ret) ∧ (y.cls ≠ "java/lang/invoke/MethodHandle" ∧ y.cls ≠ "java/lang/invoke/VarHandle") ∧ (parseMethodDescriptor y.desc).map (fun d => d.parameters.length) = some n
/-- .. by a nest mate's -/
def qLSN (own host : String) (index : Nat) (y : MethodName) (bytes : ByteArray) (maxL : Nat) (ret : Option FieldType) (n : Nat) : Prop :=
  (own, index, y, host) ∈ qNest ∧ qw (.static y) ∧ qw (.initialized y.cls) ∧ qw (.code y bytes maxL ret) ∧ (y.cls ≠ "java/lang/invoke/MethodHandle" ∧ y.cls ≠ "java/lang/invoke/VarHandle") ∧ (parseMethodDescriptor y.desc).map (fun d => d.parameters.length) = some n
def qLIN (own host : String) (index : Nat) (y : MethodName) (bytes : ByteArray) (maxL : Nat) (n : Nat) : Prop :=
  (own, index, y, host) ∈ qNest ∧ y.name = "<init>" ∧ qw (.instanceMethod y) ∧ qw (.initialized y.cls) ∧ qw (.code y bytes maxL none) ∧ (y.cls ≠ "java/lang/invoke/MethodHandle" ∧ y.cls ≠ "java/lang/invoke/VarHandle") ∧ (parseMethodDescriptor y.desc).map (fun d => d.parameters.length) = some n
def qLI (own : String) (index : Nat) (y : MethodName) (bytes : ByteArray) (maxL : Nat) (n : Nat) : Prop :=
  qw (.methodLink own index y) ∧ y.name = "<init>" ∧ qw (.instanceMethod y) ∧ qw (.initialized y.cls) ∧ qw (.code y bytes maxL none) ∧ (y.cls ≠ "java/lang/invoke/MethodHandle" ∧ y.cls ≠ "java/lang/invoke/VarHandle") ∧ (parseMethodDescriptor y.desc).map (fun d => d.parameters.length) = some n
/-- the room that a callee asks -/
def qRm (rm R : Room) (maxL cells slots mc ms : Nat) : Prop := rm.cells = mc ∧ rm.slots = ms ∧ rm.frames + 1 ≤ R.frames ∧ 8 + (maxL + 11) + rm.locals ≤ R.locals ∧ cells + mc ≤ R.cells ∧ slots + ms ≤ R.slots
section QLB
variable {g : qG} {N : Nat} {hz : Nat → Prop} {nL : Nat} {p : Program} {l : Launch} {e : Env} {R : Room} {s : State} {m : MethodId} {args : Array Value} {below : List Frame} {meth : Method} {c : Code} {cells slots : Nat} {Q : State → Prop} {M : Nat → va_E} {pc : Nat} {lv : List (Nat × Value)} {rest : List Value} {cc : ByteArray} {own : String}
theorem qC.at {H : Heap} {locs : List Loc} (C : qC g cc own nL p s m meth c) (hP : va_P g.1 vwCl (qW g N M) H) (hh : hz H.size) (hS : va_S (qA g) s.heap H locs) (av : List Value) : ∀ U : State, U.heap = H → s.WarmedH U.vm → qPc g N hz M av av.toArray U := by
  intro U hU hW
  refine ⟨rfl, C.2.2.2.2.2.1.step hW (fun a h1 h2 => by rw [hU]; exact hS.2.1 a h1 h2), ⟨by rw [hU]; exact hP, by rw [hU]; exact hh⟩, by rw [hU]; exact Nat.le_trans C.2.2.2.2.2.2 hS.1⟩
theorem qLen {y : MethodName} {n : Nat} (h : (parseMethodDescriptor y.desc).map (fun d => d.parameters.length) = some n) : ∀ sig, parseMethodDescriptor y.desc = some sig → n = sig.parameters.length := by
  intro sig hs
  rw [hs] at h
  exact (Option.some.inj h).symm
theorem qLV.cw {index maxL n mc ms : Nat} {y : MethodName} {bytes : ByteArray} {ret : Option FieldType} {rm : Room} (C : qC g cc own nL p s m meth c) (L : qLV own index y bytes maxL ret n) (hrm : qRm rm R maxL cells slots mc ms) : CallW R s args own y.cls index y bytes maxL ret [.code y bytes maxL ret] rm mc ms n := by
  obtain ⟨l1, l2, l3, l4, l5, l6, l7⟩ := L
  exact ⟨⟨hrm.1, hrm.2.1, hrm.2.2.1, hrm.2.2.2.1, fun w hw a' U hW => word_at hW (good_of_word (by rw [List.mem_singleton.mp hw]; exact l5.2)) (C.w (args := args) (by rw [List.mem_singleton.mp hw]; exact l5)), List.mem_cons_self, C.w l5, C.w l4, l6, qLen l7, C.w l1⟩, C.w l2, C.w l3⟩
theorem qLS.cw {index maxL n mc ms : Nat} {y : MethodName} {bytes : ByteArray} {ret : Option FieldType} {rm : Room} (C : qC g cc own nL p s m meth c) (L : qLS own index y bytes maxL ret n) (hrm : qRm rm R maxL cells slots mc ms) : CallB R s args own index y bytes maxL ret [.code y bytes maxL ret] rm mc ms n ∧ (Cond.static y).before args s = true := by
  obtain ⟨l1, l2, l4, l5, l6, l7⟩ := L
  exact ⟨⟨hrm.1, hrm.2.1, hrm.2.2.1, hrm.2.2.2.1, fun w hw a' U hW => word_at hW (good_of_word (by rw [List.mem_singleton.mp hw]; exact l5.2)) (C.w (args := args) (by rw [List.mem_singleton.mp hw]; exact l5)), List.mem_cons_self, C.w l5, C.w l4, l6, qLen l7, C.w l1⟩, C.w l2⟩
theorem qLI.cw {index maxL n mc ms : Nat} {y : MethodName} {bytes : ByteArray} {rm : Room} (C : qC g cc own nL p s m meth c) (L : qLI own index y bytes maxL n) (hrm : qRm rm R maxL cells slots mc ms) : CallB R s args own index y bytes maxL none [.code y bytes maxL none] rm mc ms n ∧ y.name = "<init>" ∧ (Cond.instanceMethod y).before args s = true := by
  obtain ⟨l1, l2, l3, l4, l5, l6, l7⟩ := L
  exact ⟨⟨hrm.1, hrm.2.1, hrm.2.2.1, hrm.2.2.2.1, fun w hw a' U hW => word_at hW (good_of_word (by rw [List.mem_singleton.mp hw]; exact l5.2)) (C.w (args := args) (by rw [List.mem_singleton.mp hw]; exact l5)), List.mem_cons_self, C.w l5, C.w l4, l6, qLen l7, C.w l1⟩, l2, C.w l3⟩
theorem qLSN.cw {host : String} {index maxL n mc ms : Nat} {y : MethodName} {bytes : ByteArray} {ret : Option FieldType} {rm : Room} (C : qC g cc own nL p s m meth c) (L : qLSN own host index y bytes maxL ret n) (hrm : qRm rm R maxL cells slots mc ms) : va_CN R s args own index y host bytes maxL ret [.code y bytes maxL ret] rm mc ms n ∧ (Cond.static y).before args s = true ∧ True := by
  obtain ⟨l1, l2, l4, l5, l6, l7⟩ := L
  exact ⟨⟨⟨hrm.1, hrm.2.1, hrm.2.2.1, hrm.2.2.2.1, fun w hw a' U hW => word_at hW (good_of_word (by rw [List.mem_singleton.mp hw]; exact l5.2)) (C.w (args := args) (by rw [List.mem_singleton.mp hw]; exact l5)), List.mem_cons_self⟩, C.w l5, C.w l4, l6, qLen l7, va_Nw.use rfl (C.2.2.2.2.2.1.2.2.1 _ l1)⟩, C.w l2, trivial⟩
theorem qLIN.cw {host : String} {index maxL n mc ms : Nat} {y : MethodName} {bytes : ByteArray} {rm : Room} (C : qC g cc own nL p s m meth c) (L : qLIN own host index y bytes maxL n) (hrm : qRm rm R maxL cells slots mc ms) : va_CN R s args own index y host bytes maxL none [.code y bytes maxL none] rm mc ms n ∧ y.name = "<init>" ∧ (Cond.instanceMethod y).before args s = true := by
  obtain ⟨l1, l2, l3, l4, l5, l6, l7⟩ := L
  exact ⟨⟨⟨hrm.1, hrm.2.1, hrm.2.2.1, hrm.2.2.2.1, fun w hw a' U hW => word_at hW (good_of_word (by rw [List.mem_singleton.mp hw]; exact l5.2)) (C.w (args := args) (by rw [List.mem_singleton.mp hw]; exact l5)), List.mem_cons_self⟩, C.w l5, C.w l4, l6, qLen l7, va_Nw.use rfl (C.2.2.2.2.2.1.2.2.1 _ l1)⟩, l2, C.w l3⟩
theorem q_callVi (C : qC g cc own nL p s m meth c) {y : MethodName} {bytes : ByteArray} {rm : Room} {maxL n mc ms index N1 : Nat} {hz1 : Nat → Prop} {M1 : Nat → va_E} {As st0 : List Value} {ret : Option FieldType}  {o ci : Nat} {fs : List Value} {q : vw_C} (ho : o < N) (hMo : M o = .inr (ci, fs)) (hc : vwCl[ci]? = some q) (hq : q.1 = y.cls) {r0 : Int32} (hM : Met l y [.code y bytes maxL ret] rm (qPc g N hz M (.ref (qa g o) :: As)) (qQi g N1 hz1 M1 r0) mc ms (qA g)) (L : qLV own index y bytes maxL ret n) (hn : As.length = n) (hst : st0 = As.reverse ++ .ref (qa g o) :: rest) (hcat : (rest.map fun v => v.category).sum ≤ 8) (hdg : decode cc pc = .ok (.invokevirtual index, 3)) (hrm : qRm rm R maxL cells slots mc ms) (k : qR g N1 hz1 nL p l e R s m args below meth c (cells + mc) (slots + ms) Q M1 (pc + 3) lv (.int r0 :: rest)) : qR g N hz nL p l e R s m args below meth c cells slots Q M pc lv st0 := by
  intro H locs ls hP hh hS hl
  refine va_calli (va_runV (As := As) (rest := rest) (Ts := []) ⟨C.1, C.2.1, C.2.2.1, C.2.2.2.1, fun w h => nomatch h⟩ hM (L.cw (R := R) (args := args) C hrm) ⟨qPc_blind _ _ _ _ _, hq ▸ va_recv C.K hP (q0 := o) (fs := fs) hc (by rw [qW_at ho, hMo]), C.at hP hh hS _⟩ rfl hn hl.1 hst (lv_room hcat) hdg ⟨hrm.2.2.2.2.1, hrm.2.2.2.2.2⟩) hS (fun q _ h => h) (fun q h => h) (fun r u t H1 locs1 ht hvm hw hB hz0 hk1 hS1 => by subst hw; rw [← ht] at hS1 ⊢; exact k _ _ ls hB.1 hB.2 hS1 hl)

theorem q_callVl (C : qC g cc own nL p s m meth c) {y : MethodName} {bytes : ByteArray} {rm : Room} {maxL n mc ms index N1 : Nat} {hz1 : Nat → Prop} {M1 : Nat → va_E} {As st0 : List Value} {ret : Option FieldType}  {o ci : Nat} {fs : List Value} {q : vw_C} (ho : o < N) (hMo : M o = .inr (ci, fs)) (hc : vwCl[ci]? = some q) (hq : q.1 = y.cls) {r0 : Int64} (hM : Met l y [.code y bytes maxL ret] rm (qPc g N hz M (.ref (qa g o) :: As)) (qQl g N1 hz1 M1 r0) mc ms (qA g)) (L : qLV own index y bytes maxL ret n) (hn : As.length = n) (hst : st0 = As.reverse ++ .ref (qa g o) :: rest) (hcat : (rest.map fun v => v.category).sum ≤ 8) (hdg : decode cc pc = .ok (.invokevirtual index, 3)) (hrm : qRm rm R maxL cells slots mc ms) (k : qR g N1 hz1 nL p l e R s m args below meth c (cells + mc) (slots + ms) Q M1 (pc + 3) lv (.long r0 :: rest)) : qR g N hz nL p l e R s m args below meth c cells slots Q M pc lv st0 := by
  intro H locs ls hP hh hS hl
  refine va_calll (va_runV (As := As) (rest := rest) (Ts := []) ⟨C.1, C.2.1, C.2.2.1, C.2.2.2.1, fun w h => nomatch h⟩ hM (L.cw (R := R) (args := args) C hrm) ⟨qPc_blind _ _ _ _ _, hq ▸ va_recv C.K hP (q0 := o) (fs := fs) hc (by rw [qW_at ho, hMo]), C.at hP hh hS _⟩ rfl hn hl.1 hst (lv_room hcat) hdg ⟨hrm.2.2.2.2.1, hrm.2.2.2.2.2⟩) hS (fun q _ h => h) (fun q h => h) (fun r u t H1 locs1 ht hvm hw hB hz0 hk1 hS1 => by subst hw; rw [← ht] at hS1 ⊢; exact k _ _ ls hB.1 hB.2 hS1 hl)

theorem q_callVv (C : qC g cc own nL p s m meth c) {y : MethodName} {bytes : ByteArray} {rm : Room} {maxL n mc ms index N1 : Nat} {hz1 : Nat → Prop} {M1 : Nat → va_E} {As st0 : List Value} {ret : Option FieldType}  {o ci : Nat} {fs : List Value} {q : vw_C} (ho : o < N) (hMo : M o = .inr (ci, fs)) (hc : vwCl[ci]? = some q) (hq : q.1 = y.cls) (hM : Met l y [.code y bytes maxL ret] rm (qPc g N hz M (.ref (qa g o) :: As)) (qQv g N1 hz1 M1) mc ms (qA g)) (L : qLV own index y bytes maxL ret n) (hn : As.length = n) (hst : st0 = As.reverse ++ .ref (qa g o) :: rest) (hcat : (rest.map fun v => v.category).sum ≤ 8) (hdg : decode cc pc = .ok (.invokevirtual index, 3)) (hrm : qRm rm R maxL cells slots mc ms) (k : qR g N1 hz1 nL p l e R s m args below meth c (cells + mc) (slots + ms) Q M1 (pc + 3) lv rest) : qR g N hz nL p l e R s m args below meth c cells slots Q M pc lv st0 := by
  intro H locs ls hP hh hS hl
  refine va_callv (va_runV (As := As) (rest := rest) (Ts := []) ⟨C.1, C.2.1, C.2.2.1, C.2.2.2.1, fun w h => nomatch h⟩ hM (L.cw (R := R) (args := args) C hrm) ⟨qPc_blind _ _ _ _ _, hq ▸ va_recv C.K hP (q0 := o) (fs := fs) hc (by rw [qW_at ho, hMo]), C.at hP hh hS _⟩ rfl hn hl.1 hst (lv_room hcat) hdg ⟨hrm.2.2.2.2.1, hrm.2.2.2.2.2⟩) hS (fun q _ h => h) (fun q h => h) (fun u t H1 locs1 ht hvm hw hB hz0 hk1 hS1 => by rw [← ht] at hS1 ⊢; exact k _ _ ls hB.1 hB.2 hS1 hl)

theorem q_callVr (C : qC g cc own nL p s m meth c) {y : MethodName} {bytes : ByteArray} {rm : Room} {maxL n mc ms index N1 : Nat} {hz1 : Nat → Prop} {M1 : Nat → va_E} {As st0 : List Value} {ret : Option FieldType}  {o ci : Nat} {fs : List Value} {q : vw_C} (ho : o < N) (hMo : M o = .inr (ci, fs)) (hc : vwCl[ci]? = some q) (hq : q.1 = y.cls) {r0 : Nat} (hM : Met l y [.code y bytes maxL ret] rm (qPc g N hz M (.ref (qa g o) :: As)) (qQr g N1 hz1 M1 r0) mc ms (qA g)) (L : qLV own index y bytes maxL ret n) (hn : As.length = n) (hst : st0 = As.reverse ++ .ref (qa g o) :: rest) (hcat : (rest.map fun v => v.category).sum ≤ 8) (hdg : decode cc pc = .ok (.invokevirtual index, 3)) (hrm : qRm rm R maxL cells slots mc ms) (k : qR g N1 hz1 nL p l e R s m args below meth c (cells + mc) (slots + ms) Q M1 (pc + 3) lv (.ref r0 :: rest)) : qR g N hz nL p l e R s m args below meth c cells slots Q M pc lv st0 := by
  intro H locs ls hP hh hS hl
  refine va_callr (va_runV (As := As) (rest := rest) (Ts := []) ⟨C.1, C.2.1, C.2.2.1, C.2.2.2.1, fun w h => nomatch h⟩ hM (L.cw (R := R) (args := args) C hrm) ⟨qPc_blind _ _ _ _ _, hq ▸ va_recv C.K hP (q0 := o) (fs := fs) hc (by rw [qW_at ho, hMo]), C.at hP hh hS _⟩ rfl hn hl.1 hst (lv_room hcat) hdg ⟨hrm.2.2.2.2.1, hrm.2.2.2.2.2⟩) hS (fun q _ h => h) (fun q h => h) (fun u ra t H1 locs1 ht hvm hw hB hz0 hk1 hS1 => by obtain ⟨hra, hB⟩ := hB; subst hra; rw [← ht] at hS1 ⊢; exact k _ _ ls hB.1 hB.2 hS1 hl)

theorem q_callSi (C : qC g cc own nL p s m meth c) {y : MethodName} {bytes : ByteArray} {rm : Room} {maxL n mc ms index N1 : Nat} {hz1 : Nat → Prop} {M1 : Nat → va_E} {As st0 : List Value} {ret : Option FieldType}  {r0 : Int32} (hM : Met l y [.code y bytes maxL ret] rm (qPc g N hz M As) (qQi g N1 hz1 M1 r0) mc ms (qA g)) (L : qLS own index y bytes maxL ret n) (hn : As.length = n) (hst : st0 = As.reverse ++ rest) (hcat : (rest.map fun v => v.category).sum ≤ 8) (hdg : decode cc pc = .ok (.invokestatic index, 3)) (hrm : qRm rm R maxL cells slots mc ms) (k : qR g N1 hz1 nL p l e R s m args below meth c (cells + mc) (slots + ms) Q M1 (pc + 3) lv (.int r0 :: rest)) : qR g N hz nL p l e R s m args below meth c cells slots Q M pc lv st0 := by
  intro H locs ls hP hh hS hl
  refine va_calli (va_runS (As := As) (rest := rest) (Ts := []) ⟨C.1, C.2.1, C.2.2.1, C.2.2.2.1, fun w h => nomatch h⟩ hM (L.cw (R := R) (args := args) C hrm) ⟨qPc_blind _ _ _ _ _, C.at hP hh hS _⟩ rfl hn hl.1 hst (lv_room hcat) hdg ⟨hrm.2.2.2.2.1, hrm.2.2.2.2.2⟩) hS (fun q _ h => h) (fun q h => h) (fun r u t H1 locs1 ht hvm hw hB hz0 hk1 hS1 => by subst hw; rw [← ht] at hS1 ⊢; exact k _ _ ls hB.1 hB.2 hS1 hl)

theorem q_callSl (C : qC g cc own nL p s m meth c) {y : MethodName} {bytes : ByteArray} {rm : Room} {maxL n mc ms index N1 : Nat} {hz1 : Nat → Prop} {M1 : Nat → va_E} {As st0 : List Value} {ret : Option FieldType}  {r0 : Int64} (hM : Met l y [.code y bytes maxL ret] rm (qPc g N hz M As) (qQl g N1 hz1 M1 r0) mc ms (qA g)) (L : qLS own index y bytes maxL ret n) (hn : As.length = n) (hst : st0 = As.reverse ++ rest) (hcat : (rest.map fun v => v.category).sum ≤ 8) (hdg : decode cc pc = .ok (.invokestatic index, 3)) (hrm : qRm rm R maxL cells slots mc ms) (k : qR g N1 hz1 nL p l e R s m args below meth c (cells + mc) (slots + ms) Q M1 (pc + 3) lv (.long r0 :: rest)) : qR g N hz nL p l e R s m args below meth c cells slots Q M pc lv st0 := by
  intro H locs ls hP hh hS hl
  refine va_calll (va_runS (As := As) (rest := rest) (Ts := []) ⟨C.1, C.2.1, C.2.2.1, C.2.2.2.1, fun w h => nomatch h⟩ hM (L.cw (R := R) (args := args) C hrm) ⟨qPc_blind _ _ _ _ _, C.at hP hh hS _⟩ rfl hn hl.1 hst (lv_room hcat) hdg ⟨hrm.2.2.2.2.1, hrm.2.2.2.2.2⟩) hS (fun q _ h => h) (fun q h => h) (fun r u t H1 locs1 ht hvm hw hB hz0 hk1 hS1 => by subst hw; rw [← ht] at hS1 ⊢; exact k _ _ ls hB.1 hB.2 hS1 hl)

theorem q_callSv (C : qC g cc own nL p s m meth c) {y : MethodName} {bytes : ByteArray} {rm : Room} {maxL n mc ms index N1 : Nat} {hz1 : Nat → Prop} {M1 : Nat → va_E} {As st0 : List Value} {ret : Option FieldType}  (hM : Met l y [.code y bytes maxL ret] rm (qPc g N hz M As) (qQv g N1 hz1 M1) mc ms (qA g)) (L : qLS own index y bytes maxL ret n) (hn : As.length = n) (hst : st0 = As.reverse ++ rest) (hcat : (rest.map fun v => v.category).sum ≤ 8) (hdg : decode cc pc = .ok (.invokestatic index, 3)) (hrm : qRm rm R maxL cells slots mc ms) (k : qR g N1 hz1 nL p l e R s m args below meth c (cells + mc) (slots + ms) Q M1 (pc + 3) lv rest) : qR g N hz nL p l e R s m args below meth c cells slots Q M pc lv st0 := by
  intro H locs ls hP hh hS hl
  refine va_callv (va_runS (As := As) (rest := rest) (Ts := []) ⟨C.1, C.2.1, C.2.2.1, C.2.2.2.1, fun w h => nomatch h⟩ hM (L.cw (R := R) (args := args) C hrm) ⟨qPc_blind _ _ _ _ _, C.at hP hh hS _⟩ rfl hn hl.1 hst (lv_room hcat) hdg ⟨hrm.2.2.2.2.1, hrm.2.2.2.2.2⟩) hS (fun q _ h => h) (fun q h => h) (fun u t H1 locs1 ht hvm hw hB hz0 hk1 hS1 => by rw [← ht] at hS1 ⊢; exact k _ _ ls hB.1 hB.2 hS1 hl)

theorem q_callSr (C : qC g cc own nL p s m meth c) {y : MethodName} {bytes : ByteArray} {rm : Room} {maxL n mc ms index N1 : Nat} {hz1 : Nat → Prop} {M1 : Nat → va_E} {As st0 : List Value} {ret : Option FieldType}  {r0 : Nat} (hM : Met l y [.code y bytes maxL ret] rm (qPc g N hz M As) (qQr g N1 hz1 M1 r0) mc ms (qA g)) (L : qLS own index y bytes maxL ret n) (hn : As.length = n) (hst : st0 = As.reverse ++ rest) (hcat : (rest.map fun v => v.category).sum ≤ 8) (hdg : decode cc pc = .ok (.invokestatic index, 3)) (hrm : qRm rm R maxL cells slots mc ms) (k : qR g N1 hz1 nL p l e R s m args below meth c (cells + mc) (slots + ms) Q M1 (pc + 3) lv (.ref r0 :: rest)) : qR g N hz nL p l e R s m args below meth c cells slots Q M pc lv st0 := by
  intro H locs ls hP hh hS hl
  refine va_callr (va_runS (As := As) (rest := rest) (Ts := []) ⟨C.1, C.2.1, C.2.2.1, C.2.2.2.1, fun w h => nomatch h⟩ hM (L.cw (R := R) (args := args) C hrm) ⟨qPc_blind _ _ _ _ _, C.at hP hh hS _⟩ rfl hn hl.1 hst (lv_room hcat) hdg ⟨hrm.2.2.2.2.1, hrm.2.2.2.2.2⟩) hS (fun q _ h => h) (fun q h => h) (fun u ra t H1 locs1 ht hvm hw hB hz0 hk1 hS1 => by obtain ⟨hra, hB⟩ := hB; subst hra; rw [← ht] at hS1 ⊢; exact k _ _ ls hB.1 hB.2 hS1 hl)

theorem q_callSNi (C : qC g cc own nL p s m meth c) {y : MethodName} {bytes : ByteArray} {rm : Room} {maxL n mc ms index N1 : Nat} {hz1 : Nat → Prop} {M1 : Nat → va_E} {As st0 : List Value} {ret : Option FieldType} {host : String}  {r0 : Int32} (hM : Met l y [.code y bytes maxL ret] rm (qPc g N hz M As) (qQi g N1 hz1 M1 r0) mc ms (qA g)) (L : qLSN own host index y bytes maxL ret n) (hn : As.length = n) (hst : st0 = As.reverse ++ rest) (hcat : (rest.map fun v => v.category).sum ≤ 8) (hdg : decode cc pc = .ok (.invokestatic index, 3)) (hrm : qRm rm R maxL cells slots mc ms) (k : qR g N1 hz1 nL p l e R s m args below meth c (cells + mc) (slots + ms) Q M1 (pc + 3) lv (.int r0 :: rest)) : qR g N hz nL p l e R s m args below meth c cells slots Q M pc lv st0 := by
  intro H locs ls hP hh hS hl
  refine va_calli (va_runSN (As := As) (rest := rest) (Ts := []) ⟨C.1, C.2.1, C.2.2.1, C.2.2.2.1, fun w h => nomatch h⟩ hM (L.cw (R := R) (args := args) C hrm) ⟨qPc_blind _ _ _ _ _, C.at hP hh hS _⟩ rfl hn hl.1 hst (lv_room hcat) hdg ⟨hrm.2.2.2.2.1, hrm.2.2.2.2.2⟩) hS (fun q _ h => h) (fun q h => h) (fun r u t H1 locs1 ht hvm hw hB hz0 hk1 hS1 => by subst hw; rw [← ht] at hS1 ⊢; exact k _ _ ls hB.1 hB.2 hS1 hl)

theorem q_callSNl (C : qC g cc own nL p s m meth c) {y : MethodName} {bytes : ByteArray} {rm : Room} {maxL n mc ms index N1 : Nat} {hz1 : Nat → Prop} {M1 : Nat → va_E} {As st0 : List Value} {ret : Option FieldType} {host : String}  {r0 : Int64} (hM : Met l y [.code y bytes maxL ret] rm (qPc g N hz M As) (qQl g N1 hz1 M1 r0) mc ms (qA g)) (L : qLSN own host index y bytes maxL ret n) (hn : As.length = n) (hst : st0 = As.reverse ++ rest) (hcat : (rest.map fun v => v.category).sum ≤ 8) (hdg : decode cc pc = .ok (.invokestatic index, 3)) (hrm : qRm rm R maxL cells slots mc ms) (k : qR g N1 hz1 nL p l e R s m args below meth c (cells + mc) (slots + ms) Q M1 (pc + 3) lv (.long r0 :: rest)) : qR g N hz nL p l e R s m args below meth c cells slots Q M pc lv st0 := by
  intro H locs ls hP hh hS hl
  refine va_calll (va_runSN (As := As) (rest := rest) (Ts := []) ⟨C.1, C.2.1, C.2.2.1, C.2.2.2.1, fun w h => nomatch h⟩ hM (L.cw (R := R) (args := args) C hrm) ⟨qPc_blind _ _ _ _ _, C.at hP hh hS _⟩ rfl hn hl.1 hst (lv_room hcat) hdg ⟨hrm.2.2.2.2.1, hrm.2.2.2.2.2⟩) hS (fun q _ h => h) (fun q h => h) (fun r u t H1 locs1 ht hvm hw hB hz0 hk1 hS1 => by subst hw; rw [← ht] at hS1 ⊢; exact k _ _ ls hB.1 hB.2 hS1 hl)

theorem q_callSNv (C : qC g cc own nL p s m meth c) {y : MethodName} {bytes : ByteArray} {rm : Room} {maxL n mc ms index N1 : Nat} {hz1 : Nat → Prop} {M1 : Nat → va_E} {As st0 : List Value} {ret : Option FieldType} {host : String}  (hM : Met l y [.code y bytes maxL ret] rm (qPc g N hz M As) (qQv g N1 hz1 M1) mc ms (qA g)) (L : qLSN own host index y bytes maxL ret n) (hn : As.length = n) (hst : st0 = As.reverse ++ rest) (hcat : (rest.map fun v => v.category).sum ≤ 8) (hdg : decode cc pc = .ok (.invokestatic index, 3)) (hrm : qRm rm R maxL cells slots mc ms) (k : qR g N1 hz1 nL p l e R s m args below meth c (cells + mc) (slots + ms) Q M1 (pc + 3) lv rest) : qR g N hz nL p l e R s m args below meth c cells slots Q M pc lv st0 := by
  intro H locs ls hP hh hS hl
  refine va_callv (va_runSN (As := As) (rest := rest) (Ts := []) ⟨C.1, C.2.1, C.2.2.1, C.2.2.2.1, fun w h => nomatch h⟩ hM (L.cw (R := R) (args := args) C hrm) ⟨qPc_blind _ _ _ _ _, C.at hP hh hS _⟩ rfl hn hl.1 hst (lv_room hcat) hdg ⟨hrm.2.2.2.2.1, hrm.2.2.2.2.2⟩) hS (fun q _ h => h) (fun q h => h) (fun u t H1 locs1 ht hvm hw hB hz0 hk1 hS1 => by rw [← ht] at hS1 ⊢; exact k _ _ ls hB.1 hB.2 hS1 hl)

theorem q_callSNr (C : qC g cc own nL p s m meth c) {y : MethodName} {bytes : ByteArray} {rm : Room} {maxL n mc ms index N1 : Nat} {hz1 : Nat → Prop} {M1 : Nat → va_E} {As st0 : List Value} {ret : Option FieldType} {host : String}  {r0 : Nat} (hM : Met l y [.code y bytes maxL ret] rm (qPc g N hz M As) (qQr g N1 hz1 M1 r0) mc ms (qA g)) (L : qLSN own host index y bytes maxL ret n) (hn : As.length = n) (hst : st0 = As.reverse ++ rest) (hcat : (rest.map fun v => v.category).sum ≤ 8) (hdg : decode cc pc = .ok (.invokestatic index, 3)) (hrm : qRm rm R maxL cells slots mc ms) (k : qR g N1 hz1 nL p l e R s m args below meth c (cells + mc) (slots + ms) Q M1 (pc + 3) lv (.ref r0 :: rest)) : qR g N hz nL p l e R s m args below meth c cells slots Q M pc lv st0 := by
  intro H locs ls hP hh hS hl
  refine va_callr (va_runSN (As := As) (rest := rest) (Ts := []) ⟨C.1, C.2.1, C.2.2.1, C.2.2.2.1, fun w h => nomatch h⟩ hM (L.cw (R := R) (args := args) C hrm) ⟨qPc_blind _ _ _ _ _, C.at hP hh hS _⟩ rfl hn hl.1 hst (lv_room hcat) hdg ⟨hrm.2.2.2.2.1, hrm.2.2.2.2.2⟩) hS (fun q _ h => h) (fun q h => h) (fun u ra t H1 locs1 ht hvm hw hB hz0 hk1 hS1 => by obtain ⟨hra, hB⟩ := hB; subst hra; rw [← ht] at hS1 ⊢; exact k _ _ ls hB.1 hB.2 hS1 hl)

theorem q_callIv (C : qC g cc own nL p s m meth c) {y : MethodName} {bytes : ByteArray} {rm : Room} {maxL n mc ms index N1 : Nat} {hz1 : Nat → Prop} {M1 : Nat → va_E} {As st0 : List Value}  {o : Nat} (hM : Met l y [.code y bytes maxL none] rm (qPc g N hz M (.ref (qa g o) :: As)) (qQv g N1 hz1 M1) mc ms (qA g)) (L : qLI own index y bytes maxL n) (hn : As.length = n) (hst : st0 = As.reverse ++ .ref (qa g o) :: rest) (hcat : (rest.map fun v => v.category).sum ≤ 8) (hdg : decode cc pc = .ok (.invokespecial index, 3)) (hrm : qRm rm R maxL cells slots mc ms) (k : qR g N1 hz1 nL p l e R s m args below meth c (cells + mc) (slots + ms) Q M1 (pc + 3) lv rest) : qR g N hz nL p l e R s m args below meth c cells slots Q M pc lv st0 := by
  intro H locs ls hP hh hS hl
  refine va_callv (va_runI (As := As) (rest := rest) (Ts := []) ⟨C.1, C.2.1, C.2.2.1, C.2.2.2.1, fun w h => nomatch h⟩ hM (L.cw (R := R) (args := args) C hrm) ⟨qPc_blind _ _ _ _ _, C.at hP hh hS _⟩ rfl hn hl.1 hst (lv_room hcat) hdg ⟨hrm.2.2.2.2.1, hrm.2.2.2.2.2⟩) hS (fun q _ h => h) (fun q h => h) (fun u t H1 locs1 ht hvm hw hB hz0 hk1 hS1 => by rw [← ht] at hS1 ⊢; exact k _ _ ls hB.1 hB.2 hS1 hl)

theorem q_callINv (C : qC g cc own nL p s m meth c) {y : MethodName} {bytes : ByteArray} {rm : Room} {maxL n mc ms index N1 : Nat} {hz1 : Nat → Prop} {M1 : Nat → va_E} {As st0 : List Value} {host : String}  {o : Nat} (hM : Met l y [.code y bytes maxL none] rm (qPc g N hz M (.ref (qa g o) :: As)) (qQv g N1 hz1 M1) mc ms (qA g)) (L : qLIN own host index y bytes maxL n) (hn : As.length = n) (hst : st0 = As.reverse ++ .ref (qa g o) :: rest) (hcat : (rest.map fun v => v.category).sum ≤ 8) (hdg : decode cc pc = .ok (.invokespecial index, 3)) (hrm : qRm rm R maxL cells slots mc ms) (k : qR g N1 hz1 nL p l e R s m args below meth c (cells + mc) (slots + ms) Q M1 (pc + 3) lv rest) : qR g N hz nL p l e R s m args below meth c cells slots Q M pc lv st0 := by
  intro H locs ls hP hh hS hl
  refine va_callv (va_runIN (As := As) (rest := rest) (Ts := []) ⟨C.1, C.2.1, C.2.2.1, C.2.2.2.1, fun w h => nomatch h⟩ hM (L.cw (R := R) (args := args) C hrm) ⟨qPc_blind _ _ _ _ _, C.at hP hh hS _⟩ rfl hn hl.1 hst (lv_room hcat) hdg ⟨hrm.2.2.2.2.1, hrm.2.2.2.2.2⟩) hS (fun q _ h => h) (fun q h => h) (fun u t H1 locs1 ht hvm hw hB hz0 hk1 hS1 => by rw [← ht] at hS1 ⊢; exact k _ _ ls hB.1 hB.2 hS1 hl)

/-- a method's own end -/
theorem q_iret (C : qC g cc own nL p s m meth c) {mc ms : Nat} {v : Int32} (hr : meth.sig.returnType = some .int) (h1 : cells ≤ mc) (h2 : slots ≤ ms) (hdg : decode cc pc = .ok (.ireturn, 1)) : qR g N hz nL p l e R s m args below meth c cells slots (MQ below (qQi g N hz M v) args s mc ms (qA g)) M pc lv [.int v] := by
  intro H locs ls hP hh hS hl
  have hlocks := C.2.2.2.2.1
  refine W.widen h1 h2 ?_
  exact W.iret C.1 C.2.1 hr (fun t ht hW => ⟨⟨v, (), rfl, rfl, by rw [← ht] at hP hh; exact ⟨hP, hh⟩⟩, hS.F ht⟩) hS.2.2 hdg
theorem q_zret (C : qC g cc own nL p s m meth c) {mc ms : Nat} {v : Int32} (hr : meth.sig.returnType = some .boolean) (hv : v &&& 1 = v) (h1 : cells ≤ mc) (h2 : slots ≤ ms) (hdg : decode cc pc = .ok (.ireturn, 1)) : qR g N hz nL p l e R s m args below meth c cells slots (MQ below (qQi g N hz M v) args s mc ms (qA g)) M pc lv [.int v] := by
  intro H locs ls hP hh hS hl
  have hlocks := C.2.2.2.2.1
  refine W.widen h1 h2 ?_
  exact W.zret C.1 C.2.1 hr (by show Value.int (v &&& 1) = _; rw [hv]) (fun t ht hW => ⟨⟨v, (), rfl, rfl, by rw [← ht] at hP hh; exact ⟨hP, hh⟩⟩, hS.F ht⟩) hS.2.2 hdg
theorem q_vret (C : qC g cc own nL p s m meth c) {mc ms : Nat} (hr : meth.sig.returnType = none) (h1 : cells ≤ mc) (h2 : slots ≤ ms) (hdg : decode cc pc = .ok (.return_, 1)) : qR g N hz nL p l e R s m args below meth c cells slots (MQ below (qQv g N hz M) args s mc ms (qA g)) M pc lv [] := by
  intro H locs ls hP hh hS hl
  have hlocks := C.2.2.2.2.1
  refine W.widen h1 h2 ?_
  exact W.vret C.1 C.2.1 hr (fun t ht hW => ⟨⟨(), rfl, trivial, by rw [← ht] at hP hh; exact ⟨hP, hh⟩⟩, hS.F ht⟩) hS.2.2 hdg
theorem q_lret (C : qC g cc own nL p s m meth c) {mc ms : Nat} {v : Int64} (hr : meth.sig.returnType = some .long) (h1 : cells ≤ mc) (h2 : slots ≤ ms) (hdg : decode cc pc = .ok (.lreturn, 1)) : qR g N hz nL p l e R s m args below meth c cells slots (MQ below (qQl g N hz M v) args s mc ms (qA g)) M pc lv [.long v] := by
  intro H locs ls hP hh hS hl
  have hlocks := C.2.2.2.2.1
  refine W.widen h1 h2 ?_
  exact W.lret C.1 C.2.1 hr (fun t ht hW => ⟨⟨v, (), rfl, rfl, by rw [← ht] at hP hh; exact ⟨hP, hh⟩⟩, hS.F ht⟩) hS.2.2 hdg
theorem q_aret (C : qC g cc own nL p s m meth c) {mc ms : Nat} {a : Nat} {cl9 : String} (hr : meth.sig.returnType = some (.object cl9)) (h1 : cells ≤ mc) (h2 : slots ≤ ms) (hdg : decode cc pc = .ok (.areturn, 1)) : qR g N hz nL p l e R s m args below meth c cells slots (MQ below (qQr g N hz M a) args s mc ms (qA g)) M pc lv [.ref a] := by
  intro H locs ls hP hh hS hl
  have hlocks := C.2.2.2.2.1
  refine W.widen h1 h2 ?_
  exact W.aret (v := .ref a) C.1 C.2.1 hr (Or.inl ⟨_, rfl⟩) (Or.inr ⟨a, rfl⟩) (fun t ht hW => ⟨⟨(), a, rfl, trivial, rfl, by rw [← ht] at hP hh; exact ⟨hP, hh⟩⟩, hS.F ht⟩) hS.2.2 hdg
theorem q_mmax (C : qC g cc own nL p s m meth c) {index : Nat} {x y : Int32} (L : qw (.methodLink own index Lib.Math.max.name)) (hR : 1 ≤ R.frames ∧ (rest.map fun v => v.category).sum + 13 ≤ R.locals ∧ cells ≤ R.cells ∧ slots ≤ R.slots) (hdg : decode cc pc = .ok (.invokestatic index, 3)) (k : qR g N hz nL p l e R s m args below meth c cells slots Q M (pc + 3) lv (.int (if x < y then y else x) :: rest)) : qR g N hz nL p l e R s m args below meth c cells slots Q M pc lv (.int y :: .int x :: rest) := by
  intro H locs ls hP hh hS hl
  refine va_mmax C.1 C.2.1 (C.2.2.1.trans hl.1.symm) C.2.2.2.1 (C.w L) (C.w (by unfold qw; decide +kernel)) (C.w (by unfold qw; decide +kernel)) (C.w (by unfold qw; decide +kernel)) hR.1 hR.2.1 hR.2.2.1 hR.2.2.2 hdg ?_
  exact k H locs ls hP hh hS hl
theorem q_mmin (C : qC g cc own nL p s m meth c) {index : Nat} {x y : Int32} (L : qw (.methodLink own index Lib.Math.min.name)) (hR : 1 ≤ R.frames ∧ (rest.map fun v => v.category).sum + 13 ≤ R.locals ∧ cells ≤ R.cells ∧ slots ≤ R.slots) (hdg : decode cc pc = .ok (.invokestatic index, 3)) (k : qR g N hz nL p l e R s m args below meth c cells slots Q M (pc + 3) lv (.int (if y < x then y else x) :: rest)) : qR g N hz nL p l e R s m args below meth c cells slots Q M pc lv (.int y :: .int x :: rest) := by
  intro H locs ls hP hh hS hl
  refine va_mmin C.1 C.2.1 (C.2.2.1.trans hl.1.symm) C.2.2.2.1 (C.w L) (C.w (by unfold qw; decide +kernel)) (C.w (by unfold qw; decide +kernel)) (C.w (by unfold qw; decide +kernel)) hR.1 hR.2.1 hR.2.2.1 hR.2.2.2 hdg ?_
  exact k H locs ls hP hh hS hl
end QLB
/-- a contract out of a walk from the entry -/
theorem q_met {l : Launch} {g : qG} {N : Nat} {hz : Nat → Prop} {M : Nat → va_E} {y : MethodName} {cc : ByteArray} {nL mc ms : Nat} {ret : Option FieldType} {rm : Room} {av : List Value} {Qc : Array Value → State → Outcome → State → Prop} (hy : plainName y.cls = true) (hnL : (lg_sl av).length ≤ nL)
    (body : ∀ (p : Program) (e : Env) (s : State) (m : MethodId) (args : Array Value) (below : List Frame) (meth : Method) (c : Code), qC g cc y.cls nL p s m meth c → meth.sig.returnType = ret → meth.name = y.name → qR g N hz nL p l e rm s m args below meth c 0 0 (MQ below Qc args s mc ms (qA g)) M 0 (lv_args 0 av) []) : Met l y [.code y cc nL ret] rm (qPc g N hz M av) Qc mc ms (qA g) := by
  refine Met.ofW (cc := cc) (maxL := nL) (ret := ret) hy rfl ?_
  intro p e s m args below meth c s₁ B hml hv
  obtain ⟨rfl, hI, ⟨hP, hh⟩, hb⟩ := hv
  have hC : qC g cc y.cls nL p s m meth c := ⟨B.exec, B.bytes, hml, findClass_of_methodNamed B.named, B.notSynchronized, hI, hb⟩
  rw [lg_entry_eq]
  exact body p e s m av.toArray below meth c hC B.returns (name_of_methodNamed B.named B.method).1 s.heap [] _ hP hh va_S.rf (lv_entry av hnL)
end
