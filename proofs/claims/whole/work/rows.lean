section
-- ===== PART A: goes FIRST, ahead of the names: the tables' words, and 'selects' of the private methods out of them =====
/-- a private method of a class that the tables say can be made, by its rows of tables_1 -/
def lw_okq (q : MethodName × Nat) : Prop := (q.1.cls ≠ "java/lang/invoke/MethodHandle" ∧ q.1.cls ≠ "java/lang/invoke/VarHandle") ∧ Cond.instantiable q.1.cls q.2 ∈ tables_1 ∧ Cond.privateMethod q.1 ∈ tables_1 ∧ Cond.instanceMethod q.1 ∈ tables_1
theorem lw_p0 : lw_okq (⟨"RumourPipes$Tower", "fewestHours", "(II)I"⟩, 8) := ⟨⟨by decide +kernel, by decide +kernel⟩, List.mem_of_getElem? (i := 24) (by decide +kernel), List.mem_of_getElem? (i := 62) (by decide +kernel), List.mem_of_getElem? (i := 63) (by decide +kernel)⟩
theorem lw_p1 : lw_okq (⟨"RumourPipes$Ways", "nearest", "(I)I"⟩, 3) := ⟨⟨by decide +kernel, by decide +kernel⟩, List.mem_of_getElem? (i := 110) (by decide +kernel), List.mem_of_getElem? (i := 218) (by decide +kernel), List.mem_of_getElem? (i := 219) (by decide +kernel)⟩
theorem lw_p2 : lw_okq (⟨"RumourPipes$Ways", "isBetter", "(III)Z"⟩, 3) := ⟨⟨by decide +kernel, by decide +kernel⟩, List.mem_of_getElem? (i := 110) (by decide +kernel), List.mem_of_getElem? (i := 222) (by decide +kernel), List.mem_of_getElem? (i := 223) (by decide +kernel)⟩
theorem lw_p3 : lw_okq (⟨"RumourPipes$Ways", "leadOn", "(LRumourPipes$Tower;I)V"⟩, 3) := ⟨⟨by decide +kernel, by decide +kernel⟩, List.mem_of_getElem? (i := 110) (by decide +kernel), List.mem_of_getElem? (i := 226) (by decide +kernel), List.mem_of_getElem? (i := 227) (by decide +kernel)⟩
theorem lw_p4 : lw_okq (⟨"RumourPipes", "needFloor", "(I)V"⟩, 6) := ⟨⟨by decide +kernel, by decide +kernel⟩, List.mem_of_getElem? (i := 16) (by decide +kernel), List.mem_of_getElem? (i := 268) (by decide +kernel), List.mem_of_getElem? (i := 269) (by decide +kernel)⟩
theorem lw_p5 : lw_okq (⟨"java/lang/Throwable", "fillInStackTrace", "(I)Ljava/lang/Throwable;"⟩, 6) := ⟨⟨by decide +kernel, by decide +kernel⟩, List.mem_of_getElem? (i := 310) (by decide +kernel), List.mem_of_getElem? (i := 308) (by decide +kernel), List.mem_of_getElem? (i := 309) (by decide +kernel)⟩
theorem lw_p6 : lw_okq (⟨"RumourPipes", "needStairs", "(I)V"⟩, 6) := ⟨⟨by decide +kernel, by decide +kernel⟩, List.mem_of_getElem? (i := 16) (by decide +kernel), List.mem_of_getElem? (i := 360) (by decide +kernel), List.mem_of_getElem? (i := 361) (by decide +kernel)⟩
theorem lw_p7 : lw_okq (⟨"RumourPipes", "needLift", "(I)V"⟩, 6) := ⟨⟨by decide +kernel, by decide +kernel⟩, List.mem_of_getElem? (i := 16) (by decide +kernel), List.mem_of_getElem? (i := 373) (by decide +kernel), List.mem_of_getElem? (i := 374) (by decide +kernel)⟩
theorem lw_p8 : lw_okq (⟨"RumourPipes", "withRumour", "(JI)J"⟩, 6) := ⟨⟨by decide +kernel, by decide +kernel⟩, List.mem_of_getElem? (i := 16) (by decide +kernel), List.mem_of_getElem? (i := 378) (by decide +kernel), List.mem_of_getElem? (i := 379) (by decide +kernel)⟩
theorem lw_p9 : lw_okq (⟨"RumourPipes", "needRumour", "(I)V"⟩, 6) := ⟨⟨by decide +kernel, by decide +kernel⟩, List.mem_of_getElem? (i := 16) (by decide +kernel), List.mem_of_getElem? (i := 386) (by decide +kernel), List.mem_of_getElem? (i := 387) (by decide +kernel)⟩
theorem lw_p10 : lw_okq (⟨"RumourPipes$Rumour", "bringRumour", "(LRumourPipes$Tower;III)Z"⟩, 11) := ⟨⟨by decide +kernel, by decide +kernel⟩, List.mem_of_getElem? (i := 129) (by decide +kernel), List.mem_of_getElem? (i := 439) (by decide +kernel), List.mem_of_getElem? (i := 440) (by decide +kernel)⟩
theorem lw_p11 : lw_okq (⟨"RumourPipes$Rumour", "tellRumour", "(LRumourPipes$Tower;II)V"⟩, 11) := ⟨⟨by decide +kernel, by decide +kernel⟩, List.mem_of_getElem? (i := 129) (by decide +kernel), List.mem_of_getElem? (i := 447) (by decide +kernel), List.mem_of_getElem? (i := 448) (by decide +kernel)⟩
theorem lw_p12 : lw_okq (⟨"RumourPipes$Rumour", "tellDenial", "(LRumourPipes$Tower;II)V"⟩, 11) := ⟨⟨by decide +kernel, by decide +kernel⟩, List.mem_of_getElem? (i := 129) (by decide +kernel), List.mem_of_getElem? (i := 451) (by decide +kernel), List.mem_of_getElem? (i := 452) (by decide +kernel)⟩
theorem lw_p13 : lw_okq (⟨"RumourPipesModel", "anew", "(I)V"⟩, 20) := ⟨⟨by decide +kernel, by decide +kernel⟩, List.mem_of_getElem? (i := 745) (by decide +kernel), List.mem_of_getElem? (i := 751) (by decide +kernel), List.mem_of_getElem? (i := 752) (by decide +kernel)⟩
theorem lw_p14 : lw_okq (⟨"RumourPipesModel", "no", "(I)I"⟩, 20) := ⟨⟨by decide +kernel, by decide +kernel⟩, List.mem_of_getElem? (i := 745) (by decide +kernel), List.mem_of_getElem? (i := 827) (by decide +kernel), List.mem_of_getElem? (i := 828) (by decide +kernel)⟩
theorem lw_p15 : lw_okq (⟨"RumourPipesModel", "isFloor", "(I)Z"⟩, 20) := ⟨⟨by decide +kernel, by decide +kernel⟩, List.mem_of_getElem? (i := 745) (by decide +kernel), List.mem_of_getElem? (i := 835) (by decide +kernel), List.mem_of_getElem? (i := 836) (by decide +kernel)⟩
def lw_privs_1 : List (MethodName × Nat) := [(⟨"RumourPipes$Tower", "fewestHours", "(II)I"⟩, 8), (⟨"RumourPipes$Ways", "nearest", "(I)I"⟩, 3), (⟨"RumourPipes$Ways", "isBetter", "(III)Z"⟩, 3), (⟨"RumourPipes$Ways", "leadOn", "(LRumourPipes$Tower;I)V"⟩, 3), (⟨"RumourPipes", "needFloor", "(I)V"⟩, 6), (⟨"java/lang/Throwable", "fillInStackTrace", "(I)Ljava/lang/Throwable;"⟩, 6), (⟨"RumourPipes", "needStairs", "(I)V"⟩, 6), (⟨"RumourPipes", "needLift", "(I)V"⟩, 6), (⟨"RumourPipes", "withRumour", "(JI)J"⟩, 6), (⟨"RumourPipes", "needRumour", "(I)V"⟩, 6), (⟨"RumourPipes$Rumour", "bringRumour", "(LRumourPipes$Tower;III)Z"⟩, 11), (⟨"RumourPipes$Rumour", "tellRumour", "(LRumourPipes$Tower;II)V"⟩, 11), (⟨"RumourPipes$Rumour", "tellDenial", "(LRumourPipes$Tower;II)V"⟩, 11), (⟨"RumourPipesModel", "anew", "(I)V"⟩, 20), (⟨"RumourPipesModel", "no", "(I)I"⟩, 20), (⟨"RumourPipesModel", "isFloor", "(I)Z"⟩, 20)]
theorem lw_r1 : ∀ q ∈ lw_privs_1, lw_okq q := List.forall_mem_cons.mpr ⟨lw_p0, List.forall_mem_cons.mpr ⟨lw_p1, List.forall_mem_cons.mpr ⟨lw_p2, List.forall_mem_cons.mpr ⟨lw_p3, List.forall_mem_cons.mpr ⟨lw_p4, List.forall_mem_cons.mpr ⟨lw_p5, List.forall_mem_cons.mpr ⟨lw_p6, List.forall_mem_cons.mpr ⟨lw_p7, List.forall_mem_cons.mpr ⟨lw_p8, List.forall_mem_cons.mpr ⟨lw_p9, List.forall_mem_cons.mpr ⟨lw_p10, List.forall_mem_cons.mpr ⟨lw_p11, List.forall_mem_cons.mpr ⟨lw_p12, List.forall_mem_cons.mpr ⟨lw_p13, List.forall_mem_cons.mpr ⟨lw_p14, List.forall_mem_cons.mpr ⟨lw_p15, fun _ h => absurd h List.not_mem_nil⟩⟩⟩⟩⟩⟩⟩⟩⟩⟩⟩⟩⟩⟩⟩⟩
theorem lw_p16 : lw_okq (⟨"RumourPipesModel", "let", "([III)I"⟩, 20) := ⟨⟨by decide +kernel, by decide +kernel⟩, List.mem_of_getElem? (i := 745) (by decide +kernel), List.mem_of_getElem? (i := 839) (by decide +kernel), List.mem_of_getElem? (i := 840) (by decide +kernel)⟩
theorem lw_p17 : lw_okq (⟨"RumourPipesModel", "isStairs", "(I)Z"⟩, 20) := ⟨⟨by decide +kernel, by decide +kernel⟩, List.mem_of_getElem? (i := 745) (by decide +kernel), List.mem_of_getElem? (i := 851) (by decide +kernel), List.mem_of_getElem? (i := 852) (by decide +kernel)⟩
theorem lw_p18 : lw_okq (⟨"RumourPipesModel", "turned", "([ZI)Z"⟩, 20) := ⟨⟨by decide +kernel, by decide +kernel⟩, List.mem_of_getElem? (i := 745) (by decide +kernel), List.mem_of_getElem? (i := 859) (by decide +kernel), List.mem_of_getElem? (i := 860) (by decide +kernel)⟩
theorem lw_p19 : lw_okq (⟨"RumourPipesModel", "isNot", "(I)Z"⟩, 20) := ⟨⟨by decide +kernel, by decide +kernel⟩, List.mem_of_getElem? (i := 745) (by decide +kernel), List.mem_of_getElem? (i := 863) (by decide +kernel), List.mem_of_getElem? (i := 864) (by decide +kernel)⟩
theorem lw_p20 : lw_okq (⟨"RumourPipesModel", "isLift", "(I)Z"⟩, 20) := ⟨⟨by decide +kernel, by decide +kernel⟩, List.mem_of_getElem? (i := 745) (by decide +kernel), List.mem_of_getElem? (i := 875) (by decide +kernel), List.mem_of_getElem? (i := 876) (by decide +kernel)⟩
theorem lw_p21 : lw_okq (⟨"RumourPipesModel", "hear", "(II)V"⟩, 20) := ⟨⟨by decide +kernel, by decide +kernel⟩, List.mem_of_getElem? (i := 745) (by decide +kernel), List.mem_of_getElem? (i := 883) (by decide +kernel), List.mem_of_getElem? (i := 884) (by decide +kernel)⟩
theorem lw_p22 : lw_okq (⟨"RumourPipesModel", "isRumour", "(I)Z"⟩, 20) := ⟨⟨by decide +kernel, by decide +kernel⟩, List.mem_of_getElem? (i := 745) (by decide +kernel), List.mem_of_getElem? (i := 891) (by decide +kernel), List.mem_of_getElem? (i := 892) (by decide +kernel)⟩
theorem lw_p23 : lw_okq (⟨"RumourPipesModel", "deny", "(I)V"⟩, 20) := ⟨⟨by decide +kernel, by decide +kernel⟩, List.mem_of_getElem? (i := 745) (by decide +kernel), List.mem_of_getElem? (i := 895) (by decide +kernel), List.mem_of_getElem? (i := 896) (by decide +kernel)⟩
theorem lw_p24 : lw_okq (⟨"RumourPipesModel", "heardInAll", "()I"⟩, 20) := ⟨⟨by decide +kernel, by decide +kernel⟩, List.mem_of_getElem? (i := 745) (by decide +kernel), List.mem_of_getElem? (i := 903) (by decide +kernel), List.mem_of_getElem? (i := 904) (by decide +kernel)⟩
theorem lw_p25 : lw_okq (⟨"RumourPipesModel", "heardOf", "(I)I"⟩, 20) := ⟨⟨by decide +kernel, by decide +kernel⟩, List.mem_of_getElem? (i := 745) (by decide +kernel), List.mem_of_getElem? (i := 907) (by decide +kernel), List.mem_of_getElem? (i := 908) (by decide +kernel)⟩
theorem lw_p26 : lw_okq (⟨"RumourPipesModel", "hourOn", "()V"⟩, 20) := ⟨⟨by decide +kernel, by decide +kernel⟩, List.mem_of_getElem? (i := 745) (by decide +kernel), List.mem_of_getElem? (i := 911) (by decide +kernel), List.mem_of_getElem? (i := 912) (by decide +kernel)⟩
theorem lw_p27 : lw_okq (⟨"RumourPipesModel", "hourFor", "(I)V"⟩, 20) := ⟨⟨by decide +kernel, by decide +kernel⟩, List.mem_of_getElem? (i := 745) (by decide +kernel), List.mem_of_getElem? (i := 915) (by decide +kernel), List.mem_of_getElem? (i := 916) (by decide +kernel)⟩
theorem lw_p28 : lw_okq (⟨"RumourPipesModel", "arrive", "(I)V"⟩, 20) := ⟨⟨by decide +kernel, by decide +kernel⟩, List.mem_of_getElem? (i := 745) (by decide +kernel), List.mem_of_getElem? (i := 919) (by decide +kernel), List.mem_of_getElem? (i := 920) (by decide +kernel)⟩
theorem lw_p29 : lw_okq (⟨"RumourPipesModel", "tell", "(II)V"⟩, 20) := ⟨⟨by decide +kernel, by decide +kernel⟩, List.mem_of_getElem? (i := 745) (by decide +kernel), List.mem_of_getElem? (i := 923) (by decide +kernel), List.mem_of_getElem? (i := 924) (by decide +kernel)⟩
theorem lw_p30 : lw_okq (⟨"RumourPipesModel", "send", "(IIZ)V"⟩, 20) := ⟨⟨by decide +kernel, by decide +kernel⟩, List.mem_of_getElem? (i := 745) (by decide +kernel), List.mem_of_getElem? (i := 927) (by decide +kernel), List.mem_of_getElem? (i := 928) (by decide +kernel)⟩
theorem lw_p31 : lw_okq (⟨"RumourPipesModel", "hoursOf", "(II)I"⟩, 20) := ⟨⟨by decide +kernel, by decide +kernel⟩, List.mem_of_getElem? (i := 745) (by decide +kernel), List.mem_of_getElem? (i := 931) (by decide +kernel), List.mem_of_getElem? (i := 932) (by decide +kernel)⟩
def lw_privs_2 : List (MethodName × Nat) := [(⟨"RumourPipesModel", "let", "([III)I"⟩, 20), (⟨"RumourPipesModel", "isStairs", "(I)Z"⟩, 20), (⟨"RumourPipesModel", "turned", "([ZI)Z"⟩, 20), (⟨"RumourPipesModel", "isNot", "(I)Z"⟩, 20), (⟨"RumourPipesModel", "isLift", "(I)Z"⟩, 20), (⟨"RumourPipesModel", "hear", "(II)V"⟩, 20), (⟨"RumourPipesModel", "isRumour", "(I)Z"⟩, 20), (⟨"RumourPipesModel", "deny", "(I)V"⟩, 20), (⟨"RumourPipesModel", "heardInAll", "()I"⟩, 20), (⟨"RumourPipesModel", "heardOf", "(I)I"⟩, 20), (⟨"RumourPipesModel", "hourOn", "()V"⟩, 20), (⟨"RumourPipesModel", "hourFor", "(I)V"⟩, 20), (⟨"RumourPipesModel", "arrive", "(I)V"⟩, 20), (⟨"RumourPipesModel", "tell", "(II)V"⟩, 20), (⟨"RumourPipesModel", "send", "(IIZ)V"⟩, 20), (⟨"RumourPipesModel", "hoursOf", "(II)I"⟩, 20)]
theorem lw_r2 : ∀ q ∈ lw_privs_2, lw_okq q := List.forall_mem_cons.mpr ⟨lw_p16, List.forall_mem_cons.mpr ⟨lw_p17, List.forall_mem_cons.mpr ⟨lw_p18, List.forall_mem_cons.mpr ⟨lw_p19, List.forall_mem_cons.mpr ⟨lw_p20, List.forall_mem_cons.mpr ⟨lw_p21, List.forall_mem_cons.mpr ⟨lw_p22, List.forall_mem_cons.mpr ⟨lw_p23, List.forall_mem_cons.mpr ⟨lw_p24, List.forall_mem_cons.mpr ⟨lw_p25, List.forall_mem_cons.mpr ⟨lw_p26, List.forall_mem_cons.mpr ⟨lw_p27, List.forall_mem_cons.mpr ⟨lw_p28, List.forall_mem_cons.mpr ⟨lw_p29, List.forall_mem_cons.mpr ⟨lw_p30, List.forall_mem_cons.mpr ⟨lw_p31, fun _ h => absurd h List.not_mem_nil⟩⟩⟩⟩⟩⟩⟩⟩⟩⟩⟩⟩⟩⟩⟩⟩
theorem lw_p32 : lw_okq (⟨"RumourPipesModel", "isServed", "(II)Z"⟩, 20) := ⟨⟨by decide +kernel, by decide +kernel⟩, List.mem_of_getElem? (i := 745) (by decide +kernel), List.mem_of_getElem? (i := 939) (by decide +kernel), List.mem_of_getElem? (i := 940) (by decide +kernel)⟩
theorem lw_p33 : lw_okq (⟨"RumourPipesModel", "ok", "(I)I"⟩, 20) := ⟨⟨by decide +kernel, by decide +kernel⟩, List.mem_of_getElem? (i := 745) (by decide +kernel), List.mem_of_getElem? (i := 947) (by decide +kernel), List.mem_of_getElem? (i := 948) (by decide +kernel)⟩
theorem lw_p34 : lw_okq (⟨"RumourPipesModel", "of", "([IIZ)I"⟩, 20) := ⟨⟨by decide +kernel, by decide +kernel⟩, List.mem_of_getElem? (i := 745) (by decide +kernel), List.mem_of_getElem? (i := 967) (by decide +kernel), List.mem_of_getElem? (i := 968) (by decide +kernel)⟩
theorem lw_p35 : lw_okq (⟨"RumourPipesModel", "around", "(I)I"⟩, 20) := ⟨⟨by decide +kernel, by decide +kernel⟩, List.mem_of_getElem? (i := 745) (by decide +kernel), List.mem_of_getElem? (i := 999) (by decide +kernel), List.mem_of_getElem? (i := 1000) (by decide +kernel)⟩
theorem lw_p36 : lw_okq (⟨"RumourPipesModel", "told", "(III)I"⟩, 20) := ⟨⟨by decide +kernel, by decide +kernel⟩, List.mem_of_getElem? (i := 745) (by decide +kernel), List.mem_of_getElem? (i := 1015) (by decide +kernel), List.mem_of_getElem? (i := 1016) (by decide +kernel)⟩
theorem lw_p37 : lw_okq (⟨"RumourPipesModel", "believing", "(I)I"⟩, 20) := ⟨⟨by decide +kernel, by decide +kernel⟩, List.mem_of_getElem? (i := 745) (by decide +kernel), List.mem_of_getElem? (i := 1035) (by decide +kernel), List.mem_of_getElem? (i := 1036) (by decide +kernel)⟩
theorem lw_p38 : lw_okq (⟨"RumourPipesModel", "onWay", "(I)I"⟩, 20) := ⟨⟨by decide +kernel, by decide +kernel⟩, List.mem_of_getElem? (i := 745) (by decide +kernel), List.mem_of_getElem? (i := 1047) (by decide +kernel), List.mem_of_getElem? (i := 1048) (by decide +kernel)⟩
theorem lw_p39 : lw_okq (⟨"RumourPipesModel", "isOnWay", "(I)Z"⟩, 20) := ⟨⟨by decide +kernel, by decide +kernel⟩, List.mem_of_getElem? (i := 745) (by decide +kernel), List.mem_of_getElem? (i := 1051) (by decide +kernel), List.mem_of_getElem? (i := 1052) (by decide +kernel)⟩
theorem lw_p40 : lw_okq (⟨"RumourPipesModel", "way", "(II)I"⟩, 20) := ⟨⟨by decide +kernel, by decide +kernel⟩, List.mem_of_getElem? (i := 745) (by decide +kernel), List.mem_of_getElem? (i := 1059) (by decide +kernel), List.mem_of_getElem? (i := 1060) (by decide +kernel)⟩
theorem lw_p41 : lw_okq (⟨"RumourPipesModel", "ways", "(I)V"⟩, 20) := ⟨⟨by decide +kernel, by decide +kernel⟩, List.mem_of_getElem? (i := 745) (by decide +kernel), List.mem_of_getElem? (i := 1063) (by decide +kernel), List.mem_of_getElem? (i := 1064) (by decide +kernel)⟩
theorem lw_p42 : lw_okq (⟨"RumourPipesModel", "isBetter", "(III)Z"⟩, 20) := ⟨⟨by decide +kernel, by decide +kernel⟩, List.mem_of_getElem? (i := 745) (by decide +kernel), List.mem_of_getElem? (i := 1067) (by decide +kernel), List.mem_of_getElem? (i := 1068) (by decide +kernel)⟩
theorem lw_p43 : lw_okq (⟨"RumourPipesModel", "farthest", "(I)I"⟩, 20) := ⟨⟨by decide +kernel, by decide +kernel⟩, List.mem_of_getElem? (i := 745) (by decide +kernel), List.mem_of_getElem? (i := 1079) (by decide +kernel), List.mem_of_getElem? (i := 1080) (by decide +kernel)⟩
theorem lw_p44 : lw_okq (⟨"RumourPipesModel", "middle", "()I"⟩, 20) := ⟨⟨by decide +kernel, by decide +kernel⟩, List.mem_of_getElem? (i := 745) (by decide +kernel), List.mem_of_getElem? (i := 1087) (by decide +kernel), List.mem_of_getElem? (i := 1088) (by decide +kernel)⟩
theorem lw_p45 : lw_okq (⟨"RumourPipesModel", "isAllAround", "()Z"⟩, 20) := ⟨⟨by decide +kernel, by decide +kernel⟩, List.mem_of_getElem? (i := 745) (by decide +kernel), List.mem_of_getElem? (i := 1091) (by decide +kernel), List.mem_of_getElem? (i := 1092) (by decide +kernel)⟩
theorem lw_p46 : lw_okq (⟨"RumourPipesModel", "partsNow", "()I"⟩, 20) := ⟨⟨by decide +kernel, by decide +kernel⟩, List.mem_of_getElem? (i := 745) (by decide +kernel), List.mem_of_getElem? (i := 1099) (by decide +kernel), List.mem_of_getElem? (i := 1100) (by decide +kernel)⟩
theorem lw_p47 : lw_okq (⟨"RumourPipesModel", "wayWith", "(IZII)I"⟩, 20) := ⟨⟨by decide +kernel, by decide +kernel⟩, List.mem_of_getElem? (i := 745) (by decide +kernel), List.mem_of_getElem? (i := 1107) (by decide +kernel), List.mem_of_getElem? (i := 1108) (by decide +kernel)⟩
def lw_privs_3 : List (MethodName × Nat) := [(⟨"RumourPipesModel", "isServed", "(II)Z"⟩, 20), (⟨"RumourPipesModel", "ok", "(I)I"⟩, 20), (⟨"RumourPipesModel", "of", "([IIZ)I"⟩, 20), (⟨"RumourPipesModel", "around", "(I)I"⟩, 20), (⟨"RumourPipesModel", "told", "(III)I"⟩, 20), (⟨"RumourPipesModel", "believing", "(I)I"⟩, 20), (⟨"RumourPipesModel", "onWay", "(I)I"⟩, 20), (⟨"RumourPipesModel", "isOnWay", "(I)Z"⟩, 20), (⟨"RumourPipesModel", "way", "(II)I"⟩, 20), (⟨"RumourPipesModel", "ways", "(I)V"⟩, 20), (⟨"RumourPipesModel", "isBetter", "(III)Z"⟩, 20), (⟨"RumourPipesModel", "farthest", "(I)I"⟩, 20), (⟨"RumourPipesModel", "middle", "()I"⟩, 20), (⟨"RumourPipesModel", "isAllAround", "()Z"⟩, 20), (⟨"RumourPipesModel", "partsNow", "()I"⟩, 20), (⟨"RumourPipesModel", "wayWith", "(IZII)I"⟩, 20)]
theorem lw_r3 : ∀ q ∈ lw_privs_3, lw_okq q := List.forall_mem_cons.mpr ⟨lw_p32, List.forall_mem_cons.mpr ⟨lw_p33, List.forall_mem_cons.mpr ⟨lw_p34, List.forall_mem_cons.mpr ⟨lw_p35, List.forall_mem_cons.mpr ⟨lw_p36, List.forall_mem_cons.mpr ⟨lw_p37, List.forall_mem_cons.mpr ⟨lw_p38, List.forall_mem_cons.mpr ⟨lw_p39, List.forall_mem_cons.mpr ⟨lw_p40, List.forall_mem_cons.mpr ⟨lw_p41, List.forall_mem_cons.mpr ⟨lw_p42, List.forall_mem_cons.mpr ⟨lw_p43, List.forall_mem_cons.mpr ⟨lw_p44, List.forall_mem_cons.mpr ⟨lw_p45, List.forall_mem_cons.mpr ⟨lw_p46, List.forall_mem_cons.mpr ⟨lw_p47, fun _ h => absurd h List.not_mem_nil⟩⟩⟩⟩⟩⟩⟩⟩⟩⟩⟩⟩⟩⟩⟩⟩
theorem lw_p48 : lw_okq (⟨"RumourPipesModel", "keep", "()V"⟩, 20) := ⟨⟨by decide +kernel, by decide +kernel⟩, List.mem_of_getElem? (i := 745) (by decide +kernel), List.mem_of_getElem? (i := 1115) (by decide +kernel), List.mem_of_getElem? (i := 1116) (by decide +kernel)⟩
theorem lw_p49 : lw_okq (⟨"RumourPipesModel", "lookOn", "(II)V"⟩, 20) := ⟨⟨by decide +kernel, by decide +kernel⟩, List.mem_of_getElem? (i := 745) (by decide +kernel), List.mem_of_getElem? (i := 1120) (by decide +kernel), List.mem_of_getElem? (i := 1121) (by decide +kernel)⟩
theorem lw_p50 : lw_okq (⟨"RumourPipesModel", "bringBack", "()V"⟩, 20) := ⟨⟨by decide +kernel, by decide +kernel⟩, List.mem_of_getElem? (i := 745) (by decide +kernel), List.mem_of_getElem? (i := 1124) (by decide +kernel), List.mem_of_getElem? (i := 1125) (by decide +kernel)⟩
theorem lw_p51 : lw_okq (⟨"RumourPipesModel", "inTheEnd", "(I)I"⟩, 20) := ⟨⟨by decide +kernel, by decide +kernel⟩, List.mem_of_getElem? (i := 745) (by decide +kernel), List.mem_of_getElem? (i := 1132) (by decide +kernel), List.mem_of_getElem? (i := 1133) (by decide +kernel)⟩
theorem lw_p52 : lw_okq (⟨"RumourPipesModel", "later", "(I)I"⟩, 20) := ⟨⟨by decide +kernel, by decide +kernel⟩, List.mem_of_getElem? (i := 745) (by decide +kernel), List.mem_of_getElem? (i := 1136) (by decide +kernel), List.mem_of_getElem? (i := 1137) (by decide +kernel)⟩
theorem lw_p53 : lw_okq (⟨"RumourPipesModel", "quiet", "(I)I"⟩, 20) := ⟨⟨by decide +kernel, by decide +kernel⟩, List.mem_of_getElem? (i := 745) (by decide +kernel), List.mem_of_getElem? (i := 1144) (by decide +kernel), List.mem_of_getElem? (i := 1145) (by decide +kernel)⟩
theorem lw_p54 : lw_okq (⟨"RumourPipesModel", "isQuiet", "(I)Z"⟩, 20) := ⟨⟨by decide +kernel, by decide +kernel⟩, List.mem_of_getElem? (i := 745) (by decide +kernel), List.mem_of_getElem? (i := 1148) (by decide +kernel), List.mem_of_getElem? (i := 1149) (by decide +kernel)⟩
theorem lw_p55 : lw_okq (⟨"RumourPipesModel", "with", "(II)I"⟩, 20) := ⟨⟨by decide +kernel, by decide +kernel⟩, List.mem_of_getElem? (i := 745) (by decide +kernel), List.mem_of_getElem? (i := 1156) (by decide +kernel), List.mem_of_getElem? (i := 1157) (by decide +kernel)⟩
theorem lw_p56 : lw_okq (⟨"RumourPipesModel", "denial", "(I)I"⟩, 20) := ⟨⟨by decide +kernel, by decide +kernel⟩, List.mem_of_getElem? (i := 745) (by decide +kernel), List.mem_of_getElem? (i := 1164) (by decide +kernel), List.mem_of_getElem? (i := 1165) (by decide +kernel)⟩
theorem lw_p57 : lw_okq (⟨"RumourPipesModel", "toShut", "(I)I"⟩, 20) := ⟨⟨by decide +kernel, by decide +kernel⟩, List.mem_of_getElem? (i := 745) (by decide +kernel), List.mem_of_getElem? (i := 1172) (by decide +kernel), List.mem_of_getElem? (i := 1173) (by decide +kernel)⟩
def lw_privs_4 : List (MethodName × Nat) := [(⟨"RumourPipesModel", "keep", "()V"⟩, 20), (⟨"RumourPipesModel", "lookOn", "(II)V"⟩, 20), (⟨"RumourPipesModel", "bringBack", "()V"⟩, 20), (⟨"RumourPipesModel", "inTheEnd", "(I)I"⟩, 20), (⟨"RumourPipesModel", "later", "(I)I"⟩, 20), (⟨"RumourPipesModel", "quiet", "(I)I"⟩, 20), (⟨"RumourPipesModel", "isQuiet", "(I)Z"⟩, 20), (⟨"RumourPipesModel", "with", "(II)I"⟩, 20), (⟨"RumourPipesModel", "denial", "(I)I"⟩, 20), (⟨"RumourPipesModel", "toShut", "(I)I"⟩, 20)]
theorem lw_r4 : ∀ q ∈ lw_privs_4, lw_okq q := List.forall_mem_cons.mpr ⟨lw_p48, List.forall_mem_cons.mpr ⟨lw_p49, List.forall_mem_cons.mpr ⟨lw_p50, List.forall_mem_cons.mpr ⟨lw_p51, List.forall_mem_cons.mpr ⟨lw_p52, List.forall_mem_cons.mpr ⟨lw_p53, List.forall_mem_cons.mpr ⟨lw_p54, List.forall_mem_cons.mpr ⟨lw_p55, List.forall_mem_cons.mpr ⟨lw_p56, List.forall_mem_cons.mpr ⟨lw_p57, fun _ h => absurd h List.not_mem_nil⟩⟩⟩⟩⟩⟩⟩⟩⟩⟩
def lw_privs : List (MethodName × Nat) := lw_privs_1 ++ (lw_privs_2 ++ (lw_privs_3 ++ (lw_privs_4)))
def lw_tbl : List Cond := k2_sels lw_privs ++ tables_1
theorem lw_privs_ok : ∀ q ∈ lw_privs, lw_okq q := by
  show ∀ q ∈ lw_privs_1 ++ (lw_privs_2 ++ (lw_privs_3 ++ (lw_privs_4))), lw_okq q
  exact List.forall_mem_append.mpr ⟨lw_r1, List.forall_mem_append.mpr ⟨lw_r2, List.forall_mem_append.mpr ⟨lw_r3, lw_r4⟩⟩⟩
/-- the streams that the claim lets the run draw from -/
abbrev lw_cs : List Choice := [Jvm.Choice.named "NaN.bits"]
theorem lw_bits : nanBits ∈ lw_cs := by first | decide | exact List.mem_cons_self | simp [lw_cs, nanBits]
-- ===== end of PART A
/-! ===== BEGIN words of one list among another's, by their places ===== -/
theorem goodIn_r {big : List Cond} (ws : List Cond) (ps : List Nat) (hp : ws = ps.filterMap (fun i => big[i]?)) (h : ws.all goodWord = true) : GoodIn big ws := by
  intro w hw
  have h1 := List.all_eq_true.mp h w hw
  rw [hp] at hw
  obtain ⟨i, -, hi⟩ := List.mem_filterMap.mp hw
  have hm : w ∈ big := by first | exact List.mem_of_getElem? hi | exact List.getElem?_mem hi
  exact ⟨hm, good_of_word h1⟩
theorem goodIn_app {big a b : List Cond} (ha : GoodIn big a) (hb : GoodIn big b) : GoodIn big (a ++ b) := fun w h => (List.mem_append.mp h).elim (ha w) (hb w)
theorem goodIn_ca {big a b : List Cond} {c : Cond} (ha : GoodIn big (c :: a)) (hb : GoodIn big b) : GoodIn big (c :: (a ++ b)) := fun w h => (List.mem_cons.mp h).elim (fun e => ha w (List.mem_cons.mpr (Or.inl e))) (fun h => (List.mem_append.mp h).elim (fun h => ha w (List.mem_cons.mpr (Or.inr h))) (hb w))
theorem goodIn_sub {big ws : List Cond} (hm : ∀ w ∈ ws, w ∈ big) (h : ws.all goodWord = true) : GoodIn big ws := fun w hw => ⟨hm w hw, good_of_word (List.all_eq_true.mp h w hw)⟩
/-! ===== END ===== -/

/-! ===== BEGIN new T[n][m]: the outer array a place, the inner ones among the pooled ===== -/
/-- f, but v at every address of l -/
def vr_up {α : Type} (f : Nat → α) (l : List Nat) (v : α) : Nat → α := fun a => if a ∈ l then v else f a
theorem vr_up_in {α : Type} {f : Nat → α} {l : List Nat} {v : α} {a : Nat} (h : a ∈ l) : vr_up f l v a = v := if_pos h
theorem vr_up_ne {α : Type} {f : Nat → α} {l : List Nat} {v : α} {a : Nat} (h : a ∉ l) : vr_up f l v a = f a := if_neg h
theorem vr_rows {L l : List Nat} {f : Nat → va_E} {e : va_E} (h : ∀ a, a ∈ l → a ∉ L) : va_pl L f ++ l.map (fun a => (a, e)) = va_pl (L ++ l) (vr_up f l e) := by
  unfold va_pl
  rw [List.map_append]
  congr 1
  · apply List.map_congr_left
    intro a ha
    rw [vr_up_ne (fun q => h a q ha)]
  · apply List.map_congr_left
    intro a ha
    rw [vr_up_in ha]
theorem vr_lay {X rows : va_W} {x : Nat × va_E} {pl : va_W} {D : va_G} {cl : List vw_C} {H : Heap} (hP : va_P D cl (((X ++ pl) ++ [x]) ++ rows) H) : va_P D cl ((X ++ [x]) ++ (pl ++ rows)) H := by
  rw [List.append_assoc (X ++ pl)] at hP
  have h := va_P.swap hP
  rw [← List.append_assoc X] at h
  have h2 := va_P.swap h
  rw [List.append_assoc (X ++ [x])] at h2
  exact h2
theorem vr_layD {X rows : va_W} {x : Nat × va_E} {pl : va_W} {A : Nat → Prop} (hD : va_D A (((X ++ pl) ++ [x]) ++ rows)) : va_D A ((X ++ [x]) ++ (pl ++ rows)) := by
  rw [List.append_assoc (X ++ pl)] at hD
  have h := va_D.swap hD
  rw [← List.append_assoc X] at h
  have h2 := va_D.swap h
  rw [List.append_assoc (X ++ [x])] at h2
  exact h2
theorem vr_outer (c : ClassId) (N h0 : Nat) : ∀ i : Nat, Jvm.Free.Multi.outerC c N h0 i = arrV c N (fun j => va_rf (if j < i then some (h0 + 1 + j) else none))
  | 0 => by
    show ({ cls := c, slots := Array.replicate N .null, vm := .none } : Cell) = _
    rw [arrV_new]
    refine congrArg (arrV c N) (funext fun j => ?_)
    simp [va_rf]
  | i + 1 => by
    show (Jvm.Free.Multi.outerC c N h0 i).setSlot i (.ref (h0 + 1 + i)) = _
    rw [vr_outer c N h0 i, arrV_store]
    refine congrArg (arrV c N) (funext fun j => ?_)
    by_cases e : j = i
    · subst e
      simp [updV, va_rf]
    · by_cases h : j < i
      · simp [updV, e, h, Nat.lt_succ_of_lt h]
      · simp [updV, e, h, show ¬ j < i + 1 by omega]
/-! ===== END ===== -/

/-! ===== BEGIN exceptions that leave a method, and their catching by the caller (launches without stack traces) ===== -/
section VXA
/-! The laws vx_back, vx_callV, vx_callS, vx_callSW, vx_throw0, vx_throwS follow proofs of the library, with one case more: JvmDerived/Free/Laws.lean (Back.of_free), Shelf42/LK1.lean (callV, callS), Shelf/KitTraced.lean (throwNew0V, throwNewS). -/
/-- where a method has thrown q: the class by its name, the cell, what was written, the world -/
def vx_T (XC : String → State → State → Prop) (st : State) (q : Addr) (t : State) (mc ms : Nat) (free : Addr → Prop) : Prop :=
  ∃ (E : String) (ce : Cell) (L : List Loc), XC E st t ∧ t.heap[q]? = some ce ∧ ce.vm = .none ∧ st.vm.findClass E = some ce.cls ∧ st.WarmedH t.vm ∧ st.sameButNew ({ t with vm := st.vm } : State) L mc ms ∧ ∀ z ∈ L, free z.base
def vx_Q (Qc : Array Value → State → Outcome → State → Prop) (XC : String → State → State → Prop) (mc ms : Nat) (free : Addr → Prop) : Array Value → State → Outcome → State → Prop := fun a st o t =>
  (Qc a st o t ∧ ∃ L, FrameEnd st o t L mc ms ∧ ∀ q ∈ L, free q.base) ∨ ∃ q, o = .threw q ∧ vx_T XC st q t mc ms free
/-- a callee that returns or throws -/
def vx_Met (l : Launch) (y : MethodName) (ws : List Cond) (rm : Room) (Pc : Array Value → State → Prop) (Qc : Array Value → State → Outcome → State → Prop) (XC : String → State → State → Prop) (mc ms : Nat) (free : Addr → Prop) : Prop :=
  MetFree l y (headSpec ws rm) Pc (fun _ _ _ _ _ => True) (vx_Q Qc XC mc ms free)
def vx_Post (XC : String → State → State → Prop) (mc ms : Nat) (free : Addr → Prop) : Pt → Array Value → Addr → Pt → Prop := fun A a q B =>
  ∃ (g : JFrame) (mk : MethodId) (t : State) (L : List Loc) (E : String) (ce : Cell), B.U.heap = t.heap ∧ B.U.vm = t.vm ∧ XC E (A.U.calling g mk a) t ∧ t.heap[q]? = some ce ∧ ce.vm = .none ∧ A.U.vm.findClass E = some ce.cls ∧ B.locs = A.locs ++ L ∧ (∀ z ∈ L, free z.base) ∧ B.cells = A.cells + mc ∧ B.slots = A.slots + ms
def vx_Back (l : Launch) (R : Room) (p : Program) (e : Env) (below : List Frame) (s : State) (sargs : Array Value) (y : MethodName) (len W9 : Nat)
    (Pre : Pt → Array Value → Prop) (Post : Pt → Array Value → Option Value → Pt → Prop) (PostX : Pt → Array Value → Addr → Pt → Prop) : Prop :=
  ∀ (m : MethodId) (meth : Method) (c : Code) (A : Pt) (g : JFrame) (ig : Instr) (mk : MethodId) (a : Array Value),
    Stand p l e R s m sargs below meth c A.U A.locs A.cells A.slots → g.method = m → g.locals.size = c.maxLocals → decode c.code g.pc = .ok (ig, len) →
    2 * g.monitorRoom + (g.stack.map fun v => v.category).sum ≤ W9 → A.U.methodNamed? y = some mk → Pre A a →
    (∃ (v : Option Value) (B : Pt), Stand p l e R s m sargs below meth c B.U B.locs B.cells B.slots ∧ Post A a v B ∧
      Steps p.tables e below (doInvoke e (A.U.setTop g) [] mk a).1 (B.U.setTop { g with pc := g.pc + len, stack := v.toList ++ g.stack })) ∨
    (∃ (q : Addr) (B : Pt), Stand p l e R s m sargs below meth c B.U B.locs B.cells B.slots ∧ PostX A a q B ∧
      Steps p.tables e below (doInvoke e (A.U.setTop g) [] mk a).1 ((B.U.setTop g).pushFrame (.throwing q)))
section Payer
variable {l : Launch} {R : Room} {p : Program} {e : Env} {below : List Frame} {s : State} {sargs : Array Value} {y : MethodName} {len W9 : Nat}
theorem vx_back {ws : List Cond} {rm : Room} {Pc : Array Value → State → Prop} {Qc : Array Value → State → Outcome → State → Prop} {XC : String → State → State → Prop} {mc ms : Nat} {free : Addr → Prop} {bytes : ByteArray} {maxL : Nat} {ret : Option FieldType}
    (hM : vx_Met l y ws rm Pc Qc XC mc ms free) (hblind : FrameBlind Pc) (hrc : rm.cells = mc) (hrs : rm.slots = ms)
    (hframes : rm.frames + 1 ≤ R.frames) (hlocals : W9 + (maxL + 11) + rm.locals ≤ R.locals)
    (hws : ∀ w ∈ ws, ∀ a' U, s.WarmedH U.vm → w.before a' U = true) (hcode : Cond.code y bytes maxL ret ∈ ws) (hinit : ∀ a' U, s.WarmedH U.vm → (Cond.initialized y.cls).before a' U = true) :
    vx_Back l R p e below s sargs y len W9 (PreOf R mc ms Pc) (PostOf Qc mc ms free) (vx_Post XC mc ms free) := by
  intro m meth c A g ig mk a X hg hsize hdg hW hn hp
  have h1 : (headSpec ws rm).pre.before a A.U = true := atoms_intro fun w hw => hws w hw _ _ X.warmed
  have h2 : (Cond.code y bytes maxL ret).before a A.U = true := hws _ hcode _ _ X.warmed
  have h3 : (Cond.initialized y.cls).before a A.U = true := hinit _ _ X.warmed
  have h4 : A.cells + (headSpec ws rm).room.cells ≤ R.cells := by rw [show (headSpec ws rm).room.cells = mc from hrc]; exact hp.1
  have h5 : A.slots + (headSpec ws rm).room.slots ≤ R.slots := by rw [show (headSpec ws rm).room.slots = ms from hrs]; exact hp.2.1
  have hPc : Pc a (A.U.calling g mk a) := hblind _ _ _ _ hp.2.2
  obtain ⟨U, Ls, c0, s0⟩ := A
  dsimp only [Pt.U, Pt.locs, Pt.cells, Pt.slots] at h1 h2 h3 h4 h5 X hn hPc ⊢
  obtain ⟨methY, cY, hmY, hcY, -, hlY, -, -, -, -⟩ := Cond.code_spec hn h2
  obtain ⟨kY, hkY, -⟩ := className_of_methodNamed hn
  have hinitY : kY.init = .initialized := Cond.initialized_spec (findClass_of_methodNamed hn) hkY h3
  have h : At U g.method c below := by rw [hg]; exact X.here
  have hlocals9 : W9 + (maxL + 11) + (headSpec ws rm).room.locals ≤ R.locals := hlocals
  have happ : (headSpec ws rm).appliesLoose y e.platform (U.calling g mk a) = true :=
    Spec.appliesLoose_calling (g := g) h hdg hn hkY hinitY
      (X.room_calling (g := g) (R' := (headSpec ws rm).room) hsize hmY hcY hframes (by rw [hlY]; omega) h4 h5) h1
  obtain ⟨mid, hmid⟩ := h.above
  have hfr : (U.setTop g).frames = (.java g :: mid) ++ below := by rw [State.frames_setTop' g h.top, hmid]; rfl
  obtain ⟨o, s₂, hsteps, -, hend, hq⟩ := Steps.callFree hM p X.admits X.cas X.clock (acts := []) hfr happ hPc trivial
  have hq' : vx_Q Qc XC mc ms free a (U.calling g mk a) o s₂ := hq
  rw [State.frames_setTop' g h.top] at hend
  obtain ⟨g₀, hg0⟩ := Option.isSome_iff_exists.mp h.top
  obtain ⟨r, hr⟩ := State.topJava?_eq_some.mp hg0
  have hr' : (({ U with heap := s₂.heap, slotsUsed := s₂.slotsUsed } : State).setVm s₂.vm).frames = .java g₀ :: r := hr
  rcases hq' with ⟨hqc, L, hfe, hL⟩ | ⟨q, rfl, E, ce, L, hx, hce, hcv, hcl, hW₂, hsm, hL⟩
  · obtain ⟨⟨v, rfl⟩, hW₂, e2, q2, q3, q4, q5, q6⟩ := id hfe
    have e3 : s₂ = ({ (U.calling g mk a).setFrames s₂.frames with heap := s₂.heap, slotsUsed := s₂.slotsUsed } : State).setVm s₂.vm := by
      have : s₂ = ({ s₂ with vm := (U.calling g mk a).vm } : State).setVm s₂.vm := rfl
      rw [e2] at this
      exact this
    obtain ⟨c₂, i₂, len₂, hc₂, hd₂, hf₂⟩ := hend
    have hW' : U.WarmedH s₂.vm := hW₂
    have hcc : c₂ = c := by
      have h1 : s₂.code? g.method = U.code? g.method := by
        rw [State.code?_eq, State.code?_eq, hW'.alike.method?]
      exact Option.some.inj (hc₂.symm.trans (h1.trans h.code))
    subst hcc
    have hlen : len₂ = len := by rw [hdg] at hd₂; cases hd₂; rfl
    subst hlen
    have hs₂ : s₂ = (({ U with heap := s₂.heap, slotsUsed := s₂.slotsUsed } : State).setVm s₂.vm).setTop { g with pc := g.pc + len₂, stack := v.toList ++ g.stack } := by
      refine e3.trans ?_
      rw [hf₂, State.calling_eq h.top, State.setFrames_setFrames, State.setTop_of_frames _ hr', hr]
      rfl
    have hsame : U.sameButNew ({ U with heap := s₂.heap, slotsUsed := s₂.slotsUsed } : State) L mc ms := by
      refine ⟨?_, q2, q3, q4, q5, q6⟩
      obtain ⟨t, ht, -⟩ := State.frames_cons hr
      show ({ U with heap := s₂.heap, slotsUsed := s₂.slotsUsed } : State) = { U.setFrames U.frames with heap := s₂.heap, slotsUsed := s₂.slotsUsed }
      rw [State.setFrames_self ht]
    subst hg
    refine Or.inl ⟨v, ⟨(({ U with heap := s₂.heap, slotsUsed := s₂.slotsUsed } : State).setVm s₂.vm), Ls ++ L, c0 + mc, s0 + ms⟩,
      ⟨X.admits, X.cas, X.clock, X.frames, X.room, X.hears, X.method, X.code, (X.here.setHeapUsed s₂.heap s₂.slotsUsed).setVm hW'.alike, X.tail, State.WarmedH.trans X.warmed hW', X.limits, X.bytes, X.same.trans (hsame.setVm s.vm)⟩,
      ⟨g, mk, s₂, L, rfl, rfl, hqc, rfl, hL, rfl, rfl⟩, ?_⟩
    show Steps p.tables e below _ ((({ U with heap := s₂.heap, slotsUsed := s₂.slotsUsed } : State).setVm s₂.vm).setTop { g with pc := g.pc + len₂, stack := v.toList ++ g.stack })
    rw [← hs₂]
    exact hsteps
  · obtain ⟨e2, q2, q3, q4, q5, q6⟩ := id hsm
    have e3 : s₂ = ({ (U.calling g mk a).setFrames s₂.frames with heap := s₂.heap, slotsUsed := s₂.slotsUsed } : State).setVm s₂.vm := by
      have : s₂ = ({ s₂ with vm := (U.calling g mk a).vm } : State).setVm s₂.vm := rfl
      rw [e2] at this
      exact this
    have hf₂ : s₂.frames = .throwing q :: .java g :: U.frames.tail := hend
    have hW' : U.WarmedH s₂.vm := hW₂
    have hs₂ : s₂ = ((({ U with heap := s₂.heap, slotsUsed := s₂.slotsUsed } : State).setVm s₂.vm).setTop g).pushFrame (.throwing q) := by
      refine e3.trans ?_
      rw [hf₂, State.calling_eq h.top, State.setFrames_setFrames, State.pushFrame, State.frames_setTop _ hr', State.setTop_of_frames _ hr', State.setFrames_setFrames, hr]
      rfl
    have hsame : U.sameButNew ({ U with heap := s₂.heap, slotsUsed := s₂.slotsUsed } : State) L mc ms := by
      refine ⟨?_, q2, q3, q4, q5, q6⟩
      obtain ⟨t, ht, -⟩ := State.frames_cons hr
      show ({ U with heap := s₂.heap, slotsUsed := s₂.slotsUsed } : State) = { U.setFrames U.frames with heap := s₂.heap, slotsUsed := s₂.slotsUsed }
      rw [State.setFrames_self ht]
    subst hg
    refine Or.inr ⟨q, ⟨(({ U with heap := s₂.heap, slotsUsed := s₂.slotsUsed } : State).setVm s₂.vm), Ls ++ L, c0 + mc, s0 + ms⟩,
      ⟨X.admits, X.cas, X.clock, X.frames, X.room, X.hears, X.method, X.code, (X.here.setHeapUsed s₂.heap s₂.slotsUsed).setVm hW'.alike, X.tail, State.WarmedH.trans X.warmed hW', X.limits, X.bytes, X.same.trans (hsame.setVm s.vm)⟩,
      ⟨g, mk, s₂, L, E, ce, rfl, rfl, hx, hce, hcv, hcl, rfl, hL, rfl, rfl⟩, ?_⟩
    show Steps p.tables e below _ (((({ U with heap := s₂.heap, slotsUsed := s₂.slotsUsed } : State).setVm s₂.vm).setTop g).pushFrame (.throwing q))
    rw [← hs₂]
    exact hsteps
end Payer
section Calls
variable {p : Program} {l : Launch} {e : Env} {R : Room} {s : State} {m : MethodId} {args : Array Value} {below : List Frame} {meth : Method} {c : Code} {T : State} {locs : List Loc} {cells slots : Nat}
theorem vx_callV (X : Stand p l e R s m args below meth c T locs cells slots) (hexec : p.tables.exec = Jvm.exec) {own C : String} {index : Nat} {y : MethodName} {bytes : ByteArray} {maxL : Nat} {ret : Option FieldType}
    (hown : s.vm.findClass own = some m.cls) (hlink : (Cond.methodLink own index y).before args s = true) (hinst : (Cond.instanceMethod y).before args s = true) (hsel : (Cond.selects C y y).before args s = true)
    (hcode : (Cond.code y bytes maxL ret).before args s = true) (hy : y.cls ≠ "java/lang/invoke/MethodHandle" ∧ y.cls ≠ "java/lang/invoke/VarHandle")
    {W9 : Nat} {Pre : Pt → Array Value → Prop} {Post : Pt → Array Value → Option Value → Pt → Prop} {PostX : Pt → Array Value → Addr → Pt → Prop} (hK : vx_Back l R p e below s args y 3 W9 Pre Post PostX)
    {b : Addr} {cellB : Cell} (hcell : T.heap[b]? = some cellB) (hobj : cellB.vm.isStatics = false) (hcls : s.vm.findClass C = some cellB.cls)
    {g : JFrame} (hg : g.method = m) (hsize : g.locals.size = c.maxLocals) {argsL rest : List Value} (hlen : ∀ sig, parseMethodDescriptor y.desc = some sig → argsL.length = sig.parameters.length)
    (hstack : g.stack = argsL.reverse ++ .ref b :: rest) (hW : 2 * g.monitorRoom + (rest.map fun v => v.category).sum ≤ W9) (hdg : decode c.code g.pc = .ok (.invokevirtual index, 3))
    (hpre : ∀ vm₁, s.WarmedH vm₁ → Pre ⟨T.setVm vm₁, locs, cells, slots⟩ (Value.ref b :: argsL).toArray) :
    (∃ (v : Option Value) (vm₁ : Vm) (B : Pt), s.WarmedH vm₁ ∧ Stand p l e R s m args below meth c B.U B.locs B.cells B.slots ∧ Post ⟨T.setVm vm₁, locs, cells, slots⟩ (Value.ref b :: argsL).toArray v B ∧
      ∀ target, Steps p.tables e below (B.U.setTop { g with pc := g.pc + 3, stack := v.toList ++ rest }) target → Steps p.tables e below (T.setTop g) target) ∨
    (∃ (q : Addr) (vm₁ : Vm) (B : Pt), s.WarmedH vm₁ ∧ Stand p l e R s m args below meth c B.U B.locs B.cells B.slots ∧ PostX ⟨T.setVm vm₁, locs, cells, slots⟩ (Value.ref b :: argsL).toArray q B ∧
      Steps p.tables e below (T.setTop g) ((B.U.setTop { g with stack := rest }).pushFrame (.throwing q))) := by
  obtain ⟨mk, methM, hnamed, hmethM, hstM, habM⟩ := Cond.instanceMethod_spec hinst
  obtain ⟨methM', cM, hmethM', -, -, -, -, -, -, hsigM⟩ := Cond.code_spec hnamed hcode
  cases hmethM.symm.trans hmethM'
  obtain ⟨c2, r2, m2, q1, q2, q3, q4, kP, hkP, hkPi⟩ := Cond.selects_spec hsel
  cases hcls.symm.trans q1
  cases (State.methodFound?_of_named hnamed hy).symm.trans q2
  cases hnamed.symm.trans q3
  have hselP : selectMethod e.platform s.vm cellB.cls mk = .method mk := by rw [Launch.admits_selectMethod X.admits]; exact q4
  obtain ⟨vm₁, X₁, hstep₁⟩ := X.invokevirtual hexec hown hlink hnamed hmethM hstM hkP hkPi hy (a := b) (cell := cellB) hcell
    (fun z h => by rw [h] at hobj; cases hobj) hselP hmethM habM hkP hkPi (g := g) hg (argsL := argsL) (rest := rest) (hlen _ hsigM) hstack hdg
  rcases hK m meth c ⟨T.setVm vm₁, locs, cells, slots⟩ { g with stack := rest } (.invokevirtual index) mk (Value.ref b :: argsL).toArray X₁ hg hsize hdg hW (X₁.named hnamed) (hpre vm₁ X₁.warmed) with ⟨v, B, X', hpost, hsteps⟩ | ⟨q, B, X', hpost, hsteps⟩
  · exact Or.inl ⟨v, vm₁, B, X₁.warmed, X', hpost, fun target h => hstep₁ _ fun acts => by rw [doInvoke_state]; exact hsteps.trans h⟩
  · exact Or.inr ⟨q, vm₁, B, X₁.warmed, X', hpost, hstep₁ _ fun acts => by rw [doInvoke_state]; exact hsteps⟩
theorem vx_callS (X : Stand p l e R s m args below meth c T locs cells slots) (hexec : p.tables.exec = Jvm.exec) {own : String} {index : Nat} {y : MethodName} {bytes : ByteArray} {maxL : Nat} {ret : Option FieldType}
    (hown : s.vm.findClass own = some m.cls) (hlink : (Cond.methodLink own index y).before args s = true) (hstat : (Cond.static y).before args s = true) (hinit : (Cond.initialized y.cls).before args s = true)
    (hcode : (Cond.code y bytes maxL ret).before args s = true) (hy : y.cls ≠ "java/lang/invoke/MethodHandle" ∧ y.cls ≠ "java/lang/invoke/VarHandle")
    {W9 : Nat} {Pre : Pt → Array Value → Prop} {Post : Pt → Array Value → Option Value → Pt → Prop} {PostX : Pt → Array Value → Addr → Pt → Prop} (hK : vx_Back l R p e below s args y 3 W9 Pre Post PostX)
    {g : JFrame} (hg : g.method = m) (hsize : g.locals.size = c.maxLocals) {argsL rest : List Value} (hlen : ∀ sig, parseMethodDescriptor y.desc = some sig → argsL.length = sig.parameters.length)
    (hstack : g.stack = argsL.reverse ++ rest) (hW : 2 * g.monitorRoom + (rest.map fun v => v.category).sum ≤ W9) (hdg : decode c.code g.pc = .ok (.invokestatic index, 3))
    (hpre : ∀ vm₁, s.WarmedH vm₁ → Pre ⟨T.setVm vm₁, locs, cells, slots⟩ argsL.toArray) :
    (∃ (v : Option Value) (vm₁ : Vm) (B : Pt), s.WarmedH vm₁ ∧ Stand p l e R s m args below meth c B.U B.locs B.cells B.slots ∧ Post ⟨T.setVm vm₁, locs, cells, slots⟩ argsL.toArray v B ∧
      ∀ target, Steps p.tables e below (B.U.setTop { g with pc := g.pc + 3, stack := v.toList ++ rest }) target → Steps p.tables e below (T.setTop g) target) ∨
    (∃ (q : Addr) (vm₁ : Vm) (B : Pt), s.WarmedH vm₁ ∧ Stand p l e R s m args below meth c B.U B.locs B.cells B.slots ∧ PostX ⟨T.setVm vm₁, locs, cells, slots⟩ argsL.toArray q B ∧
      Steps p.tables e below (T.setTop g) ((B.U.setTop { g with stack := rest }).pushFrame (.throwing q))) := by
  obtain ⟨mk, hnamed⟩ := Cond.code_named hcode
  obtain ⟨methM, cM, hmethM, -, -, -, -, -, -, hsigM⟩ := Cond.code_spec hnamed hcode
  have hstatic : methM.isStatic = true := Cond.static_spec hnamed hmethM hstat
  obtain ⟨kP, hkP, -⟩ := className_of_methodNamed hnamed
  have hinitP : kP.init = .initialized := Cond.initialized_spec (findClass_of_methodNamed hnamed) hkP hinit
  obtain ⟨vm₁, X₁, hstep₁⟩ := X.invokestatic hexec hown hlink hnamed hmethM hstatic hkP hinitP hy (g := g) hg (argsL := argsL) (rest := rest) (hlen _ hsigM) hstack hdg
  rcases hK m meth c ⟨T.setVm vm₁, locs, cells, slots⟩ { g with stack := rest } (.invokestatic index) mk argsL.toArray X₁ hg hsize hdg hW (X₁.named hnamed) (hpre vm₁ X₁.warmed) with ⟨v, B, X', hpost, hsteps⟩ | ⟨q, B, X', hpost, hsteps⟩
  · exact Or.inl ⟨v, vm₁, B, X₁.warmed, X', hpost, fun target h => hstep₁ _ fun acts => by rw [doInvoke_state]; exact hsteps.trans h⟩
  · exact Or.inr ⟨q, vm₁, B, X₁.warmed, X', hpost, hstep₁ _ fun acts => by rw [doInvoke_state]; exact hsteps⟩
end Calls
theorem vx_cls {s : State} {T : State} {vm₁ : Vm} {E : String} {k : ClassId} (hW : s.WarmedH vm₁) (h : (T.setVm vm₁).vm.findClass E = some k) : s.vm.findClass E = some k := by
  have h1 : vm₁.findClass E = some k := h
  rw [hW.alike.findClass] at h1
  exact h1
/-- the method's frame g, with q thrown over it -/
def vx_W (p : Program) (l : Launch) (e : Env) (R : Room) (s : State) (m : MethodId) (args : Array Value) (below : List Frame) (meth : Method) (c : Code) (H : Heap) (locs : List Loc) (cells slots : Nat) (Q : State → Prop) (g : JFrame) (q : Addr) : Prop :=
  ∀ T : State, T.heap = H → Stand p l e R s m args below meth c T locs cells slots → ∃ t, Steps p.tables e below ((T.setTop g).pushFrame (.throwing q)) t ∧ Q t
def vx_Run (p : Program) (l : Launch) (e : Env) (R : Room) (s : State) (m : MethodId) (args : Array Value) (below : List Frame) (meth : Method) (c : Code) (H : Heap) (locs : List Loc) (cells slots mc ms : Nat) (g : JFrame) (rest : List Value) (Qa : State → Outcome → State → Prop) (XC : String → State → State → Prop) (free : Addr → Prop) : Prop :=
  ∀ T : State, T.heap = H → Stand p l e R s m args below meth c T locs cells slots →
    (∃ (v : Option Value) (st₀ t T' : State) (L : List Loc), st₀.heap = H ∧ Stand p l e R s m args below meth c T' (locs ++ L) (cells + mc) (slots + ms) ∧ (∀ q ∈ L, free q.base) ∧ T'.heap = t.heap ∧ T'.vm = t.vm ∧ Qa st₀ (.returned v) t ∧
      Goes p e below T g T' { g with pc := g.pc + 3, stack := v.toList ++ rest }) ∨
    (∃ (q : Addr) (st₀ t T' : State) (L : List Loc) (E : String) (ce : Cell), st₀.heap = H ∧ Stand p l e R s m args below meth c T' (locs ++ L) (cells + mc) (slots + ms) ∧ (∀ z ∈ L, free z.base) ∧ T'.heap = t.heap ∧ T'.vm = t.vm ∧ XC E st₀ t ∧ t.heap[q]? = some ce ∧ ce.vm = .none ∧ s.vm.findClass E = some ce.cls ∧
      Steps p.tables e below (T.setTop g) ((T'.setTop { g with stack := rest }).pushFrame (.throwing q)))
def vx_X {S : Type} (px : S → Prop) (B : String → S → State → Prop) (A : Nat → Prop) : String → State → State → Prop := fun E st t => ∃ u : S, px u ∧ B E u t ∧ va_F A st t
section Runs
variable {p : Program} {l : Launch} {e : Env} {R : Room} {s : State} {m : MethodId} {args : Array Value} {below : List Frame} {meth : Method} {c : Code} {H : Heap} {locs : List Loc} {cells slots : Nat}
variable {y : MethodName} {bytes cc : ByteArray} {maxL nL mc ms n index : Nat} {ret : Option FieldType} {ws : List Cond} {rm : Room} {Pc : Array Value → State → Prop} {Qc : Array Value → State → Outcome → State → Prop} {XC : String → State → State → Prop} {free : Addr → Prop} {Ts : List Cond} {own C : String} {b : Addr} {As rest : List Value} {g : JFrame}
theorem vx_callBack (cb : CallB R s args own index y bytes maxL ret ws rm mc ms n) (hM : vx_Met l y ws rm Pc Qc XC mc ms free) (hbl : FrameBlind Pc) : vx_Back l R p e below s args y 3 8 (PreOf R mc ms Pc) (PostOf Qc mc ms free) (vx_Post XC mc ms free) := by
  obtain ⟨hrc, hrs, hfr, hlo, hws, hcw, -, hini, -⟩ := cb
  exact vx_back (bytes := bytes) (maxL := maxL) (ret := ret) hM hbl hrc hrs hfr hlo hws hcw (fun a' U hW => word_at hW (Or.inl (by first | rfl | simp [Cond.onTables, Cond.keeps, Cond.steady])) hini)
theorem vx_runV (S : CallFix p m c cc nL s args Ts own) (hM : vx_Met l y ws rm Pc Qc XC mc ms free) (cw : CallW R s args own C index y bytes maxL ret ws rm mc ms n) (hp : PreV s H C b Pc As)
    (hg : g.method = m) (hn : As.length = n) (hsize : g.locals.size = nL) (hstack : g.stack = As.reverse ++ .ref b :: rest) (hW : 2 * g.monitorRoom + (rest.map fun v => v.category).sum ≤ 8) (hdg : decode cc g.pc = .ok (.invokevirtual index, 3)) (hf : cells + mc ≤ R.cells ∧ slots + ms ≤ R.slots) :
    vx_Run p l e R s m args below meth c H locs cells slots mc ms g rest (Qc (Value.ref b :: As).toArray) XC free := by
  have hK : vx_Back l R p e below s args y 3 8 (PreOf R mc ms Pc) (PostOf Qc mc ms free) (vx_Post XC mc ms free) := vx_callBack cw.1 hM hp.1
  obtain ⟨⟨-, -, -, -, -, -, hcode, -, hy, hlen, hl⟩, hin, hse⟩ := cw
  obtain ⟨hx, hb, hml, ho, -⟩ := S
  obtain ⟨-, ⟨cellB, hcB, hoB, hclB⟩, hPc⟩ := hp
  intro T hT X
  rcases vx_callV X hx (C := C) (bytes := bytes) (maxL := maxL) (ret := ret) ho hl hin hse hcode hy hK (by rw [hT]; exact hcB) hoB hclB hg (hsize.trans hml.symm) (argsL := As) (rest := rest) (fun sig h => hn.trans (hlen sig h)) hstack hW (by rw [hb]; exact hdg)
    (fun vm₁ hW₁ => ⟨hf.1, hf.2, hPc (T.setVm vm₁) hT hW₁⟩) with ⟨v, vm₁, ⟨U', l2, c2, s2⟩, hW₁, X', ⟨g', mk, t, L, e1, e2, hq, h1, hL, h2, h3⟩, st⟩ | ⟨q, vm₁, ⟨U', l2, c2, s2⟩, hW₁, X', ⟨g', mk, t, L, E, ce, e1, e2, hq, hce, hcv, hcl, h1, hL, h2, h3⟩, st⟩
  · dsimp only [Pt.U, Pt.locs, Pt.cells, Pt.slots] at X' e1 e2 h1 h2 h3 st
    subst h1; subst h2; subst h3
    exact Or.inl ⟨v, (T.setVm vm₁).calling g' mk (Value.ref b :: As).toArray, t, U', L, hT, X', hL, e1, e2, hq, st⟩
  · dsimp only [Pt.U, Pt.locs, Pt.cells, Pt.slots] at X' e1 e2 h1 h2 h3 st hcl
    subst h1; subst h2; subst h3
    exact Or.inr ⟨q, (T.setVm vm₁).calling g' mk (Value.ref b :: As).toArray, t, U', L, E, ce, hT, X', hL, e1, e2, hq, hce, hcv, vx_cls hW₁ hcl, st⟩
theorem vx_runS (S : CallFix p m c cc nL s args Ts own) (hM : vx_Met l y ws rm Pc Qc XC mc ms free) (cw : CallB R s args own index y bytes maxL ret ws rm mc ms n ∧ (Cond.static y).before args s = true) (hp : PreS s H Pc As)
    (hg : g.method = m) (hn : As.length = n) (hsize : g.locals.size = nL) (hstack : g.stack = As.reverse ++ rest) (hW : 2 * g.monitorRoom + (rest.map fun v => v.category).sum ≤ 8) (hdg : decode cc g.pc = .ok (.invokestatic index, 3)) (hf : cells + mc ≤ R.cells ∧ slots + ms ≤ R.slots) :
    vx_Run p l e R s m args below meth c H locs cells slots mc ms g rest (Qc As.toArray) XC free := by
  have hK : vx_Back l R p e below s args y 3 8 (PreOf R mc ms Pc) (PostOf Qc mc ms free) (vx_Post XC mc ms free) := vx_callBack cw.1 hM hp.1
  obtain ⟨⟨-, -, -, -, -, -, hcode, hini, hy, hlen, hl⟩, hstt⟩ := cw
  obtain ⟨hx, hb, hml, ho, -⟩ := S
  intro T hT X
  rcases vx_callS X hx (bytes := bytes) (maxL := maxL) (ret := ret) ho hl hstt hini hcode hy hK hg (hsize.trans hml.symm) (argsL := As) (rest := rest) (fun sig h => hn.trans (hlen sig h)) hstack hW (by rw [hb]; exact hdg)
    (fun vm₁ hW₁ => ⟨hf.1, hf.2, hp.2 (T.setVm vm₁) hT hW₁⟩) with ⟨v, vm₁, ⟨U', l2, c2, s2⟩, hW₁, X', ⟨g', mk, t, L, e1, e2, hq, h1, hL, h2, h3⟩, st⟩ | ⟨q, vm₁, ⟨U', l2, c2, s2⟩, hW₁, X', ⟨g', mk, t, L, E, ce, e1, e2, hq, hce, hcv, hcl, h1, hL, h2, h3⟩, st⟩
  · dsimp only [Pt.U, Pt.locs, Pt.cells, Pt.slots] at X' e1 e2 h1 h2 h3 st
    subst h1; subst h2; subst h3
    exact Or.inl ⟨v, (T.setVm vm₁).calling g' mk As.toArray, t, U', L, hT, X', hL, e1, e2, hq, st⟩
  · dsimp only [Pt.U, Pt.locs, Pt.cells, Pt.slots] at X' e1 e2 h1 h2 h3 st hcl
    subst h1; subst h2; subst h3
    exact Or.inr ⟨q, (T.setVm vm₁).calling g' mk As.toArray, t, U', L, E, ce, hT, X', hL, e1, e2, hq, hce, hcv, vx_cls hW₁ hcl, st⟩
end Runs
section Rows
variable {p : Program} {l : Launch} {e : Env} {R : Room} {s : State} {m : MethodId} {args : Array Value} {below : List Frame} {meth : Method} {c : Code} {H : Heap} {locs : List Loc} {cells slots : Nat} {Q : State → Prop}
variable {mc ms : Nat} {free : Addr → Prop} {A0 A1 : Nat → Prop} {H0 : Heap} {a : Array Value} {pc : Nat} {ls : Array Slot} {st0 rest : List Value}
theorem vx_keep {st₀ t T' : State} {L : List Loc} (h0 : st₀.heap = H) (e1 : T'.heap = t.heap) (hS : va_S A0 H0 H locs) (hA : ∀ q, q < H.size → A1 q → A0 q) (hf : ∀ q, free q → A0 q) (hL : ∀ q ∈ L, free q.base) (hF : va_F A1 st₀ t) :
    H.size ≤ T'.heap.size ∧ (∀ q : Nat, q < H.size → ¬ A1 q → T'.heap[q]? = H[q]?) ∧ va_S A0 H0 T'.heap (locs ++ L) := by
  obtain ⟨hz, hk⟩ := hF
  rw [h0] at hz hk
  exact ⟨by rw [e1]; exact hz, fun q h1 h2 => by rw [e1]; exact hk q h1 h2,
    ⟨Nat.le_trans hS.1 (by rw [e1]; exact hz), fun q h1 h2 => by rw [e1, hk q (Nat.lt_of_lt_of_le h1 hS.1) (fun z => h2 (hA q (Nat.lt_of_lt_of_le h1 hS.1) z))]; exact hS.2.1 q h1 h2, fun q hq => by
      rcases List.mem_append.mp hq with h | h
      · exact hS.2.2 q h
      · exact hf _ (hL q h)⟩⟩
theorem vx_calli {S SX : Type} {post : Int32 → S → Prop} {px : SX → Prop} {B : S → State → Prop} {BX : String → SX → State → Prop} {AX : Nat → Prop} (hr : vx_Run p l e R s m args below meth c H locs cells slots mc ms (F0 m pc ls st0) rest (va_Qi post B A1 a) (vx_X px BX AX) free) (hS : va_S A0 H0 H locs) (hA : ∀ q, q < H.size → A1 q → A0 q) (hf : ∀ q, free q → A0 q) (hAX : ∀ q, q < H.size → AX q → A0 q)
    (kx : ∀ (E : String) (ce : Cell) (q9 : Addr) (u : SX) (t : State) (H1 : Heap) (locs1 : List Loc), t.heap = H1 → s.vm.Alike t.vm → px u → BX E u t → H.size ≤ H1.size → (∀ q : Nat, q < H.size → ¬ AX q → H1[q]? = H[q]?) → va_S A0 H0 H1 locs1 → H1[q9]? = some ce → ce.vm = .none → s.vm.findClass E = some ce.cls → vx_W p l e R s m args below meth c H1 locs1 (cells + mc) (slots + ms) Q (F0 m pc ls rest) q9)
    (kk : ∀ (r : Int32) (u : S) (t : State) (H1 : Heap) (locs1 : List Loc), t.heap = H1 → s.vm.Alike t.vm → post r u → B u t → H.size ≤ H1.size → (∀ q : Nat, q < H.size → ¬ A1 q → H1[q]? = H[q]?) → va_S A0 H0 H1 locs1 → W p l e R s m args below meth c H1 locs1 (cells + mc) (slots + ms) Q (F0 m (pc + 3) ls (.int r :: rest))) : W p l e R s m args below meth c H locs cells slots Q (F0 m pc ls st0) := by
  intro T hT X
  rcases hr T hT X with ⟨v, st₀, t, T', L, h0, X', hL, e1, e2, ⟨⟨r, u, hv, hp, hb⟩, hF⟩, st⟩ | ⟨q, st₀, t, T', L, E, ce, h0, X', hL, e1, e2, ⟨u, hp, hb, hF⟩, hce, hcv, hcl, st⟩
  · cases hv
    obtain ⟨k1, k2, k3⟩ := vx_keep h0 e1 hS hA hf hL hF
    obtain ⟨t2, a1, b1⟩ := kk r u t T'.heap (locs ++ L) e1.symm (by rw [← e2]; exact X'.warmed.alike) hp hb k1 k2 k3 T' rfl X'
    exact ⟨t2, st t2 a1, b1⟩
  · obtain ⟨k1, k2, k3⟩ := vx_keep h0 e1 hS hAX hf hL hF
    obtain ⟨t2, a1, b1⟩ := kx E ce q u t T'.heap (locs ++ L) e1.symm (by rw [← e2]; exact X'.warmed.alike) hp hb k1 k2 k3 (by rw [e1]; exact hce) hcv hcl T' rfl X'
    exact ⟨t2, st.trans a1, b1⟩
theorem vx_calll {S SX : Type} {post : Int64 → S → Prop} {px : SX → Prop} {B : S → State → Prop} {BX : String → SX → State → Prop} {AX : Nat → Prop} (hr : vx_Run p l e R s m args below meth c H locs cells slots mc ms (F0 m pc ls st0) rest (va_Ql post B A1 a) (vx_X px BX AX) free) (hS : va_S A0 H0 H locs) (hA : ∀ q, q < H.size → A1 q → A0 q) (hf : ∀ q, free q → A0 q) (hAX : ∀ q, q < H.size → AX q → A0 q)
    (kx : ∀ (E : String) (ce : Cell) (q9 : Addr) (u : SX) (t : State) (H1 : Heap) (locs1 : List Loc), t.heap = H1 → s.vm.Alike t.vm → px u → BX E u t → H.size ≤ H1.size → (∀ q : Nat, q < H.size → ¬ AX q → H1[q]? = H[q]?) → va_S A0 H0 H1 locs1 → H1[q9]? = some ce → ce.vm = .none → s.vm.findClass E = some ce.cls → vx_W p l e R s m args below meth c H1 locs1 (cells + mc) (slots + ms) Q (F0 m pc ls rest) q9)
    (kk : ∀ (r : Int64) (u : S) (t : State) (H1 : Heap) (locs1 : List Loc), t.heap = H1 → s.vm.Alike t.vm → post r u → B u t → H.size ≤ H1.size → (∀ q : Nat, q < H.size → ¬ A1 q → H1[q]? = H[q]?) → va_S A0 H0 H1 locs1 → W p l e R s m args below meth c H1 locs1 (cells + mc) (slots + ms) Q (F0 m (pc + 3) ls (.long r :: rest))) : W p l e R s m args below meth c H locs cells slots Q (F0 m pc ls st0) := by
  intro T hT X
  rcases hr T hT X with ⟨v, st₀, t, T', L, h0, X', hL, e1, e2, ⟨⟨r, u, hv, hp, hb⟩, hF⟩, st⟩ | ⟨q, st₀, t, T', L, E, ce, h0, X', hL, e1, e2, ⟨u, hp, hb, hF⟩, hce, hcv, hcl, st⟩
  · cases hv
    obtain ⟨k1, k2, k3⟩ := vx_keep h0 e1 hS hA hf hL hF
    obtain ⟨t2, a1, b1⟩ := kk r u t T'.heap (locs ++ L) e1.symm (by rw [← e2]; exact X'.warmed.alike) hp hb k1 k2 k3 T' rfl X'
    exact ⟨t2, st t2 a1, b1⟩
  · obtain ⟨k1, k2, k3⟩ := vx_keep h0 e1 hS hAX hf hL hF
    obtain ⟨t2, a1, b1⟩ := kx E ce q u t T'.heap (locs ++ L) e1.symm (by rw [← e2]; exact X'.warmed.alike) hp hb k1 k2 k3 (by rw [e1]; exact hce) hcv hcl T' rfl X'
    exact ⟨t2, st.trans a1, b1⟩
theorem vx_callf {S SX : Type} {post : UInt32 → S → Prop} {px : SX → Prop} {B : S → State → Prop} {BX : String → SX → State → Prop} {AX : Nat → Prop} (hr : vx_Run p l e R s m args below meth c H locs cells slots mc ms (F0 m pc ls st0) rest (va_Qf post B A1 a) (vx_X px BX AX) free) (hS : va_S A0 H0 H locs) (hA : ∀ q, q < H.size → A1 q → A0 q) (hf : ∀ q, free q → A0 q) (hAX : ∀ q, q < H.size → AX q → A0 q)
    (kx : ∀ (E : String) (ce : Cell) (q9 : Addr) (u : SX) (t : State) (H1 : Heap) (locs1 : List Loc), t.heap = H1 → s.vm.Alike t.vm → px u → BX E u t → H.size ≤ H1.size → (∀ q : Nat, q < H.size → ¬ AX q → H1[q]? = H[q]?) → va_S A0 H0 H1 locs1 → H1[q9]? = some ce → ce.vm = .none → s.vm.findClass E = some ce.cls → vx_W p l e R s m args below meth c H1 locs1 (cells + mc) (slots + ms) Q (F0 m pc ls rest) q9)
    (kk : ∀ (r : UInt32) (u : S) (t : State) (H1 : Heap) (locs1 : List Loc), t.heap = H1 → s.vm.Alike t.vm → post r u → B u t → H.size ≤ H1.size → (∀ q : Nat, q < H.size → ¬ A1 q → H1[q]? = H[q]?) → va_S A0 H0 H1 locs1 → W p l e R s m args below meth c H1 locs1 (cells + mc) (slots + ms) Q (F0 m (pc + 3) ls (.float r :: rest))) : W p l e R s m args below meth c H locs cells slots Q (F0 m pc ls st0) := by
  intro T hT X
  rcases hr T hT X with ⟨v, st₀, t, T', L, h0, X', hL, e1, e2, ⟨⟨r, u, hv, hp, hb⟩, hF⟩, st⟩ | ⟨q, st₀, t, T', L, E, ce, h0, X', hL, e1, e2, ⟨u, hp, hb, hF⟩, hce, hcv, hcl, st⟩
  · cases hv
    obtain ⟨k1, k2, k3⟩ := vx_keep h0 e1 hS hA hf hL hF
    obtain ⟨t2, a1, b1⟩ := kk r u t T'.heap (locs ++ L) e1.symm (by rw [← e2]; exact X'.warmed.alike) hp hb k1 k2 k3 T' rfl X'
    exact ⟨t2, st t2 a1, b1⟩
  · obtain ⟨k1, k2, k3⟩ := vx_keep h0 e1 hS hAX hf hL hF
    obtain ⟨t2, a1, b1⟩ := kx E ce q u t T'.heap (locs ++ L) e1.symm (by rw [← e2]; exact X'.warmed.alike) hp hb k1 k2 k3 (by rw [e1]; exact hce) hcv hcl T' rfl X'
    exact ⟨t2, st.trans a1, b1⟩
theorem vx_calld {S SX : Type} {post : UInt64 → S → Prop} {px : SX → Prop} {B : S → State → Prop} {BX : String → SX → State → Prop} {AX : Nat → Prop} (hr : vx_Run p l e R s m args below meth c H locs cells slots mc ms (F0 m pc ls st0) rest (va_Qd post B A1 a) (vx_X px BX AX) free) (hS : va_S A0 H0 H locs) (hA : ∀ q, q < H.size → A1 q → A0 q) (hf : ∀ q, free q → A0 q) (hAX : ∀ q, q < H.size → AX q → A0 q)
    (kx : ∀ (E : String) (ce : Cell) (q9 : Addr) (u : SX) (t : State) (H1 : Heap) (locs1 : List Loc), t.heap = H1 → s.vm.Alike t.vm → px u → BX E u t → H.size ≤ H1.size → (∀ q : Nat, q < H.size → ¬ AX q → H1[q]? = H[q]?) → va_S A0 H0 H1 locs1 → H1[q9]? = some ce → ce.vm = .none → s.vm.findClass E = some ce.cls → vx_W p l e R s m args below meth c H1 locs1 (cells + mc) (slots + ms) Q (F0 m pc ls rest) q9)
    (kk : ∀ (r : UInt64) (u : S) (t : State) (H1 : Heap) (locs1 : List Loc), t.heap = H1 → s.vm.Alike t.vm → post r u → B u t → H.size ≤ H1.size → (∀ q : Nat, q < H.size → ¬ A1 q → H1[q]? = H[q]?) → va_S A0 H0 H1 locs1 → W p l e R s m args below meth c H1 locs1 (cells + mc) (slots + ms) Q (F0 m (pc + 3) ls (.double r :: rest))) : W p l e R s m args below meth c H locs cells slots Q (F0 m pc ls st0) := by
  intro T hT X
  rcases hr T hT X with ⟨v, st₀, t, T', L, h0, X', hL, e1, e2, ⟨⟨r, u, hv, hp, hb⟩, hF⟩, st⟩ | ⟨q, st₀, t, T', L, E, ce, h0, X', hL, e1, e2, ⟨u, hp, hb, hF⟩, hce, hcv, hcl, st⟩
  · cases hv
    obtain ⟨k1, k2, k3⟩ := vx_keep h0 e1 hS hA hf hL hF
    obtain ⟨t2, a1, b1⟩ := kk r u t T'.heap (locs ++ L) e1.symm (by rw [← e2]; exact X'.warmed.alike) hp hb k1 k2 k3 T' rfl X'
    exact ⟨t2, st t2 a1, b1⟩
  · obtain ⟨k1, k2, k3⟩ := vx_keep h0 e1 hS hAX hf hL hF
    obtain ⟨t2, a1, b1⟩ := kx E ce q u t T'.heap (locs ++ L) e1.symm (by rw [← e2]; exact X'.warmed.alike) hp hb k1 k2 k3 (by rw [e1]; exact hce) hcv hcl T' rfl X'
    exact ⟨t2, st.trans a1, b1⟩
theorem vx_callv {S SX : Type} {post : S → Prop} {px : SX → Prop} {B : S → State → Prop} {BX : String → SX → State → Prop} {AX : Nat → Prop} (hr : vx_Run p l e R s m args below meth c H locs cells slots mc ms (F0 m pc ls st0) rest (va_Qv post B A1 a) (vx_X px BX AX) free) (hS : va_S A0 H0 H locs) (hA : ∀ q, q < H.size → A1 q → A0 q) (hf : ∀ q, free q → A0 q) (hAX : ∀ q, q < H.size → AX q → A0 q)
    (kx : ∀ (E : String) (ce : Cell) (q9 : Addr) (u : SX) (t : State) (H1 : Heap) (locs1 : List Loc), t.heap = H1 → s.vm.Alike t.vm → px u → BX E u t → H.size ≤ H1.size → (∀ q : Nat, q < H.size → ¬ AX q → H1[q]? = H[q]?) → va_S A0 H0 H1 locs1 → H1[q9]? = some ce → ce.vm = .none → s.vm.findClass E = some ce.cls → vx_W p l e R s m args below meth c H1 locs1 (cells + mc) (slots + ms) Q (F0 m pc ls rest) q9)
    (kk : ∀ (u : S) (t : State) (H1 : Heap) (locs1 : List Loc), t.heap = H1 → s.vm.Alike t.vm → post u → B u t → H.size ≤ H1.size → (∀ q : Nat, q < H.size → ¬ A1 q → H1[q]? = H[q]?) → va_S A0 H0 H1 locs1 → W p l e R s m args below meth c H1 locs1 (cells + mc) (slots + ms) Q (F0 m (pc + 3) ls (rest))) : W p l e R s m args below meth c H locs cells slots Q (F0 m pc ls st0) := by
  intro T hT X
  rcases hr T hT X with ⟨v, st₀, t, T', L, h0, X', hL, e1, e2, ⟨⟨u, hv, hp, hb⟩, hF⟩, st⟩ | ⟨q, st₀, t, T', L, E, ce, h0, X', hL, e1, e2, ⟨u, hp, hb, hF⟩, hce, hcv, hcl, st⟩
  · cases hv
    obtain ⟨k1, k2, k3⟩ := vx_keep h0 e1 hS hA hf hL hF
    obtain ⟨t2, a1, b1⟩ := kk u t T'.heap (locs ++ L) e1.symm (by rw [← e2]; exact X'.warmed.alike) hp hb k1 k2 k3 T' rfl X'
    exact ⟨t2, st t2 a1, b1⟩
  · obtain ⟨k1, k2, k3⟩ := vx_keep h0 e1 hS hAX hf hL hF
    obtain ⟨t2, a1, b1⟩ := kx E ce q u t T'.heap (locs ++ L) e1.symm (by rw [← e2]; exact X'.warmed.alike) hp hb k1 k2 k3 (by rw [e1]; exact hce) hcv hcl T' rfl X'
    exact ⟨t2, st.trans a1, b1⟩
/-- caught by the row x of this method's table; the rows ahead don't take it -/
theorem vx_catch {own name : String} {E : String} {ce : Cell} {q : Addr} (hown : s.vm.findClass own = some m.cls) (pre : List ExceptionTableEntry) (x : ExceptionTableEntry) (suf : List ExceptionTableEntry) (hsplit : c.exceptionTable.toList = pre ++ x :: suf)
    (hpass : ∀ z ∈ pre, covers z pc = false ∨ (z.catchType ≠ 0 ∧ ∃ nm : String, (Cond.classLink own z.catchType nm).before args s = true ∧ va_Nc E nm s)) (hx : covers x pc = true) (h0 : x.catchType ≠ 0)
    (hlink : (Cond.classLink own x.catchType name).before args s = true) (hcast : (Cond.castable E name).before args s = true) (hcell : H[q]? = some ce) (hv : ce.vm = .none) (hcl : s.vm.findClass E = some ce.cls)
    (kk : W p l e R s m args below meth c H locs cells slots Q (F0 m x.handlerPc ls [.ref q])) : vx_W p l e R s m args below meth c H locs cells slots Q (F0 m pc ls rest) q := by
  intro T hT X
  have hpl : e.platform.magicAccessors = ({} : Platform).magicAccessors := by rw [X.admits.platform]
  obtain ⟨c3, c4, hc3, hc4, hasg⟩ := Cond.castable_spec hcast
  cases Option.some.inj (hc3.symm.trans hcl)
  obtain ⟨c5, hc5, hcl5⟩ := Cond.classLink_spec hown hlink e.platform hpl
  cases Option.some.inj (hc4.symm.trans hc5)
  obtain ⟨vm', X', st⟩ := X.thenCaughtThrough q (g := F0 m pc ls rest) rfl (Steps.refl _) (by rw [hT]; exact hcell) (by rw [hv]; rfl) (by obtain ⟨k9, h9, -⟩ := Vm.findClass_spec hcl; exact ⟨k9, h9⟩) pre x suf hsplit
    (fun z hz => by
      rcases hpass z hz with h | ⟨hz0, nm, hl1, hn1⟩
      · exact Or.inl h
      · obtain ⟨c6, hc6, hcl6⟩ := Cond.classLink_spec hown hl1 e.platform hpl
        obtain ⟨a8, b8, h1, h2, h3⟩ := hn1
        cases Option.some.inj (h1.symm.trans hcl)
        cases Option.some.inj (h2.symm.trans hc6)
        exact Or.inr ⟨hz0, _, hcl6, h3⟩) hx (Or.inr ⟨h0, c4, hcl5, hasg⟩)
  obtain ⟨t, a1, b1⟩ := kk (T.setVm vm') hT X'
  exact ⟨t, st.trans a1, b1⟩
end Rows
section Ends
variable {p : Program} {l : Launch} {e : Env} {R : Room} {s : State} {m : MethodId} {args : Array Value} {below : List Frame} {meth : Method} {c : Code} {H : Heap} {locs : List Loc} {cells slots : Nat} {Q : State → Prop}
variable {mc ms : Nat} {free : Addr → Prop} {A0 A1 : Nat → Prop} {H0 : Heap} {a : Array Value} {ls : Array Slot} {st0 rest : List Value}
variable {Qc : Array Value → State → Outcome → State → Prop} {XC : String → State → State → Prop}
/-- what a body that may throw owes at its end -/
def vx_MQ (below : List Frame) (Qc : Array Value → State → Outcome → State → Prop) (XC : String → State → State → Prop) (a : Array Value) (s : State) (mc ms : Nat) (free : Addr → Prop) : State → Prop := fun t =>
  ∃ o, t.status = .running ∧ Ended t below o ∧ vx_Q Qc XC mc ms free a s o t
theorem vx_ret {g : JFrame} {mc ms : Nat} (k : W p l e R s m args below meth c H locs cells slots (MQ below Qc args s mc ms free) g) : W p l e R s m args below meth c H locs cells slots (vx_MQ below Qc XC args s mc ms free) g := by
  intro T hT X
  obtain ⟨t, a1, o, b1, b2, b3, b4⟩ := k T hT X
  exact ⟨t, a1, o, b1, b2, Or.inl ⟨b3, b4⟩⟩
/-- not caught here: it goes on to the caller -/
theorem vx_widen {g : JFrame} {q : Addr} {k n : Nat} (h1 : cells ≤ k) (h2 : slots ≤ n) (kk : vx_W p l e R s m args below meth c H locs k n Q g q) : vx_W p l e R s m args below meth c H locs cells slots Q g q := fun T hT X => kk T hT (stand_widen X h1 h2)
theorem vx_out {pc : Nat} {E : String} {ce : Cell} {q : Addr} {mc ms : Nat} (hout : ∀ x ∈ c.exceptionTable.toList, covers x pc = false) (hlocks : meth.locks = false) (hcell : H[q]? = some ce) (hv : ce.vm = .none) (hcl : s.vm.findClass E = some ce.cls)
    (hx : ∀ t : State, t.heap = H → s.vm.Alike t.vm → XC E s t) (hf : ∀ z ∈ locs, free z.base) (hc : cells ≤ mc) (hs : slots ≤ ms) :
    vx_W p l e R s m args below meth c H locs cells slots (vx_MQ below Qc XC args s mc ms free) (F0 m pc ls rest) q := by
  intro T hT X
  obtain ⟨st1, hrun, hend, hW, hsm⟩ := X.leaveThrown q (g := F0 m pc ls rest) rfl rfl rfl hout hlocks
  have hcell9 : (T.setFrames (.throwing q :: below)).heap[q]? = some ce := by
    show T.heap[q]? = some ce
    rw [hT]; exact hcell
  exact ⟨_, st1, .threw q, hrun, hend, Or.inr ⟨q, rfl, E, ce, locs, hx _ hT hW.alike, hcell9, hv, hcl, hW, hsm.mono hc hs, hf⟩⟩
theorem vx_frame {U : State} {k n : Nat} (h : s.sameButNew ({ U with vm := s.vm } : State) locs k n) : s.heap.size ≤ U.heap.size ∧ ∀ q : Nat, q < s.heap.size → (∀ z ∈ locs, z.base ≠ q) → U.heap[q]? = s.heap[q]? := by
  obtain ⟨-, h2, -, -, -, h6⟩ := h
  refine ⟨h2, fun q hq hz => ?_⟩
  obtain ⟨c9, e1, e2, e3, e4⟩ := h6 q _ (Array.getElem?_eq_getElem hq)
  have hs : c9.slots = (s.heap[q]).slots := Array.ext_getElem? fun i => e4 i fun hm => hz _ hm rfl
  have h9 : c9 = s.heap[q] := by
    rw [hs] at e2
    exact e2
  have e5 : U.heap[q]? = some c9 := e1
  rw [e5, h9, Array.getElem?_eq_getElem hq]
/-- the words of a throw but the four that speak of the heap -/
def vx_no (w : Cond) : Bool := decide (w ≠ .isRef (.static Bundle.tN "UNASSIGNED_STACK" Bundle.steD)) && decide (w ≠ .isRef (.static Bundle.tN "SUPPRESSED_SENTINEL" Bundle.listD)) && decide (w ≠ .laysStatic Bundle.tN "UNASSIGNED_STACK" Bundle.steD) && decide (w ≠ .laysStatic Bundle.tN "SUPPRESSED_SENTINEL" Bundle.listD)
def vx_at0 (own : String) (ic : Nat) (X : String) (names : List String) : List Cond := (Bundle.ownAtoms0 own ic X names).filter vx_no
def vx_atS (own : String) (ic : Nat) (X : String) (names : List String) : List Cond := (Bundle.ownAtoms own ic X names).filter vx_no
/-- a word that the tables alone decide, or a good one -/
def vx_ot (w : Cond) : Bool := w.onTables || goodWord w
theorem vx_ot_at {args a' : Array Value} {s U : State} {w : Cond} (hW : s.WarmedH U.vm) (hvm : s.vm = U.vm) (hg : vx_ot w = true) (h : w.before args s = true) : w.before a' U = true := by
  simp only [vx_ot, Bool.or_eq_true] at hg
  rcases hg with hg | hg
  · exact va_tabs hg hvm h
  · exact word_at hW (good_of_word hg) h
/-- a list's words: the good ones out of the method's own list, the others by premises of their own -/
theorem vx_hat {args : Array Value} {s : State} {L B : List Cond} (h1 : ∀ w ∈ L.filter goodWord, w.before args s = true) (h2 : ∀ w ∈ L.filter (fun w => !goodWord w), w ∈ B) (h3 : ∀ w ∈ B, w.before args s = true) : ∀ w ∈ L, w.before args s = true := by
  intro w hw
  by_cases g : goodWord w = true
  · exact h1 w (List.mem_filter.mpr ⟨hw, g⟩)
  · refine h3 w (h2 w (List.mem_filter.mpr ⟨hw, ?_⟩))
    show (!goodWord w) = true
    cases hgw : goodWord w
    · rfl
    · exact absurd hgw g
theorem vx_c {args : Array Value} {s : State} {w : Cond} {B : List Cond} (h : w.before args s = true) (t : ∀ w ∈ B, w.before args s = true) : ∀ w' ∈ w :: B, w'.before args s = true := fun w' h' => (List.mem_cons.mp h').elim (fun e => by rw [e]; exact h) (t w')
theorem vx_n {args : Array Value} {s : State} : ∀ w ∈ ([] : List Cond), w.before args s = true := fun _ h => nomatch h
theorem vx_own {args : Array Value} {s : State} {L : List Cond} (h1 : ∀ w ∈ L.filter vx_no, w.before args s = true)
    (hU : (Cond.isRef (.static Bundle.tN "UNASSIGNED_STACK" Bundle.steD)).before args s = true) (hN : (Cond.isRef (.static Bundle.tN "SUPPRESSED_SENTINEL" Bundle.listD)).before args s = true)
    (lU : (Cond.laysStatic Bundle.tN "UNASSIGNED_STACK" Bundle.steD).before args s = true) (lN : (Cond.laysStatic Bundle.tN "SUPPRESSED_SENTINEL" Bundle.listD).before args s = true) : ∀ w ∈ L, w.before args s = true := by
  intro w hw
  by_cases e1 : w = .isRef (.static Bundle.tN "UNASSIGNED_STACK" Bundle.steD)
  · rw [e1]; exact hU
  · by_cases e2 : w = .isRef (.static Bundle.tN "SUPPRESSED_SENTINEL" Bundle.listD)
    · rw [e2]; exact hN
    · by_cases e3 : w = .laysStatic Bundle.tN "UNASSIGNED_STACK" Bundle.steD
      · rw [e3]; exact lU
      · by_cases e4 : w = .laysStatic Bundle.tN "SUPPRESSED_SENTINEL" Bundle.listD
        · rw [e4]; exact lN
        · exact h1 w (List.mem_filter.mpr ⟨hw, by unfold vx_no; rw [decide_eq_true e1, decide_eq_true e2, decide_eq_true e3, decide_eq_true e4]; rfl⟩)
/-- where a static field lies, its class's statics cell in H -/
def vx_L (C n d : String) (A : Nat → Prop) (U : State) (H : Heap) : Prop := ∃ (c : ClassId) (k : Class) (i : Nat) (f : Field) (a : Nat) (cell : Cell), U.vm.findClass C = some c ∧ U.fieldFound? C n d = some (c, k, i, f) ∧ f.isStatic = true ∧ k.statics = some a ∧ H[a]? = some cell ∧ cell.vm.isStatics = true ∧ cell.cls = c ∧ f.slot < cell.slots.size ∧ k.staticTypes[f.slot]? = some f.type ∧ ¬ A a
theorem vx_L.moved {C n d : String} {A : Nat → Prop} {u U : State} {H : Heap} (hvm : u.vm.Alike U.vm) (h : vx_L C n d A u H) : vx_L C n d A U H := by
  obtain ⟨c, k, i, f, a, cell, h1, h2, h3, h4, h5, h6, h7, h8, h9, h10⟩ := h
  obtain ⟨k', hi', he⟩ := State.fieldFound?_setVm hvm h2
  exact ⟨c, k', i, f, a, cell, by rw [hvm.findClass]; exact h1, hi', h3, by rw [he]; exact h4, h5, h6, h7, h8, by rw [he]; exact h9, h10⟩
theorem vx_L.kept {C n d : String} {A : Nat → Prop} {U : State} {H H1 : Heap} (h : vx_L C n d A U H) (hq : ∀ a : Nat, a < H.size → ¬ A a → H1[a]? = H[a]?) : vx_L C n d A U H1 := by
  obtain ⟨c, k, i, f, a, cell, h1, h2, h3, h4, h5, h6, h7, h8, h9, h10⟩ := h
  exact ⟨c, k, i, f, a, cell, h1, h2, h3, h4, by rw [hq a (Array.getElem?_eq_some_iff.mp h5).1 h10]; exact h5, h6, h7, h8, h9, h10⟩
theorem vx_L.narrow {C n d : String} {A B : Nat → Prop} {U : State} {H : Heap} (h : vx_L C n d A U H) (hAB : ∀ q, B q → A q) : vx_L C n d B U H := by
  obtain ⟨c, k, i, f, a, cell, h1, h2, h3, h4, h5, h6, h7, h8, h9, h10⟩ := h
  exact ⟨c, k, i, f, a, cell, h1, h2, h3, h4, h5, h6, h7, h8, h9, fun z => h10 (hAB _ z)⟩
theorem vx_L.word {C n d : String} {A : Nat → Prop} {s : State} {args : Array Value} (h : vx_L C n d A s s.heap) : (Cond.laysStatic C n d).before args s = true := by
  obtain ⟨c, k, i, f, a, cell, h1, h2, h3, h4, h5, h6, h7, h8, h9, -⟩ := h
  show (Cond.laysStatic C n d).holds args s none s [] = true
  exact Cond.laysStatic_of h1 h2 h3 h4 h5 h6 h7 h8 h9
/-- .. and what it holds: null or some reference -/
def vx_Zq (C n d : String) (A : Nat → Prop) (U : State) (H : Heap) : Prop := va_Zq C n d A U H ∧ vx_L C n d A U H
theorem vx_Zq.moved {C n d : String} {A : Nat → Prop} {u U : State} {H : Heap} (hvm : u.vm.Alike U.vm) (h : vx_Zq C n d A u H) : vx_Zq C n d A U H := ⟨va_Zq.moved hvm h.1, vx_L.moved hvm h.2⟩
theorem vx_Zq.kept {C n d : String} {A : Nat → Prop} {U : State} {H H1 : Heap} (h : vx_Zq C n d A U H) (hq : ∀ a : Nat, a < H.size → ¬ A a → H1[a]? = H[a]?) : vx_Zq C n d A U H1 := ⟨va_Zq.kept h.1 hq, vx_L.kept h.2 hq⟩
theorem vx_Zq.narrow {C n d : String} {A B : Nat → Prop} {U : State} {H : Heap} (h : vx_Zq C n d A U H) (hAB : ∀ q, B q → A q) : vx_Zq C n d B U H := ⟨va_Zq.narrow h.1 hAB, vx_L.narrow h.2 hAB⟩
theorem vx_Zqof {args : Array Value} {s : State} {C n d : String} {A : Nat → Prop} (hl : (Cond.laysStatic C n d).before args s = true) (hini : (Cond.initialized C).before args s = true) (h : (Cond.isRef (.static C n d)).before args s = true) (hA : ∀ a : Nat, a < s.heap.size → ¬ A a) : vx_Zq C n d A s s.heap := by
  refine ⟨va_Zqof hl hini h hA, ?_⟩
  obtain ⟨c, k, i, f, a, cell, h1, h2, h3, h4, h5, h6, h7, h8, h9⟩ := Cond.laysStatic_spec hl
  exact ⟨c, k, i, f, a, cell, h1, h2, h3, h4, h5, h6, h7, h8, h9, hA a (Array.getElem?_eq_some_iff.mp h5).1⟩
theorem vx_isRef {C n d : String} {v : Value} {A : Nat → Prop} {s : State} {args : Array Value} (h : va_Z C n d v A s s.heap) (hv : v.isRef = true) : (Cond.isRef (.static C n d)).before args s = true := by
  obtain ⟨cf, kf, fi, f, a, cell, h1, h2, h3, h4, h5, h6, h7, -⟩ := h
  have he : (Term.static C n d).eval args s none [] s = some v := by
    simp [Term.eval, State.fieldNamed?, h1, h2, h4, h5, h6, h7]
  simp only [Cond.before, Cond.holds, Cond.value, he]
  cases v <;> simp_all [Value.isRef]
theorem vx_isRefq {C n d : String} {A : Nat → Prop} {s : State} {args : Array Value} (h : va_Zq C n d A s s.heap) : (Cond.isRef (.static C n d)).before args s = true := by
  rcases h with h | ⟨t, h⟩
  · exact vx_isRef h rfl
  · exact vx_isRef h rfl
/-- the same frame, seen from here: as if the method were called anew in this heap -/
theorem vx_rebase {T : State} (X : Stand p l e R s m args below meth c T locs cells slots) {R' : Room} (hf : R'.frames ≤ R.frames) (hl : R'.locals ≤ R.locals) (hc : cells + R'.cells ≤ R.cells) (hs : slots + R'.slots ≤ R.slots) :
    Stand p l e R' ((T.setVm s.vm).setFrames (.invoking m args :: below)) m args below meth c T [] 0 0 := by
  have htop : (T.setVm s.vm).topJava?.isSome := X.here.top
  have hF : ((T.setVm s.vm).setFrames (.invoking m args :: below)).frames = .invoking m args :: below := State.frames_setFrames _ (State.cur_lt_of_top htop)
  obtain ⟨g₀, hg0⟩ := Option.isSome_iff_exists.mp htop
  obtain ⟨r, hr⟩ := State.topJava?_eq_some.mp hg0
  have hl9 : e.platform.stackLimits (T.setVm s.vm).me = e.platform.stackLimits s.me := X.limits
  have hb9 : (T.setVm s.vm).me.stackBytes = s.me.stackBytes := X.bytes
  refine ⟨X.admits, X.cas, X.clock, hF, ?_, X.hears, X.method, X.code, X.here, X.tail, X.warmed, ?_, ?_, ?_⟩
  · have h := X.room
    have hU : ((T.setVm s.vm).setFrames (.invoking m args :: below)).localsInUse = s.localsInUse := by
      rw [State.localsInUse_invoking hF (meth := meth) (c := c) X.method X.code, State.localsInUse_invoking X.frames X.method X.code]
    simp only [State.hasRoom, Bool.and_eq_true, decide_eq_true_eq] at h ⊢
    obtain ⟨⟨⟨⟨h1, h2, h3, h4, h5, h6⟩, h7⟩, h8⟩, h9⟩ := h
    rw [X.frames, List.length_cons] at h2 h3
    have q1 := X.heapSize
    have q2 := X.used
    simp only [hF, hU, List.length_cons, State.stackLimits_setFrames, State.stackBytes_setFrames, hl9, hb9]
    refine ⟨⟨⟨⟨by omega, by omega, by omega, by omega, by omega, h6⟩, ?_⟩, ?_⟩, X.book⟩
    · show T.heap.size + R'.cells ≤ e.platform.maxCells
      omega
    · show T.slotsUsed + R'.slots ≤ e.platform.maxSlots
      omega
  · rw [State.stackLimits_setFrames]; rfl
  · rw [State.stackBytes_setFrames]; rfl
  · refine ⟨?_, Nat.le_refl _, Nat.le_refl _, ?_, ?_, fun a c9 h9 => ⟨c9, h9, rfl, rfl, fun _ _ => rfl⟩⟩
    · obtain ⟨t, ht, -⟩ := State.frames_cons hr
      show T.setVm s.vm = { ((T.setVm s.vm).setFrames (.invoking m args :: below)).setFrames (T.setVm s.vm).frames with heap := T.heap, slotsUsed := T.slotsUsed }
      rw [State.setFrames_setFrames, State.setFrames_self ht]
      rfl
    · show T.slotsUsed = T.slotsUsed + ((T.heap.toList.drop T.heap.size).map (·.slots.size)).sum
      rw [List.drop_eq_nil_of_le (Nat.le_of_eq Array.length_toList)]
      rfl
    · show ((T.heap.toList.drop T.heap.size).map (·.slots.size)).sum ≤ 0
      rw [List.drop_eq_nil_of_le (Nat.le_of_eq Array.length_toList)]
      exact Nat.le_refl _
/-- 'throw new E()': new; dup; invokespecial; athrow -/
theorem vx_throw0 {cc : ByteArray} {pc : Nat} (hexec : p.tables.exec = Jvm.exec) (hb : c.code = cc) (hl : l.stackTraces = false) {own cls : String} {names : List String} {ik ic mc ms : Nat} {A : Nat → Prop}
    (hown : s.vm.findClass own = some m.cls) (hcls : Bundle.fit cls = true) (hnames : ∀ n ∈ names, Bundle.fit n = true)
    (hk : (Cond.classLink own ik cls).before args s = true) (hini : (Cond.initialized cls).before args s = true) (hat : ∀ w ∈ vx_at0 own ic cls names, w.before args s = true)
    (hgood : ∀ w ∈ Cond.classLink own ik cls :: Cond.initialized cls :: vx_at0 own ic cls names, vx_ot w = true)
    (hU : vx_Zq Bundle.tN "UNASSIGNED_STACK" Bundle.steD A s s.heap) (hN : vx_Zq Bundle.tN "SUPPRESSED_SENTINEL" Bundle.listD A s s.heap) (hS : va_S A s.heap H locs) (hsize : ls.size = c.maxLocals)
    (d0 : decode cc pc = .ok (.new ik, 3)) (d3 : decode cc (pc + 3) = .ok (.dup, 1)) (d4 : decode cc (pc + 4) = .ok (.invokespecial ic, 3)) (d7 : decode cc (pc + 7) = .ok (.athrow, 1))
    (hout : ∀ x ∈ c.exceptionTable.toList, covers x (pc + 7) = false)
    (hRframes : names.length + 3 < R.frames) (hRlocals : (rest.map fun v => v.category).sum + (13 * (names.length + 1) + 42) ≤ R.locals) (hRcells : cells + 1 ≤ R.cells) (hRslots : slots + 6 ≤ R.slots) (hlocks : meth.locks = false)
    (hx : ∀ t : State, s.vm.Alike t.vm → H.size ≤ t.heap.size → (∀ q : Nat, q < H.size → t.heap[q]? = H[q]?) → XC cls s t)
    (hf : ∀ z ∈ locs, free z.base) (hc : cells + 1 ≤ mc) (hs : slots + 6 ≤ ms) :
    W p l e R s m args below meth c H locs cells slots (vx_MQ below Qc XC args s mc ms free) (F0 m pc ls rest) := by
  intro T hT X
  have htr : e.platform.stackTraces = false := (show e.platform.stackTraces = l.stackTraces by rw [X.admits.platform]).trans hl
  have Y := vx_rebase X (R' := { frames := R.frames, locals := R.locals, cells := 1, slots := 6 }) (Nat.le_refl _) (Nat.le_refl _) hRcells hRslots
  obtain ⟨s', hA⟩ : ∃ z, z = (T.setVm s.vm).setFrames (.invoking m args :: below) := ⟨_, rfl⟩
  rw [← hA] at Y
  have hvm : s'.vm = s.vm := by rw [hA]; rfl
  have hhp : s'.heap = H := by rw [hA]; exact hT
  have hW0 : s.WarmedH s'.vm := by rw [hvm]; exact State.WarmedH.refl s
  have hat' : ∀ w ∈ vx_at0 own ic cls names, w.before args s' = true := fun w hw => vx_ot_at hW0 hvm.symm (hgood w (List.mem_cons_of_mem _ (List.mem_cons_of_mem _ hw))) (hat w hw)
  have hk' : (Cond.classLink own ik cls).before args s' = true := vx_ot_at hW0 hvm.symm (hgood _ List.mem_cons_self) hk
  have hini' : (Cond.initialized cls).before args s' = true := vx_ot_at hW0 hvm.symm (hgood _ (List.mem_cons_of_mem _ List.mem_cons_self)) hini
  have hU' : vx_Zq Bundle.tN "UNASSIGNED_STACK" Bundle.steD A s' s'.heap := by rw [hhp]; exact vx_Zq.moved hW0.alike (hU.kept hS.2.1)
  have hN' : vx_Zq Bundle.tN "SUPPRESSED_SENTINEL" Bundle.listD A s' s'.heap := by rw [hhp]; exact vx_Zq.moved hW0.alike (hN.kept hS.2.1)
  have h : ∀ w ∈ Bundle.ownAtoms0 own ic cls names, w.before args s' = true := vx_own hat' (vx_isRefq hU'.1) (vx_isRefq hN'.1) hU'.2.word hN'.2.word
  have hown' : s'.vm.findClass own = some m.cls := by rw [hvm]; exact hown
  have hins : (Cond.instantiable cls 6).before args s' = true := h _ (by simp [Bundle.ownAtoms0])
  obtain ⟨vm₁, cX, kX, hfX, hkX, -, -, X₁, st1⟩ := Y.newCold hexec (own := own) (C := cls) (index := ik) (n := 6) hown' hk' hins hini'
    (g := F0 m pc ls rest) rfl (by rw [hb]; exact d0) (Nat.le_refl _) (Nat.le_refl _)
  generalize hT1 : (T.setVm vm₁).pushCell { cls := cX, slots := kX.instanceTypes.map defaultValue, vm := .none } = T1 at X₁ st1
  have hcat : (Value.ref T.heap.size).category = 1 := rfl
  have hcellA : T1.heap[T.heap.size]? = some (freshCell cX kX) := by rw [← hT1]; exact State.heap_pushCell_size _ _
  have d3' : decode c.code (pc + 3) = .ok (.dup, 1) := by rw [hb]; exact d3
  obtain ⟨U, hsteps, hrun, hend, hW, hsame, ce, hce, hO⟩ := X₁.ctorThrow0 hexec htr (own := own) (cls := cls) (names := names) (ic := ic) hown' hcls hnames h (fun x hx => nomatch hx) hfX hkX hcellA (by rw [hhp, hT]; exact Nat.le_refl _)
    (g := { method := m, pc := pc + 4, locals := ls, stack := .ref T.heap.size :: .ref T.heap.size :: rest, locked := none }) rfl hsize rfl rfl (rest := rest) rfl
    (by rw [hb]; exact d4) (by rw [hb]; exact d7) hout hRframes (by simp only [List.map_cons, List.sum_cons, hcat]; omega) hlocks
  obtain ⟨f1, f2⟩ := vx_frame hsame
  rw [hhp] at f1 f2
  have hWs : s.WarmedH U.vm := State.WarmedH.trans hW0 hW
  have hcl : s.vm.findClass cls = some ce.cls := by
    have h9 := hO.cls
    rw [hvm] at h9
    exact h9
  have hall : s.sameButNew ({ U with vm := s.vm } : State) locs mc ms := by
    subst hA
    obtain ⟨e1, e2⟩ := hsame
    rw [State.setFrames_setFrames] at e1
    have h2 : (T.setVm s.vm).sameButNew ({ U with vm := s.vm } : State) [] (0 + 1) (0 + 6) := ⟨e1, e2⟩
    have h3 := X.same.trans h2
    rw [List.append_nil] at h3
    exact h3.mono hc hs
  refine ⟨U, ?_, .threw T.heap.size, hrun, hend, Or.inr ⟨T.heap.size, rfl, cls, ce, locs, hx U hWs.alike f1 (fun q hq => f2 q hq (fun z hz => nomatch hz)), hce, hO.vm, hcl, hWs, hall, hf⟩⟩
  refine st1 _ ?_
  show Steps p.tables e below (T1.setTop { method := m, pc := pc + 3, locals := ls, stack := .ref T.heap.size :: rest, locked := none }) _
  jvm_step X₁.here [X₁.here.top, hexec, d3', Value.category]
  exact hsteps
/-- 'throw new E("text")': new; dup; ldc; invokespecial; athrow -/
theorem vx_throwS {cc : ByteArray} {pc : Nat} (hexec : p.tables.exec = Jvm.exec) (hb : c.code = cc) (hl : l.stackTraces = false) {own cls text : String} {names : List String} {ik is ic mc ms sa : Nat} {A : Nat → Prop}
    (hown : s.vm.findClass own = some m.cls) (hcls : Bundle.fit cls = true) (hnames : ∀ n ∈ names, Bundle.fit n = true)
    (hk : (Cond.classLink own ik cls).before args s = true) (hini : (Cond.initialized cls).before args s = true) (hstr : vk_R own is text sa s) (hat : ∀ w ∈ vx_atS own ic cls names, w.before args s = true)
    (hgood : ∀ w ∈ Cond.classLink own ik cls :: Cond.initialized cls :: vx_atS own ic cls names, vx_ot w = true)
    (hU : vx_Zq Bundle.tN "UNASSIGNED_STACK" Bundle.steD A s s.heap) (hN : vx_Zq Bundle.tN "SUPPRESSED_SENTINEL" Bundle.listD A s s.heap) (hS : va_S A s.heap H locs) (hsize : ls.size = c.maxLocals)
    (d0 : decode cc pc = .ok (.new ik, 3)) (d3 : decode cc (pc + 3) = .ok (.dup, 1)) (d4 : decode cc (pc + 4) = .ok (.ldc is, 2)) (d6 : decode cc (pc + 6) = .ok (.invokespecial ic, 3)) (d9 : decode cc (pc + 9) = .ok (.athrow, 1))
    (hout : ∀ x ∈ c.exceptionTable.toList, covers x (pc + 9) = false)
    (hRframes : names.length + 3 < R.frames) (hRlocals : (rest.map fun v => v.category).sum + (13 * (names.length + 1) + 43) ≤ R.locals) (hRcells : cells + 1 ≤ R.cells) (hRslots : slots + 6 ≤ R.slots) (hlocks : meth.locks = false)
    (hx : ∀ t : State, s.vm.Alike t.vm → H.size ≤ t.heap.size → (∀ q : Nat, q < H.size → t.heap[q]? = H[q]?) → XC cls s t)
    (hf : ∀ z ∈ locs, free z.base) (hc : cells + 1 ≤ mc) (hs : slots + 6 ≤ ms) :
    W p l e R s m args below meth c H locs cells slots (vx_MQ below Qc XC args s mc ms free) (F0 m pc ls rest) := by
  intro T hT X
  have htr : e.platform.stackTraces = false := (show e.platform.stackTraces = l.stackTraces by rw [X.admits.platform]).trans hl
  have Y := vx_rebase X (R' := { frames := R.frames, locals := R.locals, cells := 1, slots := 6 }) (Nat.le_refl _) (Nat.le_refl _) hRcells hRslots
  obtain ⟨s', hA⟩ : ∃ z, z = (T.setVm s.vm).setFrames (.invoking m args :: below) := ⟨_, rfl⟩
  rw [← hA] at Y
  have hvm : s'.vm = s.vm := by rw [hA]; rfl
  have hhp : s'.heap = H := by rw [hA]; exact hT
  have hW0 : s.WarmedH s'.vm := by rw [hvm]; exact State.WarmedH.refl s
  have hat' : ∀ w ∈ vx_atS own ic cls names, w.before args s' = true := fun w hw => vx_ot_at hW0 hvm.symm (hgood w (List.mem_cons_of_mem _ (List.mem_cons_of_mem _ hw))) (hat w hw)
  have hk' : (Cond.classLink own ik cls).before args s' = true := vx_ot_at hW0 hvm.symm (hgood _ List.mem_cons_self) hk
  have hini' : (Cond.initialized cls).before args s' = true := vx_ot_at hW0 hvm.symm (hgood _ (List.mem_cons_of_mem _ List.mem_cons_self)) hini
  have hU' : vx_Zq Bundle.tN "UNASSIGNED_STACK" Bundle.steD A s' s'.heap := by rw [hhp]; exact vx_Zq.moved hW0.alike (hU.kept hS.2.1)
  have hN' : vx_Zq Bundle.tN "SUPPRESSED_SENTINEL" Bundle.listD A s' s'.heap := by rw [hhp]; exact vx_Zq.moved hW0.alike (hN.kept hS.2.1)
  have h : ∀ w ∈ Bundle.ownAtoms own ic cls names, w.before args s' = true := vx_own hat' (vx_isRefq hU'.1) (vx_isRefq hN'.1) hU'.2.word hN'.2.word
  have hown' : s'.vm.findClass own = some m.cls := by rw [hvm]; exact hown
  have hins : (Cond.instantiable cls 6).before args s' = true := h _ (by simp [Bundle.ownAtoms])
  obtain ⟨vm₁, cX, kX, hfX, hkX, -, -, X₁, st1⟩ := Y.newCold hexec (own := own) (C := cls) (index := ik) (n := 6) hown' hk' hins hini'
    (g := F0 m pc ls rest) rfl (by rw [hb]; exact d0) (Nat.le_refl _) (Nat.le_refl _)
  generalize hT1 : (T.setVm vm₁).pushCell { cls := cX, slots := kX.instanceTypes.map defaultValue, vm := .none } = T1 at X₁ st1
  have hcat : (Value.ref T.heap.size).category = 1 := rfl
  have hcellA : T1.heap[T.heap.size]? = some (freshCell cX kX) := by rw [← hT1]; exact State.heap_pushCell_size _ _
  have d3' : decode c.code (pc + 3) = .ok (.dup, 1) := by rw [hb]; exact d3
  have d4' : decode c.code (pc + 4) = .ok (.ldc is, 2) := by rw [hb]; exact d4
  have hstr' : vk_R own is text sa s' := vk_R.warm hW0 hstr
  obtain ⟨U, hsteps, hrun, hend, hW, hsame, ce, hce, hO⟩ := X₁.ctorThrowS hexec htr (own := own) (cls := cls) (names := names) (ic := ic) hown' hcls hnames h (fun x hx => nomatch hx) hfX hkX hcellA (by rw [hhp, hT]; exact Nat.le_refl _) (msg := .ref sa) rfl
    (g := { method := m, pc := pc + 6, locals := ls, stack := .ref sa :: .ref T.heap.size :: .ref T.heap.size :: rest, locked := none }) rfl hsize rfl rfl (rest := rest) rfl
    (by rw [hb]; exact d6) (by rw [hb]; exact d9) hout hRframes (by simp only [List.map_cons, List.sum_cons, hcat]; omega) hlocks
  obtain ⟨f1, f2⟩ := vx_frame hsame
  rw [hhp] at f1 f2
  have hWs : s.WarmedH U.vm := State.WarmedH.trans hW0 hW
  have hcl : s.vm.findClass cls = some ce.cls := by
    have h9 := hO.cls
    rw [hvm] at h9
    exact h9
  have hall : s.sameButNew ({ U with vm := s.vm } : State) locs mc ms := by
    subst hA
    obtain ⟨e1, e2⟩ := hsame
    rw [State.setFrames_setFrames] at e1
    have h2 : (T.setVm s.vm).sameButNew ({ U with vm := s.vm } : State) [] (0 + 1) (0 + 6) := ⟨e1, e2⟩
    have h3 := X.same.trans h2
    rw [List.append_nil] at h3
    exact h3.mono hc hs
  refine ⟨U, ?_, .threw T.heap.size, hrun, hend, Or.inr ⟨T.heap.size, rfl, cls, ce, locs, hx U hWs.alike f1 (fun q hq => f2 q hq (fun z hz => nomatch hz)), hce, hO.vm, hcl, hWs, hall, hf⟩⟩
  refine st1 _ ?_
  show Steps p.tables e below (T1.setTop { method := m, pc := pc + 3, locals := ls, stack := .ref T.heap.size :: rest, locked := none }) _
  jvm_step X₁.here [X₁.here.top, hexec, d3', Value.category]
  exact X₁.ldcString hexec (own := own) (text := text) (index := is) (a := sa) hown' hstr'.1 hstr'.2
    (g := { method := m, pc := pc + 4, locals := ls, stack := .ref T.heap.size :: .ref T.heap.size :: rest, locked := none }) rfl d4' _ hsteps
/-- 'throw new E("text")', the text by a wide index -/
theorem vx_throwSW {cc : ByteArray} {pc : Nat} (hexec : p.tables.exec = Jvm.exec) (hb : c.code = cc) (hl : l.stackTraces = false) {own cls text : String} {names : List String} {ik is ic mc ms sa : Nat} {A : Nat → Prop}
    (hown : s.vm.findClass own = some m.cls) (hcls : Bundle.fit cls = true) (hnames : ∀ n ∈ names, Bundle.fit n = true)
    (hk : (Cond.classLink own ik cls).before args s = true) (hini : (Cond.initialized cls).before args s = true) (hstr : vk_R own is text sa s) (hat : ∀ w ∈ vx_atS own ic cls names, w.before args s = true)
    (hgood : ∀ w ∈ Cond.classLink own ik cls :: Cond.initialized cls :: vx_atS own ic cls names, vx_ot w = true)
    (hU : vx_Zq Bundle.tN "UNASSIGNED_STACK" Bundle.steD A s s.heap) (hN : vx_Zq Bundle.tN "SUPPRESSED_SENTINEL" Bundle.listD A s s.heap) (hS : va_S A s.heap H locs) (hsize : ls.size = c.maxLocals)
    (d0 : decode cc pc = .ok (.new ik, 3)) (d3 : decode cc (pc + 3) = .ok (.dup, 1)) (d4 : decode cc (pc + 4) = .ok (.ldc_w is, 3)) (d7 : decode cc (pc + 7) = .ok (.invokespecial ic, 3)) (d10 : decode cc (pc + 10) = .ok (.athrow, 1))
    (hout : ∀ x ∈ c.exceptionTable.toList, covers x (pc + 10) = false)
    (hRframes : names.length + 3 < R.frames) (hRlocals : (rest.map fun v => v.category).sum + (13 * (names.length + 1) + 43) ≤ R.locals) (hRcells : cells + 1 ≤ R.cells) (hRslots : slots + 6 ≤ R.slots) (hlocks : meth.locks = false)
    (hx : ∀ t : State, s.vm.Alike t.vm → H.size ≤ t.heap.size → (∀ q : Nat, q < H.size → t.heap[q]? = H[q]?) → XC cls s t)
    (hf : ∀ z ∈ locs, free z.base) (hc : cells + 1 ≤ mc) (hs : slots + 6 ≤ ms) :
    W p l e R s m args below meth c H locs cells slots (vx_MQ below Qc XC args s mc ms free) (F0 m pc ls rest) := by
  intro T hT X
  have htr : e.platform.stackTraces = false := (show e.platform.stackTraces = l.stackTraces by rw [X.admits.platform]).trans hl
  have Y := vx_rebase X (R' := { frames := R.frames, locals := R.locals, cells := 1, slots := 6 }) (Nat.le_refl _) (Nat.le_refl _) hRcells hRslots
  obtain ⟨s', hA⟩ : ∃ z, z = (T.setVm s.vm).setFrames (.invoking m args :: below) := ⟨_, rfl⟩
  rw [← hA] at Y
  have hvm : s'.vm = s.vm := by rw [hA]; rfl
  have hhp : s'.heap = H := by rw [hA]; exact hT
  have hW0 : s.WarmedH s'.vm := by rw [hvm]; exact State.WarmedH.refl s
  have hat' : ∀ w ∈ vx_atS own ic cls names, w.before args s' = true := fun w hw => vx_ot_at hW0 hvm.symm (hgood w (List.mem_cons_of_mem _ (List.mem_cons_of_mem _ hw))) (hat w hw)
  have hk' : (Cond.classLink own ik cls).before args s' = true := vx_ot_at hW0 hvm.symm (hgood _ List.mem_cons_self) hk
  have hini' : (Cond.initialized cls).before args s' = true := vx_ot_at hW0 hvm.symm (hgood _ (List.mem_cons_of_mem _ List.mem_cons_self)) hini
  have hU' : vx_Zq Bundle.tN "UNASSIGNED_STACK" Bundle.steD A s' s'.heap := by rw [hhp]; exact vx_Zq.moved hW0.alike (hU.kept hS.2.1)
  have hN' : vx_Zq Bundle.tN "SUPPRESSED_SENTINEL" Bundle.listD A s' s'.heap := by rw [hhp]; exact vx_Zq.moved hW0.alike (hN.kept hS.2.1)
  have h : ∀ w ∈ Bundle.ownAtoms own ic cls names, w.before args s' = true := vx_own hat' (vx_isRefq hU'.1) (vx_isRefq hN'.1) hU'.2.word hN'.2.word
  have hown' : s'.vm.findClass own = some m.cls := by rw [hvm]; exact hown
  have hins : (Cond.instantiable cls 6).before args s' = true := h _ (by simp [Bundle.ownAtoms])
  obtain ⟨vm₁, cX, kX, hfX, hkX, -, -, X₁, st1⟩ := Y.newCold hexec (own := own) (C := cls) (index := ik) (n := 6) hown' hk' hins hini'
    (g := F0 m pc ls rest) rfl (by rw [hb]; exact d0) (Nat.le_refl _) (Nat.le_refl _)
  generalize hT1 : (T.setVm vm₁).pushCell { cls := cX, slots := kX.instanceTypes.map defaultValue, vm := .none } = T1 at X₁ st1
  have hcat : (Value.ref T.heap.size).category = 1 := rfl
  have hcellA : T1.heap[T.heap.size]? = some (freshCell cX kX) := by rw [← hT1]; exact State.heap_pushCell_size _ _
  have d3' : decode c.code (pc + 3) = .ok (.dup, 1) := by rw [hb]; exact d3
  have d4' : decode c.code (pc + 4) = .ok (.ldc_w is, 3) := by rw [hb]; exact d4
  have hstr' : vk_R own is text sa s' := vk_R.warm hW0 hstr
  obtain ⟨U, hsteps, hrun, hend, hW, hsame, ce, hce, hO⟩ := X₁.ctorThrowS hexec htr (own := own) (cls := cls) (names := names) (ic := ic) hown' hcls hnames h (fun x hx => nomatch hx) hfX hkX hcellA (by rw [hhp, hT]; exact Nat.le_refl _) (msg := .ref sa) rfl
    (g := { method := m, pc := pc + 7, locals := ls, stack := .ref sa :: .ref T.heap.size :: .ref T.heap.size :: rest, locked := none }) rfl hsize rfl rfl (rest := rest) rfl
    (by rw [hb]; exact d7) (by rw [hb]; exact d10) hout hRframes (by simp only [List.map_cons, List.sum_cons, hcat]; omega) hlocks
  obtain ⟨f1, f2⟩ := vx_frame hsame
  rw [hhp] at f1 f2
  have hWs : s.WarmedH U.vm := State.WarmedH.trans hW0 hW
  have hcl : s.vm.findClass cls = some ce.cls := by
    have h9 := hO.cls
    rw [hvm] at h9
    exact h9
  have hall : s.sameButNew ({ U with vm := s.vm } : State) locs mc ms := by
    subst hA
    obtain ⟨e1, e2⟩ := hsame
    rw [State.setFrames_setFrames] at e1
    have h2 : (T.setVm s.vm).sameButNew ({ U with vm := s.vm } : State) [] (0 + 1) (0 + 6) := ⟨e1, e2⟩
    have h3 := X.same.trans h2
    rw [List.append_nil] at h3
    exact h3.mono hc hs
  refine ⟨U, ?_, .threw T.heap.size, hrun, hend, Or.inr ⟨T.heap.size, rfl, cls, ce, locs, hx U hWs.alike f1 (fun q hq => f2 q hq (fun z hz => nomatch hz)), hce, hO.vm, hcl, hWs, hall, hf⟩⟩
  refine st1 _ ?_
  show Steps p.tables e below (T1.setTop { method := m, pc := pc + 3, locals := ls, stack := .ref T.heap.size :: rest, locked := none }) _
  jvm_step X₁.here [X₁.here.top, hexec, d3', Value.category]
  exact X₁.ldcStringW hexec (own := own) (text := text) (index := is) (a := sa) hown' hstr'.1 hstr'.2
    (g := { method := m, pc := pc + 4, locals := ls, stack := .ref T.heap.size :: .ref T.heap.size :: rest, locked := none }) rfl d4' _ hsteps
end Ends
section Bodies
variable {l : Launch}
theorem vx_ofW {y : MethodName} {ws ws' : List Cond} {rm : Room} {Pc : Array Value → State → Prop} {Qc : Array Value → State → Outcome → State → Prop} {XC : String → State → State → Prop} {mc ms : Nat} {free : Addr → Prop} {cc : ByteArray} {maxL : Nat} {ret : Option FieldType}
    (hy : plainName y.cls = true) (hw : ws = Cond.code y cc maxL ret :: ws')
    (body : ∀ p e s m args below meth c s₁, BodyLoose p l y (headSpec ws rm) cc maxL ret e s m args below meth c s₁ → c.maxLocals = maxL → (∀ x ∈ c.exceptionTable.toList, False) → Pc args s →
      W p l e (headSpec ws rm).room s m args below meth c s.heap [] 0 0 (vx_MQ below Qc XC args s mc ms free) (entryFrame m args maxL)) : vx_Met l y ws rm Pc Qc XC mc ms free := by
  refine MetFree.of_bodyS (code := cc) (maxLocals := maxL) (ret := ret) hy ?_ ?_
  · intro args s m h hn
    obtain ⟨meth, c, h1, h2, h3, h4, h5, h6, -, -⟩ := Cond.code_spec hn (atoms_spec (ws := ws) h _ (by rw [hw]; exact List.mem_cons_self))
    exact ⟨meth, c, h1, h2, h3, h4, h5, h6⟩
  · intro p e s m args below meth c s₁ B hml hP _
    have hh0 : s₁.heap = s.heap := by rw [B.state]; rfl
    have ht : ∀ x ∈ c.exceptionTable.toList, False := by
      obtain ⟨meth9, c9, h1, h2, -, -, -, -, h7, -⟩ := Cond.code_spec B.named (atoms_spec (ws := ws) B.pre _ (by rw [hw]; exact List.mem_cons_self))
      cases Option.some.inj (h1.symm.trans B.method)
      cases Option.some.inj (h2.symm.trans (Stand.of_body B).code)
      intro x hx
      rw [Array.isEmpty_iff.mp h7] at hx
      cases hx
    obtain ⟨t, a1, o, b1, b2, b3⟩ := body p e s m args below meth c s₁ B hml ht hP s₁ hh0 (Stand.of_body B)
    exact ⟨t, o, a1, b1, b2, b3⟩
/-- the table of a body with handlers -/
theorem vx_table {p : Program} {x y : MethodName} {S : Spec} {cc bytes : ByteArray} {maxL maxL' : Nat} {ret ret' : Option FieldType} {e : Env} {s s₁ : State} {m : MethodId} {args : Array Value} {below : List Frame} {meth : Method} {c : Code} {hh : List (Nat × Nat × Nat × Nat)}
    (B : BodyLoose p l y S cc maxL ret e s m args below meth c s₁) (h : (Cond.codeWith y bytes maxL' ret' hh).before args s = true) : c.exceptionTable.toList = tableOf hh := by
  obtain ⟨m9, meth9, c9, hn9, h1, h2, -, -, h6, -⟩ := Cond.codeWith_spec h
  cases Option.some.inj (hn9.symm.trans B.named)
  cases Option.some.inj (h1.symm.trans B.method)
  cases Option.some.inj (h2.symm.trans (Stand.of_body B).code)
  rw [← h6, table_eq]
end Bodies
end VXA
/-! ===== END ===== -/
/-! ===== BEGIN a static call of a method with an exception table ===== -/
section VXS
variable {p : Program} {l : Launch} {e : Env} {R : Room} {s : State} {m : MethodId} {args : Array Value} {below : List Frame} {meth : Method} {c : Code} {T : State} {H : Heap} {locs : List Loc} {cells slots : Nat}
abbrev vx_CSW (R : Room) (s : State) (args : Array Value) (own : String) (index : Nat) (y : MethodName) (bytes : ByteArray) (maxL : Nat) (ret : Option FieldType) (hh : List (Nat × Nat × Nat × Nat)) (ws : List Cond) (rm : Room) (mc ms n : Nat) : Prop :=
  (rm.cells = mc ∧ rm.slots = ms ∧ rm.frames + 1 ≤ R.frames ∧ 8 + (maxL + 11) + rm.locals ≤ R.locals ∧ (∀ w ∈ ws, ∀ (a' : Array Value) (U : State), s.WarmedH U.vm → w.before a' U = true) ∧ Cond.codeWith y bytes maxL ret hh ∈ ws) ∧
  (Cond.codeWith y bytes maxL ret hh).before args s = true ∧ (Cond.initialized y.cls).before args s = true ∧ (y.cls ≠ "java/lang/invoke/MethodHandle" ∧ y.cls ≠ "java/lang/invoke/VarHandle") ∧
  (∀ sig, parseMethodDescriptor y.desc = some sig → n = sig.parameters.length) ∧ (Cond.methodLink own index y).before args s = true ∧ (Cond.static y).before args s = true
theorem vx_cwSW {own : String} {index maxL mc ms : Nat} {y : MethodName} {bytes : ByteArray} {ret : Option FieldType} {hh : List (Nat × Nat × Nat × Nat)} {Ts ws ws' : List Cond} {rm : Room} (n : Nat) (ht : ∀ w ∈ Ts, w.before args s = true) (hT : GoodIn Ts (va_wsS own index y ws)) (hw : ws = Cond.codeWith y bytes maxL ret hh :: ws') (hrc : rm.cells = mc) (hrs : rm.slots = ms)
    (hd : y.cls ≠ "java/lang/invoke/MethodHandle" ∧ y.cls ≠ "java/lang/invoke/VarHandle" ∧ (parseMethodDescriptor y.desc).map (fun d => d.parameters.length) = some n) (hR : rm.frames + 1 ≤ R.frames ∧ 8 + (maxL + 11) + rm.locals ≤ R.locals) :
    vx_CSW R s args own index y bytes maxL ret hh ws rm mc ms n := by
  have ok : ∀ w ∈ va_wsS own index y ws, w.before args s = true := fun w h => ht w (hT w h).1
  have hG : GoodIn Ts ws := fun w h => hT w (by unfold va_wsS; exact List.mem_append_right _ h)
  have hc : Cond.codeWith y bytes maxL ret hh ∈ ws := by rw [hw]; exact List.mem_cons_self
  refine ⟨⟨hrc, hrs, hR.1, hR.2, pay_in ht hG, hc⟩, ht _ (hG _ hc).1, ok _ (by simp [va_wsS]), ⟨hd.1, hd.2.1⟩, fun sig h => ?_, ok _ (by simp [va_wsS]), ok _ (by simp [va_wsS])⟩
  have h2 := hd.2.2
  rw [h] at h2
  exact (Option.some.inj h2).symm
theorem vx_callSW (X : Stand p l e R s m args below meth c T locs cells slots) (hexec : p.tables.exec = Jvm.exec) {own : String} {index : Nat} {y : MethodName} {bytes : ByteArray} {maxL : Nat} {ret : Option FieldType} {hh : List (Nat × Nat × Nat × Nat)}
    (hown : s.vm.findClass own = some m.cls) (hlink : (Cond.methodLink own index y).before args s = true) (hstat : (Cond.static y).before args s = true) (hinit : (Cond.initialized y.cls).before args s = true)
    (hcode : (Cond.codeWith y bytes maxL ret hh).before args s = true) (hy : y.cls ≠ "java/lang/invoke/MethodHandle" ∧ y.cls ≠ "java/lang/invoke/VarHandle")
    {W9 : Nat} {Pre : Pt → Array Value → Prop} {Post : Pt → Array Value → Option Value → Pt → Prop} (hK : Back l R p e below s args y 3 W9 Pre Post)
    {g : JFrame} (hg : g.method = m) (hsize : g.locals.size = c.maxLocals) {argsL rest : List Value} (hlen : ∀ sig, parseMethodDescriptor y.desc = some sig → argsL.length = sig.parameters.length)
    (hstack : g.stack = argsL.reverse ++ rest) (hW : 2 * g.monitorRoom + (rest.map fun v => v.category).sum ≤ W9) (hdg : decode c.code g.pc = .ok (.invokestatic index, 3))
    (hpre : ∀ vm₁, s.WarmedH vm₁ → Pre ⟨T.setVm vm₁, locs, cells, slots⟩ argsL.toArray) :
    ∃ (v : Option Value) (vm₁ : Vm) (B : Pt), s.WarmedH vm₁ ∧ Stand p l e R s m args below meth c B.U B.locs B.cells B.slots ∧ Post ⟨T.setVm vm₁, locs, cells, slots⟩ argsL.toArray v B ∧
      ∀ target, Steps p.tables e below (B.U.setTop { g with pc := g.pc + 3, stack := v.toList ++ rest }) target → Steps p.tables e below (T.setTop g) target := by
  obtain ⟨mk, methM, cM, hnamed, hmethM, -, -, -, -, -, -, hsigM⟩ := Cond.codeWith_spec hcode
  have hstatic : methM.isStatic = true := Cond.static_spec hnamed hmethM hstat
  obtain ⟨kP, hkP, -⟩ := className_of_methodNamed hnamed
  have hinitP : kP.init = .initialized := Cond.initialized_spec (findClass_of_methodNamed hnamed) hkP hinit
  obtain ⟨vm₁, X₁, hstep₁⟩ := X.invokestatic hexec hown hlink hnamed hmethM hstatic hkP hinitP hy (g := g) hg (argsL := argsL) (rest := rest) (hlen _ hsigM) hstack hdg
  obtain ⟨v, B, X', hpost, hsteps⟩ := hK m meth c ⟨T.setVm vm₁, locs, cells, slots⟩ { g with stack := rest } (.invokestatic index) mk argsL.toArray X₁ hg hsize hdg hW (X₁.named hnamed) (hpre vm₁ X₁.warmed)
  exact ⟨v, vm₁, B, X₁.warmed, X', hpost, fun target h => hstep₁ _ fun acts => by rw [doInvoke_state]; exact hsteps.trans h⟩
theorem vx_runSW {y : MethodName} {bytes cc : ByteArray} {maxL nL mc ms n index : Nat} {ret : Option FieldType} {hh : List (Nat × Nat × Nat × Nat)} {ws : List Cond} {rm : Room} {Pc : Array Value → State → Prop} {Qc : Array Value → State → Outcome → State → Prop} {free : Addr → Prop} {Ts : List Cond} {own : String} {As rest : List Value} {g : JFrame}
    (S : CallFix p m c cc nL s args Ts own) (hM : Met l y ws rm Pc Qc mc ms free) (cw : vx_CSW R s args own index y bytes maxL ret hh ws rm mc ms n) (hp : PreS s H Pc As)
    (hg : g.method = m) (hn : As.length = n) (hsize : g.locals.size = nL) (hstack : g.stack = As.reverse ++ rest) (hW : 2 * g.monitorRoom + (rest.map fun v => v.category).sum ≤ 8) (hdg : decode cc g.pc = .ok (.invokestatic index, 3)) (hf : cells + mc ≤ R.cells ∧ slots + ms ≤ R.slots) :
    va_Run p l e R s m args below meth c H locs cells slots mc ms g rest (Qc As.toArray) (free) := by
  obtain ⟨⟨hrc, hrs, hfr, hlo, hws, hcw⟩, hcode, hini, hy, hlen, hl, hstt⟩ := cw
  have hK : Back l R p e below s args y 3 8 (PreOf R mc ms Pc) (PostOf Qc mc ms free) := va_backW (hh := hh) (bytes := bytes) (maxL := maxL) (ret := ret) hM hp.1 hrc hrs hfr hlo hws hcw (fun a' U hW => word_at hW (Or.inl (by first | rfl | simp [Cond.onTables, Cond.keeps, Cond.steady])) hini)
  obtain ⟨hx, hb, hml, ho, -⟩ := S
  intro T hT X
  obtain ⟨v, vm₁, ⟨U', l2, c2, s2⟩, hW₁, X', ⟨g', mk, t, L, e1, e2, hq, h1, hL, h2, h3⟩, st⟩ := vx_callSW X hx (hh := hh) (bytes := bytes) (maxL := maxL) (ret := ret) ho hl hstt hini hcode hy hK hg (hsize.trans hml.symm) (argsL := As) (rest := rest) (fun sig h => hn.trans (hlen sig h)) hstack hW (by rw [hb]; exact hdg)
    (fun vm₁ hW₁ => ⟨hf.1, hf.2, hp.2 (T.setVm vm₁) hT hW₁⟩)
  dsimp only [Pt.U, Pt.locs, Pt.cells, Pt.slots] at X' e1 e2 h1 h2 h3 st
  subst h1; subst h2; subst h3
  exact ⟨v, (T.setVm vm₁).calling g' mk As.toArray, t, U', L, hT, X', hL, e1, e2, hq, st⟩
/-- not caught here, past rows that name other classes: it goes on to the caller -/
theorem vx_outP {p : Program} {l : Launch} {e : Env} {R : Room} {s : State} {m : MethodId} {args : Array Value} {below : List Frame} {meth : Method} {c : Code} {H : Heap} {locs : List Loc} {cells slots : Nat} {free : Addr → Prop} {ls : Array Slot} {rest : List Value} {Qc : Array Value → State → Outcome → State → Prop} {XC : String → State → State → Prop}
    {pc : Nat} {own E : String} {ce : Cell} {q : Addr} {mc ms : Nat} (hown : s.vm.findClass own = some m.cls) (hlocks : meth.locks = false)
    (hpass : ∀ z ∈ c.exceptionTable.toList, covers z pc = false ∨ (z.catchType ≠ 0 ∧ ∃ nm : String, (Cond.classLink own z.catchType nm).before args s = true ∧ va_Nc E nm s)) (hcell : H[q]? = some ce) (hv : ce.vm = .none) (hcl : s.vm.findClass E = some ce.cls)
    (hx : ∀ t : State, t.heap = H → s.vm.Alike t.vm → XC E s t) (hf : ∀ z ∈ locs, free z.base) (hc : cells ≤ mc) (hs : slots ≤ ms) :
    vx_W p l e R s m args below meth c H locs cells slots (vx_MQ below Qc XC args s mc ms free) (F0 m pc ls rest) q := by
  intro T hT X
  have hpl : e.platform.magicAccessors = ({} : Platform).magicAccessors := by rw [X.admits.platform]
  obtain ⟨vm', hW', X', st⟩ := X.outThrough hlocks q (g := F0 m pc ls rest) rfl rfl rfl (cell := ce) (by rw [hT]; exact hcell) (by rw [hv]; rfl)
    (by obtain ⟨k9, h9, -⟩ := Vm.findClass_spec hcl; exact ⟨k9, h9⟩) (fun z hz => by
      rcases hpass z hz with h | ⟨hz0, nm, hl1, hn1⟩
      · exact Or.inl h
      · obtain ⟨c6, hc6, hcl6⟩ := Cond.classLink_spec hown hl1 e.platform hpl
        obtain ⟨a8, b8, h1, h2, h3⟩ := hn1
        cases Option.some.inj (h1.symm.trans hcl)
        cases Option.some.inj (h2.symm.trans hc6)
        exact Or.inr ⟨hz0, _, hcl6, h3⟩)
  obtain ⟨g₀, hfr⟩ := X'.frames_eq
  have hcell9 : ((T.setVm vm').setFrames (.throwing q :: below)).heap[q]? = some ce := by
    show T.heap[q]? = some ce
    rw [hT]; exact hcell
  have hend : Ended ((T.setVm vm').setFrames (.throwing q :: below)) below (.threw q) := State.frames_setFrames _ (State.cur_lt_of_frames hfr)
  refine ⟨(T.setVm vm').setFrames (.throwing q :: below), ?_, .threw q, X'.here.running, hend, Or.inr ⟨q, rfl, E, ce, locs, hx _ hT (X'.ends _).1.alike, hcell9, hv, hcl, (X'.ends _).1, (X'.ends _).2.mono hc hs, hf⟩⟩
  rw [X.pushThrowing_eq]
  exact st
/-- a thing of a world lies in the heap -/
theorem vx_lt {D : va_G} {cl : List vw_C} {ws : va_W} {H1 : Heap} (h : va_P D cl ws H1) {k : Nat} {q : Nat × va_E} (hk : ws[k]? = some q) : q.1 < H1.size := (h k q hk).lt
end VXS
/-! ===== END ===== -/
/-! ===== BEGIN methods with a table of their own: called by a name, returning or throwing ===== -/
section VXH
/-! vx_backW, vx_callVX, vx_callSX, vx_callVW, vx_runVW, vx_runVX, vx_runSX, vx_ofWH follow the same proofs as their sisters above (Free/Laws.lean, Shelf42/LK1.lean); vx_outP calls Shelf42/NT130.lean (outThrough). -/
section
variable {l : Launch} {R : Room} {p : Program} {e : Env} {below : List Frame} {s : State} {sargs : Array Value} {y : MethodName} {len W9 : Nat}
theorem vx_backW {ws : List Cond} {rm : Room} {Pc : Array Value → State → Prop} {Qc : Array Value → State → Outcome → State → Prop} {XC : String → State → State → Prop} {mc ms : Nat} {free : Addr → Prop} {bytes : ByteArray} {maxL : Nat} {ret : Option FieldType} {hh : List (Nat × Nat × Nat × Nat)}
    (hM : vx_Met l y ws rm Pc Qc XC mc ms free) (hblind : FrameBlind Pc) (hrc : rm.cells = mc) (hrs : rm.slots = ms)
    (hframes : rm.frames + 1 ≤ R.frames) (hlocals : W9 + (maxL + 11) + rm.locals ≤ R.locals)
    (hws : ∀ w ∈ ws, ∀ a' U, s.WarmedH U.vm → w.before a' U = true) (hcode : Cond.codeWith y bytes maxL ret hh ∈ ws) (hinit : ∀ a' U, s.WarmedH U.vm → (Cond.initialized y.cls).before a' U = true) :
    vx_Back l R p e below s sargs y len W9 (PreOf R mc ms Pc) (PostOf Qc mc ms free) (vx_Post XC mc ms free) := by
  intro m meth c A g ig mk a X hg hsize hdg hW hn hp
  have h1 : (headSpec ws rm).pre.before a A.U = true := atoms_intro fun w hw => hws w hw _ _ X.warmed
  have h2 : (Cond.codeWith y bytes maxL ret hh).before a A.U = true := hws _ hcode _ _ X.warmed
  have h3 : (Cond.initialized y.cls).before a A.U = true := hinit _ _ X.warmed
  have h4 : A.cells + (headSpec ws rm).room.cells ≤ R.cells := by rw [show (headSpec ws rm).room.cells = mc from hrc]; exact hp.1
  have h5 : A.slots + (headSpec ws rm).room.slots ≤ R.slots := by rw [show (headSpec ws rm).room.slots = ms from hrs]; exact hp.2.1
  have hPc : Pc a (A.U.calling g mk a) := hblind _ _ _ _ hp.2.2
  obtain ⟨U, Ls, c0, s0⟩ := A
  dsimp only [Pt.U, Pt.locs, Pt.cells, Pt.slots] at h1 h2 h3 h4 h5 X hn hPc ⊢
  obtain ⟨m9, methY, cY, hn9, hmY, hcY, -, hlY, -⟩ := Cond.codeWith_spec h2
  cases Option.some.inj (hn9.symm.trans hn)
  obtain ⟨kY, hkY, -⟩ := className_of_methodNamed hn
  have hinitY : kY.init = .initialized := Cond.initialized_spec (findClass_of_methodNamed hn) hkY h3
  have h : At U g.method c below := by rw [hg]; exact X.here
  have hlocals9 : W9 + (maxL + 11) + (headSpec ws rm).room.locals ≤ R.locals := hlocals
  have happ : (headSpec ws rm).appliesLoose y e.platform (U.calling g mk a) = true :=
    Spec.appliesLoose_calling (g := g) h hdg hn hkY hinitY
      (X.room_calling (g := g) (R' := (headSpec ws rm).room) hsize hmY hcY hframes (by rw [hlY]; omega) h4 h5) h1
  obtain ⟨mid, hmid⟩ := h.above
  have hfr : (U.setTop g).frames = (.java g :: mid) ++ below := by rw [State.frames_setTop' g h.top, hmid]; rfl
  obtain ⟨o, s₂, hsteps, -, hend, hq⟩ := Steps.callFree hM p X.admits X.cas X.clock (acts := []) hfr happ hPc trivial
  have hq' : vx_Q Qc XC mc ms free a (U.calling g mk a) o s₂ := hq
  rw [State.frames_setTop' g h.top] at hend
  obtain ⟨g₀, hg0⟩ := Option.isSome_iff_exists.mp h.top
  obtain ⟨r, hr⟩ := State.topJava?_eq_some.mp hg0
  have hr' : (({ U with heap := s₂.heap, slotsUsed := s₂.slotsUsed } : State).setVm s₂.vm).frames = .java g₀ :: r := hr
  rcases hq' with ⟨hqc, L, hfe, hL⟩ | ⟨q, rfl, E, ce, L, hx, hce, hcv, hcl, hW₂, hsm, hL⟩
  · obtain ⟨⟨v, rfl⟩, hW₂, e2, q2, q3, q4, q5, q6⟩ := id hfe
    have e3 : s₂ = ({ (U.calling g mk a).setFrames s₂.frames with heap := s₂.heap, slotsUsed := s₂.slotsUsed } : State).setVm s₂.vm := by
      have : s₂ = ({ s₂ with vm := (U.calling g mk a).vm } : State).setVm s₂.vm := rfl
      rw [e2] at this
      exact this
    obtain ⟨c₂, i₂, len₂, hc₂, hd₂, hf₂⟩ := hend
    have hW' : U.WarmedH s₂.vm := hW₂
    have hcc : c₂ = c := by
      have h1 : s₂.code? g.method = U.code? g.method := by
        rw [State.code?_eq, State.code?_eq, hW'.alike.method?]
      exact Option.some.inj (hc₂.symm.trans (h1.trans h.code))
    subst hcc
    have hlen : len₂ = len := by rw [hdg] at hd₂; cases hd₂; rfl
    subst hlen
    have hs₂ : s₂ = (({ U with heap := s₂.heap, slotsUsed := s₂.slotsUsed } : State).setVm s₂.vm).setTop { g with pc := g.pc + len₂, stack := v.toList ++ g.stack } := by
      refine e3.trans ?_
      rw [hf₂, State.calling_eq h.top, State.setFrames_setFrames, State.setTop_of_frames _ hr', hr]
      rfl
    have hsame : U.sameButNew ({ U with heap := s₂.heap, slotsUsed := s₂.slotsUsed } : State) L mc ms := by
      refine ⟨?_, q2, q3, q4, q5, q6⟩
      obtain ⟨t, ht, -⟩ := State.frames_cons hr
      show ({ U with heap := s₂.heap, slotsUsed := s₂.slotsUsed } : State) = { U.setFrames U.frames with heap := s₂.heap, slotsUsed := s₂.slotsUsed }
      rw [State.setFrames_self ht]
    subst hg
    refine Or.inl ⟨v, ⟨(({ U with heap := s₂.heap, slotsUsed := s₂.slotsUsed } : State).setVm s₂.vm), Ls ++ L, c0 + mc, s0 + ms⟩,
      ⟨X.admits, X.cas, X.clock, X.frames, X.room, X.hears, X.method, X.code, (X.here.setHeapUsed s₂.heap s₂.slotsUsed).setVm hW'.alike, X.tail, State.WarmedH.trans X.warmed hW', X.limits, X.bytes, X.same.trans (hsame.setVm s.vm)⟩,
      ⟨g, mk, s₂, L, rfl, rfl, hqc, rfl, hL, rfl, rfl⟩, ?_⟩
    show Steps p.tables e below _ ((({ U with heap := s₂.heap, slotsUsed := s₂.slotsUsed } : State).setVm s₂.vm).setTop { g with pc := g.pc + len₂, stack := v.toList ++ g.stack })
    rw [← hs₂]
    exact hsteps
  · obtain ⟨e2, q2, q3, q4, q5, q6⟩ := id hsm
    have e3 : s₂ = ({ (U.calling g mk a).setFrames s₂.frames with heap := s₂.heap, slotsUsed := s₂.slotsUsed } : State).setVm s₂.vm := by
      have : s₂ = ({ s₂ with vm := (U.calling g mk a).vm } : State).setVm s₂.vm := rfl
      rw [e2] at this
      exact this
    have hf₂ : s₂.frames = .throwing q :: .java g :: U.frames.tail := hend
    have hW' : U.WarmedH s₂.vm := hW₂
    have hs₂ : s₂ = ((({ U with heap := s₂.heap, slotsUsed := s₂.slotsUsed } : State).setVm s₂.vm).setTop g).pushFrame (.throwing q) := by
      refine e3.trans ?_
      rw [hf₂, State.calling_eq h.top, State.setFrames_setFrames, State.pushFrame, State.frames_setTop _ hr', State.setTop_of_frames _ hr', State.setFrames_setFrames, hr]
      rfl
    have hsame : U.sameButNew ({ U with heap := s₂.heap, slotsUsed := s₂.slotsUsed } : State) L mc ms := by
      refine ⟨?_, q2, q3, q4, q5, q6⟩
      obtain ⟨t, ht, -⟩ := State.frames_cons hr
      show ({ U with heap := s₂.heap, slotsUsed := s₂.slotsUsed } : State) = { U.setFrames U.frames with heap := s₂.heap, slotsUsed := s₂.slotsUsed }
      rw [State.setFrames_self ht]
    subst hg
    refine Or.inr ⟨q, ⟨(({ U with heap := s₂.heap, slotsUsed := s₂.slotsUsed } : State).setVm s₂.vm), Ls ++ L, c0 + mc, s0 + ms⟩,
      ⟨X.admits, X.cas, X.clock, X.frames, X.room, X.hears, X.method, X.code, (X.here.setHeapUsed s₂.heap s₂.slotsUsed).setVm hW'.alike, X.tail, State.WarmedH.trans X.warmed hW', X.limits, X.bytes, X.same.trans (hsame.setVm s.vm)⟩,
      ⟨g, mk, s₂, L, E, ce, rfl, rfl, hx, hce, hcv, hcl, rfl, hL, rfl, rfl⟩, ?_⟩
    show Steps p.tables e below _ (((({ U with heap := s₂.heap, slotsUsed := s₂.slotsUsed } : State).setVm s₂.vm).setTop g).pushFrame (.throwing q))
    rw [← hs₂]
    exact hsteps
end
variable {p : Program} {l : Launch} {e : Env} {R : Room} {s : State} {m : MethodId} {args : Array Value} {below : List Frame} {meth : Method} {c : Code} {T : State} {H : Heap} {locs : List Loc} {cells slots : Nat}
theorem vx_callVX (X : Stand p l e R s m args below meth c T locs cells slots) (hexec : p.tables.exec = Jvm.exec) {own C : String} {index : Nat} {y : MethodName} {bytes : ByteArray} {maxL : Nat} {ret : Option FieldType} {hh : List (Nat × Nat × Nat × Nat)}
    (hown : s.vm.findClass own = some m.cls) (hlink : (Cond.methodLink own index y).before args s = true) (hinst : (Cond.instanceMethod y).before args s = true) (hsel : (Cond.selects C y y).before args s = true)
    (hcode : (Cond.codeWith y bytes maxL ret hh).before args s = true) (hy : y.cls ≠ "java/lang/invoke/MethodHandle" ∧ y.cls ≠ "java/lang/invoke/VarHandle")
    {W9 : Nat} {Pre : Pt → Array Value → Prop} {Post : Pt → Array Value → Option Value → Pt → Prop} {PostX : Pt → Array Value → Addr → Pt → Prop} (hK : vx_Back l R p e below s args y 3 W9 Pre Post PostX)
    {b : Addr} {cellB : Cell} (hcell : T.heap[b]? = some cellB) (hobj : cellB.vm.isStatics = false) (hcls : s.vm.findClass C = some cellB.cls)
    {g : JFrame} (hg : g.method = m) (hsize : g.locals.size = c.maxLocals) {argsL rest : List Value} (hlen : ∀ sig, parseMethodDescriptor y.desc = some sig → argsL.length = sig.parameters.length)
    (hstack : g.stack = argsL.reverse ++ .ref b :: rest) (hW : 2 * g.monitorRoom + (rest.map fun v => v.category).sum ≤ W9) (hdg : decode c.code g.pc = .ok (.invokevirtual index, 3))
    (hpre : ∀ vm₁, s.WarmedH vm₁ → Pre ⟨T.setVm vm₁, locs, cells, slots⟩ (Value.ref b :: argsL).toArray) :
    (∃ (v : Option Value) (vm₁ : Vm) (B : Pt), s.WarmedH vm₁ ∧ Stand p l e R s m args below meth c B.U B.locs B.cells B.slots ∧ Post ⟨T.setVm vm₁, locs, cells, slots⟩ (Value.ref b :: argsL).toArray v B ∧
      ∀ target, Steps p.tables e below (B.U.setTop { g with pc := g.pc + 3, stack := v.toList ++ rest }) target → Steps p.tables e below (T.setTop g) target) ∨
    (∃ (q : Addr) (vm₁ : Vm) (B : Pt), s.WarmedH vm₁ ∧ Stand p l e R s m args below meth c B.U B.locs B.cells B.slots ∧ PostX ⟨T.setVm vm₁, locs, cells, slots⟩ (Value.ref b :: argsL).toArray q B ∧
      Steps p.tables e below (T.setTop g) ((B.U.setTop { g with stack := rest }).pushFrame (.throwing q))) := by
  obtain ⟨mk, methM, hnamed, hmethM, hstM, habM⟩ := Cond.instanceMethod_spec hinst
  obtain ⟨m8, methM', cM, hn8, hmethM', -, -, -, -, -, -, hsigM⟩ := Cond.codeWith_spec hcode
  cases Option.some.inj (hn8.symm.trans hnamed)
  cases hmethM.symm.trans hmethM'
  obtain ⟨c2, r2, m2, q1, q2, q3, q4, kP, hkP, hkPi⟩ := Cond.selects_spec hsel
  cases hcls.symm.trans q1
  cases (State.methodFound?_of_named hnamed hy).symm.trans q2
  cases hnamed.symm.trans q3
  have hselP : selectMethod e.platform s.vm cellB.cls mk = .method mk := by rw [Launch.admits_selectMethod X.admits]; exact q4
  obtain ⟨vm₁, X₁, hstep₁⟩ := X.invokevirtual hexec hown hlink hnamed hmethM hstM hkP hkPi hy (a := b) (cell := cellB) hcell
    (fun z h => by rw [h] at hobj; cases hobj) hselP hmethM habM hkP hkPi (g := g) hg (argsL := argsL) (rest := rest) (hlen _ hsigM) hstack hdg
  rcases hK m meth c ⟨T.setVm vm₁, locs, cells, slots⟩ { g with stack := rest } (.invokevirtual index) mk (Value.ref b :: argsL).toArray X₁ hg hsize hdg hW (X₁.named hnamed) (hpre vm₁ X₁.warmed) with ⟨v, B, X', hpost, hsteps⟩ | ⟨q, B, X', hpost, hsteps⟩
  · exact Or.inl ⟨v, vm₁, B, X₁.warmed, X', hpost, fun target h => hstep₁ _ fun acts => by rw [doInvoke_state]; exact hsteps.trans h⟩
  · exact Or.inr ⟨q, vm₁, B, X₁.warmed, X', hpost, hstep₁ _ fun acts => by rw [doInvoke_state]; exact hsteps⟩
theorem vx_callSX (X : Stand p l e R s m args below meth c T locs cells slots) (hexec : p.tables.exec = Jvm.exec) {own : String} {index : Nat} {y : MethodName} {bytes : ByteArray} {maxL : Nat} {ret : Option FieldType} {hh : List (Nat × Nat × Nat × Nat)}
    (hown : s.vm.findClass own = some m.cls) (hlink : (Cond.methodLink own index y).before args s = true) (hstat : (Cond.static y).before args s = true) (hinit : (Cond.initialized y.cls).before args s = true)
    (hcode : (Cond.codeWith y bytes maxL ret hh).before args s = true) (hy : y.cls ≠ "java/lang/invoke/MethodHandle" ∧ y.cls ≠ "java/lang/invoke/VarHandle")
    {W9 : Nat} {Pre : Pt → Array Value → Prop} {Post : Pt → Array Value → Option Value → Pt → Prop} {PostX : Pt → Array Value → Addr → Pt → Prop} (hK : vx_Back l R p e below s args y 3 W9 Pre Post PostX)
    {g : JFrame} (hg : g.method = m) (hsize : g.locals.size = c.maxLocals) {argsL rest : List Value} (hlen : ∀ sig, parseMethodDescriptor y.desc = some sig → argsL.length = sig.parameters.length)
    (hstack : g.stack = argsL.reverse ++ rest) (hW : 2 * g.monitorRoom + (rest.map fun v => v.category).sum ≤ W9) (hdg : decode c.code g.pc = .ok (.invokestatic index, 3))
    (hpre : ∀ vm₁, s.WarmedH vm₁ → Pre ⟨T.setVm vm₁, locs, cells, slots⟩ argsL.toArray) :
    (∃ (v : Option Value) (vm₁ : Vm) (B : Pt), s.WarmedH vm₁ ∧ Stand p l e R s m args below meth c B.U B.locs B.cells B.slots ∧ Post ⟨T.setVm vm₁, locs, cells, slots⟩ argsL.toArray v B ∧
      ∀ target, Steps p.tables e below (B.U.setTop { g with pc := g.pc + 3, stack := v.toList ++ rest }) target → Steps p.tables e below (T.setTop g) target) ∨
    (∃ (q : Addr) (vm₁ : Vm) (B : Pt), s.WarmedH vm₁ ∧ Stand p l e R s m args below meth c B.U B.locs B.cells B.slots ∧ PostX ⟨T.setVm vm₁, locs, cells, slots⟩ argsL.toArray q B ∧
      Steps p.tables e below (T.setTop g) ((B.U.setTop { g with stack := rest }).pushFrame (.throwing q))) := by
  obtain ⟨mk, methM, cM, hnamed, hmethM, -, -, -, -, -, -, hsigM⟩ := Cond.codeWith_spec hcode
  have hstatic : methM.isStatic = true := Cond.static_spec hnamed hmethM hstat
  obtain ⟨kP, hkP, -⟩ := className_of_methodNamed hnamed
  have hinitP : kP.init = .initialized := Cond.initialized_spec (findClass_of_methodNamed hnamed) hkP hinit
  obtain ⟨vm₁, X₁, hstep₁⟩ := X.invokestatic hexec hown hlink hnamed hmethM hstatic hkP hinitP hy (g := g) hg (argsL := argsL) (rest := rest) (hlen _ hsigM) hstack hdg
  rcases hK m meth c ⟨T.setVm vm₁, locs, cells, slots⟩ { g with stack := rest } (.invokestatic index) mk argsL.toArray X₁ hg hsize hdg hW (X₁.named hnamed) (hpre vm₁ X₁.warmed) with ⟨v, B, X', hpost, hsteps⟩ | ⟨q, B, X', hpost, hsteps⟩
  · exact Or.inl ⟨v, vm₁, B, X₁.warmed, X', hpost, fun target h => hstep₁ _ fun acts => by rw [doInvoke_state]; exact hsteps.trans h⟩
  · exact Or.inr ⟨q, vm₁, B, X₁.warmed, X', hpost, hstep₁ _ fun acts => by rw [doInvoke_state]; exact hsteps⟩
theorem vx_callVW (X : Stand p l e R s m args below meth c T locs cells slots) (hexec : p.tables.exec = Jvm.exec) {own C : String} {index : Nat} {y : MethodName} {bytes : ByteArray} {maxL : Nat} {ret : Option FieldType} {hh : List (Nat × Nat × Nat × Nat)}
    (hown : s.vm.findClass own = some m.cls) (hlink : (Cond.methodLink own index y).before args s = true) (hinst : (Cond.instanceMethod y).before args s = true) (hsel : (Cond.selects C y y).before args s = true)
    (hcode : (Cond.codeWith y bytes maxL ret hh).before args s = true) (hy : y.cls ≠ "java/lang/invoke/MethodHandle" ∧ y.cls ≠ "java/lang/invoke/VarHandle")
    {W9 : Nat} {Pre : Pt → Array Value → Prop} {Post : Pt → Array Value → Option Value → Pt → Prop} (hK : Back l R p e below s args y 3 W9 Pre Post)
    {b : Addr} {cellB : Cell} (hcell : T.heap[b]? = some cellB) (hobj : cellB.vm.isStatics = false) (hcls : s.vm.findClass C = some cellB.cls)
    {g : JFrame} (hg : g.method = m) (hsize : g.locals.size = c.maxLocals) {argsL rest : List Value} (hlen : ∀ sig, parseMethodDescriptor y.desc = some sig → argsL.length = sig.parameters.length)
    (hstack : g.stack = argsL.reverse ++ .ref b :: rest) (hW : 2 * g.monitorRoom + (rest.map fun v => v.category).sum ≤ W9) (hdg : decode c.code g.pc = .ok (.invokevirtual index, 3))
    (hpre : ∀ vm₁, s.WarmedH vm₁ → Pre ⟨T.setVm vm₁, locs, cells, slots⟩ (Value.ref b :: argsL).toArray) :
    ∃ (v : Option Value) (vm₁ : Vm) (B : Pt), s.WarmedH vm₁ ∧ Stand p l e R s m args below meth c B.U B.locs B.cells B.slots ∧ Post ⟨T.setVm vm₁, locs, cells, slots⟩ (Value.ref b :: argsL).toArray v B ∧
      ∀ target, Steps p.tables e below (B.U.setTop { g with pc := g.pc + 3, stack := v.toList ++ rest }) target → Steps p.tables e below (T.setTop g) target := by
  obtain ⟨mk, methM, hnamed, hmethM, hstM, habM⟩ := Cond.instanceMethod_spec hinst
  obtain ⟨m8, methM', cM, hn8, hmethM', -, -, -, -, -, -, hsigM⟩ := Cond.codeWith_spec hcode
  cases Option.some.inj (hn8.symm.trans hnamed)
  cases hmethM.symm.trans hmethM'
  obtain ⟨c2, r2, m2, q1, q2, q3, q4, kP, hkP, hkPi⟩ := Cond.selects_spec hsel
  cases hcls.symm.trans q1
  cases (State.methodFound?_of_named hnamed hy).symm.trans q2
  cases hnamed.symm.trans q3
  have hselP : selectMethod e.platform s.vm cellB.cls mk = .method mk := by rw [Launch.admits_selectMethod X.admits]; exact q4
  obtain ⟨vm₁, X₁, hstep₁⟩ := X.invokevirtual hexec hown hlink hnamed hmethM hstM hkP hkPi hy (a := b) (cell := cellB) hcell
    (fun z h => by rw [h] at hobj; cases hobj) hselP hmethM habM hkP hkPi (g := g) hg (argsL := argsL) (rest := rest) (hlen _ hsigM) hstack hdg
  obtain ⟨v, B, X', hpost, hsteps⟩ := hK m meth c ⟨T.setVm vm₁, locs, cells, slots⟩ { g with stack := rest } (.invokevirtual index) mk (Value.ref b :: argsL).toArray X₁ hg hsize hdg hW (X₁.named hnamed) (hpre vm₁ X₁.warmed)
  exact ⟨v, vm₁, B, X₁.warmed, X', hpost, fun target h => hstep₁ _ fun acts => by rw [doInvoke_state]; exact hsteps.trans h⟩
abbrev vx_CVW (R : Room) (s : State) (args : Array Value) (own C : String) (index : Nat) (y : MethodName) (bytes : ByteArray) (maxL : Nat) (ret : Option FieldType) (hh : List (Nat × Nat × Nat × Nat)) (ws : List Cond) (rm : Room) (mc ms n : Nat) : Prop :=
  (rm.cells = mc ∧ rm.slots = ms ∧ rm.frames + 1 ≤ R.frames ∧ 8 + (maxL + 11) + rm.locals ≤ R.locals ∧ (∀ w ∈ ws, ∀ (a' : Array Value) (U : State), s.WarmedH U.vm → w.before a' U = true) ∧ Cond.codeWith y bytes maxL ret hh ∈ ws) ∧
  (Cond.codeWith y bytes maxL ret hh).before args s = true ∧ (Cond.initialized y.cls).before args s = true ∧ (y.cls ≠ "java/lang/invoke/MethodHandle" ∧ y.cls ≠ "java/lang/invoke/VarHandle") ∧
  (∀ sig, parseMethodDescriptor y.desc = some sig → n = sig.parameters.length) ∧ (Cond.methodLink own index y).before args s = true ∧ (Cond.instanceMethod y).before args s = true ∧ (Cond.selects C y y).before args s = true
theorem vx_cwVW {own C : String} {index maxL mc ms : Nat} {y : MethodName} {bytes : ByteArray} {ret : Option FieldType} {hh : List (Nat × Nat × Nat × Nat)} {Ts ws ws' : List Cond} {rm : Room} (n : Nat) (ht : ∀ w ∈ Ts, w.before args s = true) (hT : GoodIn Ts (wsV own index C y ws)) (hw : ws = Cond.codeWith y bytes maxL ret hh :: ws') (hrc : rm.cells = mc) (hrs : rm.slots = ms)
    (hd : y.cls = C ∧ y.cls ≠ "java/lang/invoke/MethodHandle" ∧ y.cls ≠ "java/lang/invoke/VarHandle" ∧ (parseMethodDescriptor y.desc).map (fun d => d.parameters.length) = some n) (hR : rm.frames + 1 ≤ R.frames ∧ 8 + (maxL + 11) + rm.locals ≤ R.locals) :
    vx_CVW R s args own C index y bytes maxL ret hh ws rm mc ms n := by
  obtain ⟨hC, hd⟩ := hd
  subst hC
  have ok : ∀ w ∈ wsV own index y.cls y ws, w.before args s = true := fun w h => ht w (hT w h).1
  have hG : GoodIn Ts ws := fun w h => hT w (by unfold wsV; exact List.mem_append_right _ h)
  have hc : Cond.codeWith y bytes maxL ret hh ∈ ws := by rw [hw]; exact List.mem_cons_self
  refine ⟨⟨hrc, hrs, hR.1, hR.2, pay_in ht hG, hc⟩, ht _ (hG _ hc).1, ok _ (by simp [wsV]), ⟨hd.1, hd.2.1⟩, fun sig h => ?_, ok _ (by simp [wsV]), ok _ (by simp [wsV]), ok _ (by simp [wsV])⟩
  have h2 := hd.2.2
  rw [h] at h2
  exact (Option.some.inj h2).symm
theorem vx_runVW {y : MethodName} {bytes cc : ByteArray} {maxL nL mc ms n index : Nat} {ret : Option FieldType} {hh : List (Nat × Nat × Nat × Nat)} {ws : List Cond} {rm : Room} {Pc : Array Value → State → Prop} {Qc : Array Value → State → Outcome → State → Prop} {free : Addr → Prop} {Ts : List Cond} {own C : String} {b : Addr} {As rest : List Value} {g : JFrame}
    (S : CallFix p m c cc nL s args Ts own) (hM : Met l y ws rm Pc Qc mc ms free) (cw : vx_CVW R s args own C index y bytes maxL ret hh ws rm mc ms n) (hp : PreV s H C b Pc As)
    (hg : g.method = m) (hn : As.length = n) (hsize : g.locals.size = nL) (hstack : g.stack = As.reverse ++ .ref b :: rest) (hW : 2 * g.monitorRoom + (rest.map fun v => v.category).sum ≤ 8) (hdg : decode cc g.pc = .ok (.invokevirtual index, 3)) (hf : cells + mc ≤ R.cells ∧ slots + ms ≤ R.slots) :
    va_Run p l e R s m args below meth c H locs cells slots mc ms g rest (Qc (Value.ref b :: As).toArray) free := by
  obtain ⟨⟨hrc, hrs, hfr, hlo, hws, hcw⟩, hcode, hini, hy, hlen, hl, hin, hse⟩ := cw
  have hK : Back l R p e below s args y 3 8 (PreOf R mc ms Pc) (PostOf Qc mc ms free) := va_backW (hh := hh) (bytes := bytes) (maxL := maxL) (ret := ret) hM hp.1 hrc hrs hfr hlo hws hcw (fun a' U hW => word_at hW (Or.inl (by first | rfl | simp [Cond.onTables, Cond.keeps, Cond.steady])) hini)
  obtain ⟨hx, hb, hml, ho, -⟩ := S
  obtain ⟨-, ⟨cellB, hcB, hoB, hclB⟩, hPc⟩ := hp
  intro T hT X
  obtain ⟨v, vm₁, ⟨U', l2, c2, s2⟩, hW₁, X', ⟨g', mk, t, L, e1, e2, hq, h1, hL, h2, h3⟩, st⟩ := vx_callVW X hx (C := C) (hh := hh) (bytes := bytes) (maxL := maxL) (ret := ret) ho hl hin hse hcode hy hK (by rw [hT]; exact hcB) hoB hclB hg (hsize.trans hml.symm) (argsL := As) (rest := rest) (fun sig h => hn.trans (hlen sig h)) hstack hW (by rw [hb]; exact hdg)
    (fun vm₁ hW₁ => ⟨hf.1, hf.2, hPc (T.setVm vm₁) hT hW₁⟩)
  dsimp only [Pt.U, Pt.locs, Pt.cells, Pt.slots] at X' e1 e2 h1 h2 h3 st
  subst h1; subst h2; subst h3
  exact ⟨v, (T.setVm vm₁).calling g' mk (Value.ref b :: As).toArray, t, U', L, hT, X', hL, e1, e2, hq, st⟩
section
variable {y : MethodName} {bytes cc : ByteArray} {maxL nL mc ms n index : Nat} {ret : Option FieldType} {ws : List Cond} {rm : Room} {Pc : Array Value → State → Prop} {Qc : Array Value → State → Outcome → State → Prop} {XC : String → State → State → Prop} {free : Addr → Prop} {Ts : List Cond} {own C : String} {b : Addr} {As rest : List Value} {g : JFrame}
theorem vx_runVX {hh : List (Nat × Nat × Nat × Nat)} (S : CallFix p m c cc nL s args Ts own) (hM : vx_Met l y ws rm Pc Qc XC mc ms free) (cw : vx_CVW R s args own C index y bytes maxL ret hh ws rm mc ms n) (hp : PreV s H C b Pc As)
    (hg : g.method = m) (hn : As.length = n) (hsize : g.locals.size = nL) (hstack : g.stack = As.reverse ++ .ref b :: rest) (hW : 2 * g.monitorRoom + (rest.map fun v => v.category).sum ≤ 8) (hdg : decode cc g.pc = .ok (.invokevirtual index, 3)) (hf : cells + mc ≤ R.cells ∧ slots + ms ≤ R.slots) :
    vx_Run p l e R s m args below meth c H locs cells slots mc ms g rest (Qc (Value.ref b :: As).toArray) XC free := by
  obtain ⟨⟨hrc, hrs, hfr, hlo, hws, hcw⟩, hcode, hini, hy, hlen, hl, hin, hse⟩ := cw
  have hK : vx_Back l R p e below s args y 3 8 (PreOf R mc ms Pc) (PostOf Qc mc ms free) (vx_Post XC mc ms free) := vx_backW (hh := hh) (bytes := bytes) (maxL := maxL) (ret := ret) hM hp.1 hrc hrs hfr hlo hws hcw (fun a' U hW => word_at hW (Or.inl (by first | rfl | simp [Cond.onTables, Cond.keeps, Cond.steady])) hini)
  obtain ⟨hx, hb, hml, ho, -⟩ := S
  obtain ⟨-, ⟨cellB, hcB, hoB, hclB⟩, hPc⟩ := hp
  intro T hT X
  rcases vx_callVX X hx (C := C) (hh := hh) (bytes := bytes) (maxL := maxL) (ret := ret) ho hl hin hse hcode hy hK (by rw [hT]; exact hcB) hoB hclB hg (hsize.trans hml.symm) (argsL := As) (rest := rest) (fun sig h => hn.trans (hlen sig h)) hstack hW (by rw [hb]; exact hdg)
    (fun vm₁ hW₁ => ⟨hf.1, hf.2, hPc (T.setVm vm₁) hT hW₁⟩) with ⟨v, vm₁, ⟨U', l2, c2, s2⟩, hW₁, X', ⟨g', mk, t, L, e1, e2, hq, h1, hL, h2, h3⟩, st⟩ | ⟨q, vm₁, ⟨U', l2, c2, s2⟩, hW₁, X', ⟨g', mk, t, L, E, ce, e1, e2, hq, hce, hcv, hcl, h1, hL, h2, h3⟩, st⟩
  · dsimp only [Pt.U, Pt.locs, Pt.cells, Pt.slots] at X' e1 e2 h1 h2 h3 st
    subst h1; subst h2; subst h3
    exact Or.inl ⟨v, (T.setVm vm₁).calling g' mk (Value.ref b :: As).toArray, t, U', L, hT, X', hL, e1, e2, hq, st⟩
  · dsimp only [Pt.U, Pt.locs, Pt.cells, Pt.slots] at X' e1 e2 h1 h2 h3 st hcl
    subst h1; subst h2; subst h3
    exact Or.inr ⟨q, (T.setVm vm₁).calling g' mk (Value.ref b :: As).toArray, t, U', L, E, ce, hT, X', hL, e1, e2, hq, hce, hcv, vx_cls hW₁ hcl, st⟩
theorem vx_runSX {hh : List (Nat × Nat × Nat × Nat)} (S : CallFix p m c cc nL s args Ts own) (hM : vx_Met l y ws rm Pc Qc XC mc ms free) (cw : vx_CSW R s args own index y bytes maxL ret hh ws rm mc ms n) (hp : PreS s H Pc As)
    (hg : g.method = m) (hn : As.length = n) (hsize : g.locals.size = nL) (hstack : g.stack = As.reverse ++ rest) (hW : 2 * g.monitorRoom + (rest.map fun v => v.category).sum ≤ 8) (hdg : decode cc g.pc = .ok (.invokestatic index, 3)) (hf : cells + mc ≤ R.cells ∧ slots + ms ≤ R.slots) :
    vx_Run p l e R s m args below meth c H locs cells slots mc ms g rest (Qc As.toArray) XC free := by
  obtain ⟨⟨hrc, hrs, hfr, hlo, hws, hcw⟩, hcode, hini, hy, hlen, hl, hstt⟩ := cw
  have hK : vx_Back l R p e below s args y 3 8 (PreOf R mc ms Pc) (PostOf Qc mc ms free) (vx_Post XC mc ms free) := vx_backW (hh := hh) (bytes := bytes) (maxL := maxL) (ret := ret) hM hp.1 hrc hrs hfr hlo hws hcw (fun a' U hW => word_at hW (Or.inl (by first | rfl | simp [Cond.onTables, Cond.keeps, Cond.steady])) hini)
  obtain ⟨hx, hb, hml, ho, -⟩ := S
  intro T hT X
  rcases vx_callSX X hx (hh := hh) (bytes := bytes) (maxL := maxL) (ret := ret) ho hl hstt hini hcode hy hK hg (hsize.trans hml.symm) (argsL := As) (rest := rest) (fun sig h => hn.trans (hlen sig h)) hstack hW (by rw [hb]; exact hdg)
    (fun vm₁ hW₁ => ⟨hf.1, hf.2, hp.2 (T.setVm vm₁) hT hW₁⟩) with ⟨v, vm₁, ⟨U', l2, c2, s2⟩, hW₁, X', ⟨g', mk, t, L, e1, e2, hq, h1, hL, h2, h3⟩, st⟩ | ⟨q, vm₁, ⟨U', l2, c2, s2⟩, hW₁, X', ⟨g', mk, t, L, E, ce, e1, e2, hq, hce, hcv, hcl, h1, hL, h2, h3⟩, st⟩
  · dsimp only [Pt.U, Pt.locs, Pt.cells, Pt.slots] at X' e1 e2 h1 h2 h3 st
    subst h1; subst h2; subst h3
    exact Or.inl ⟨v, (T.setVm vm₁).calling g' mk As.toArray, t, U', L, hT, X', hL, e1, e2, hq, st⟩
  · dsimp only [Pt.U, Pt.locs, Pt.cells, Pt.slots] at X' e1 e2 h1 h2 h3 st hcl
    subst h1; subst h2; subst h3
    exact Or.inr ⟨q, (T.setVm vm₁).calling g' mk As.toArray, t, U', L, E, ce, hT, X', hL, e1, e2, hq, hce, hcv, vx_cls hW₁ hcl, st⟩
end
end VXH
theorem vx_ofWH {l : Launch} {y : MethodName} {ws ws' : List Cond} {rm : Room} {Pc : Array Value → State → Prop} {Qc : Array Value → State → Outcome → State → Prop} {XC : String → State → State → Prop} {mc ms : Nat} {free : Addr → Prop} {cc : ByteArray} {maxL : Nat} {ret : Option FieldType} {hh : List (Nat × Nat × Nat × Nat)}
    (hy : plainName y.cls = true) (hw : ws = Cond.codeWith y cc maxL ret hh :: ws')
    (body : ∀ p e s m args below meth c s₁, BodyLoose p l y (headSpec ws rm) cc maxL ret e s m args below meth c s₁ → c.maxLocals = maxL → Pc args s →
      W p l e (headSpec ws rm).room s m args below meth c s.heap [] 0 0 (vx_MQ below Qc XC args s mc ms free) (entryFrame m args maxL)) : vx_Met l y ws rm Pc Qc XC mc ms free := by
  refine MetFree.of_bodyS (code := cc) (maxLocals := maxL) (ret := ret) hy ?_ ?_
  · intro args s m h hn
    obtain ⟨m9, meth, c, hn9, h1, h2, h3, h4, -, h5, h6, -⟩ := Cond.codeWith_spec (atoms_spec (ws := ws) h _ (by rw [hw]; exact List.mem_cons_self))
    cases hn.symm.trans hn9
    exact ⟨meth, c, h1, h2, h3, h4, h5, h6⟩
  · intro p e s m args below meth c s₁ B hml hP _
    have hh0 : s₁.heap = s.heap := by rw [B.state]; rfl
    obtain ⟨t, a1, o, b1, b2, b3⟩ := body p e s m args below meth c s₁ B hml hP s₁ hh0 (Stand.of_body B)
    exact ⟨t, o, a1, b1, b2, b3⟩
/-! ===== END ===== -/
end
section
def RX0 : String := "RumourPipes$Lift"
def TX0 : u_T := fun k => match k with
  | 0 => ("RumourPipes$Lift", "running", "Z", false)
  | 1 => ("RumourPipes$Lift", "waits", "I", false)
  | _ => ("RumourPipes$Lift", "stops", "[Z", true)
def tyX0 : Nat → FieldType := fun k => match k with
  | 0 => .boolean
  | 1 => .int
  | _ => .array .boolean
theorem nmX0 : ∀ a, a < 3 → ∀ b, b < 3 → a ≠ b → (TX0 a).2.1 ≠ (TX0 b).2.1 := by decide +kernel
theorem tyX0_ok : ∀ k, k < 3 → parseFieldDescriptor (TX0 k).2.2.1 = some (tyX0 k) := by decide +kernel
abbrev cX0_init : ByteArray := prog_2_method_1_code
def yX0_init : MethodName := ⟨RX0, "<init>", "()V"⟩
abbrev cX0_set : ByteArray := prog_2_method_2_code
def yX0_set : MethodName := ⟨RX0, "set", "(IIII)V"⟩
abbrev cX0_hoursBetween : ByteArray := prog_2_method_3_code
def yX0_hoursBetween : MethodName := ⟨RX0, "hoursBetween", "(II)I"⟩
def RX1 : String := "RumourPipes$Rumour"
def TX1 : u_T := fun k => match k with
  | 0 => ("RumourPipes$Rumour", "origin", "I", false)
  | 1 => ("RumourPipes$Rumour", "reach", "I", false)
  | 2 => ("RumourPipes$Rumour", "state", "[I", true)
  | 3 => ("RumourPipes$Rumour", "heardIn", "[I", true)
  | 4 => ("RumourPipes$Rumour", "deniedIn", "[I", true)
  | 5 => ("RumourPipes$Rumour", "pipesGone", "[I", true)
  | 6 => ("RumourPipes$Rumour", "tellsIn", "[I", true)
  | 7 => ("RumourPipes$Rumour", "deniesIn", "[I", true)
  | 8 => ("RumourPipes$Rumour", "comesIn", "[I", true)
  | 9 => ("RumourPipes$Rumour", "comesByPipes", "[I", true)
  | _ => ("RumourPipes$Rumour", "denialComesIn", "[I", true)
def tyX1 : Nat → FieldType := fun k => match k with
  | 0 => .int
  | 1 => .int
  | 2 => .array .int
  | 3 => .array .int
  | 4 => .array .int
  | 5 => .array .int
  | 6 => .array .int
  | 7 => .array .int
  | 8 => .array .int
  | 9 => .array .int
  | _ => .array .int
theorem nmX1 : ∀ a, a < 11 → ∀ b, b < 11 → a ≠ b → (TX1 a).2.1 ≠ (TX1 b).2.1 := by decide +kernel
theorem tyX1_ok : ∀ k, k < 11 → parseFieldDescriptor (TX1 k).2.2.1 = some (tyX1 k) := by decide +kernel
abbrev cX1_init : ByteArray := prog_3_method_1_code
def yX1_init : MethodName := ⟨RX1, "<init>", "()V"⟩
abbrev cX1_start : ByteArray := prog_3_method_2_code
def yX1_start : MethodName := ⟨RX1, "start", "(LRumourPipes$Tower;III)V"⟩
abbrev cX1_copyFrom : ByteArray := prog_3_method_3_code
def yX1_copyFrom : MethodName := ⟨RX1, "copyFrom", "(LRumourPipes$Rumour;)V"⟩
abbrev cX1_bringRumour : ByteArray := prog_3_method_4_code
def yX1_bringRumour : MethodName := ⟨RX1, "bringRumour", "(LRumourPipes$Tower;III)Z"⟩
abbrev cX1_bringDenial : ByteArray := prog_3_method_5_code
def yX1_bringDenial : MethodName := ⟨RX1, "bringDenial", "(LRumourPipes$Tower;II)V"⟩
abbrev cX1_passHour : ByteArray := prog_3_method_6_code
def yX1_passHour : MethodName := ⟨RX1, "passHour", "(LRumourPipes$Tower;I)I"⟩
abbrev cX1_tellRumour : ByteArray := prog_3_method_7_code
def yX1_tellRumour : MethodName := ⟨RX1, "tellRumour", "(LRumourPipes$Tower;II)V"⟩
abbrev cX1_tellDenial : ByteArray := prog_3_method_8_code
def yX1_tellDenial : MethodName := ⟨RX1, "tellDenial", "(LRumourPipes$Tower;II)V"⟩
abbrev cX1_lookAhead : ByteArray := prog_3_method_9_code
def yX1_lookAhead : MethodName := ⟨RX1, "lookAhead", "(LRumourPipes$Tower;I)I"⟩
abbrev cX1_isQuiet : ByteArray := prog_3_method_10_code
def yX1_isQuiet : MethodName := ⟨RX1, "isQuiet", "(I)Z"⟩
abbrev cX1_isUnderWayTo : ByteArray := prog_3_method_11_code
def yX1_isUnderWayTo : MethodName := ⟨RX1, "isUnderWayTo", "(I)Z"⟩
abbrev cX1_headsThatBelieve : ByteArray := prog_3_method_12_code
def yX1_headsThatBelieve : MethodName := ⟨RX1, "headsThatBelieve", "(LRumourPipes$Tower;)I"⟩
def RX2 : String := "RumourPipes$Tower"
def TX2 : u_T := fun k => match k with
  | 0 => ("RumourPipes$Tower", "count", "I", false)
  | 1 => ("RumourPipes$Tower", "liftCount", "I", false)
  | 2 => ("RumourPipes$Tower", "heads", "[I", true)
  | 3 => ("RumourPipes$Tower", "stay", "[I", true)
  | 4 => ("RumourPipes$Tower", "stairs", "[I", true)
  | 5 => ("RumourPipes$Tower", "open", "[Z", true)
  | 6 => ("RumourPipes$Tower", "lifts", "[LRumourPipes$Lift;", true)
  | _ => ("RumourPipes$Tower", "pipes", "[[I", true)
def tyX2 : Nat → FieldType := fun k => match k with
  | 0 => .int
  | 1 => .int
  | 2 => .array .int
  | 3 => .array .int
  | 4 => .array .int
  | 5 => .array .boolean
  | 6 => .array (.object "RumourPipes$Lift")
  | _ => .array (.array .int)
theorem nmX2 : ∀ a, a < 8 → ∀ b, b < 8 → a ≠ b → (TX2 a).2.1 ≠ (TX2 b).2.1 := by decide +kernel
theorem tyX2_ok : ∀ k, k < 8 → parseFieldDescriptor (TX2 k).2.2.1 = some (tyX2 k) := by decide +kernel
abbrev cX2_init : ByteArray := prog_4_method_1_code
def yX2_init : MethodName := ⟨RX2, "<init>", "()V"⟩
abbrev cX2_reset : ByteArray := prog_4_method_2_code
def yX2_reset : MethodName := ⟨RX2, "reset", "(I)V"⟩
abbrev cX2_putLift : ByteArray := prog_4_method_3_code
def yX2_putLift : MethodName := ⟨RX2, "putLift", "(IIII)I"⟩
abbrev cX2_letStairs : ByteArray := prog_4_method_4_code
def yX2_letStairs : MethodName := ⟨RX2, "letStairs", "(IZ)V"⟩
abbrev cX2_letLift : ByteArray := prog_4_method_5_code
def yX2_letLift : MethodName := ⟨RX2, "letLift", "(IZ)V"⟩
abbrev cX2_layPipes : ByteArray := prog_4_method_6_code
def yX2_layPipes : MethodName := ⟨RX2, "layPipes", "()V"⟩
abbrev cX2_fewestHours : ByteArray := prog_4_method_7_code
def yX2_fewestHours : MethodName := ⟨RX2, "fewestHours", "(II)I"⟩
def RX3 : String := "RumourPipes$Ways"
def TX3 : u_T := fun k => match k with
  | 0 => ("RumourPipes$Ways", "hours", "[I", true)
  | 1 => ("RumourPipes$Ways", "pipes", "[I", true)
  | _ => ("RumourPipes$Ways", "settled", "[Z", true)
def tyX3 : Nat → FieldType := fun k => match k with
  | 0 => .array .int
  | 1 => .array .int
  | _ => .array .boolean
theorem nmX3 : ∀ a, a < 3 → ∀ b, b < 3 → a ≠ b → (TX3 a).2.1 ≠ (TX3 b).2.1 := by decide +kernel
theorem tyX3_ok : ∀ k, k < 3 → parseFieldDescriptor (TX3 k).2.2.1 = some (tyX3 k) := by decide +kernel
abbrev cX3_init : ByteArray := prog_5_method_1_code
def yX3_init : MethodName := ⟨RX3, "<init>", "()V"⟩
abbrev cX3_findFrom : ByteArray := prog_5_method_2_code
def yX3_findFrom : MethodName := ⟨RX3, "findFrom", "(LRumourPipes$Tower;I)V"⟩
abbrev cX3_nearest : ByteArray := prog_5_method_3_code
def yX3_nearest : MethodName := ⟨RX3, "nearest", "(I)I"⟩
abbrev cX3_leadOn : ByteArray := prog_5_method_4_code
def yX3_leadOn : MethodName := ⟨RX3, "leadOn", "(LRumourPipes$Tower;I)V"⟩
abbrev cX3_isBetter : ByteArray := prog_5_method_5_code
def yX3_isBetter : MethodName := ⟨RX3, "isBetter", "(III)Z"⟩
abbrev cX3_greatestHours : ByteArray := prog_5_method_6_code
def yX3_greatestHours : MethodName := ⟨RX3, "greatestHours", "(I)I"⟩
abbrev cX3_leadBelow : ByteArray := prog_5_method_7_code
def yX3_leadBelow : MethodName := ⟨RX3, "leadBelow", "(I)Z"⟩
def RX4 : String := "RumourPipes"
def TX4 : u_T := fun k => match k with
  | 0 => ("RumourPipes", "tower", "LRumourPipes$Tower;", true)
  | 1 => ("RumourPipes", "ways", "LRumourPipes$Ways;", true)
  | 2 => ("RumourPipes", "started", "[LRumourPipes$Rumour;", true)
  | 3 => ("RumourPipes", "trial", "LRumourPipes$Rumour;", true)
  | 4 => ("RumourPipes", "rumourCount", "I", false)
  | _ => ("RumourPipes", "hour", "I", false)
def tyX4 : Nat → FieldType := fun k => match k with
  | 0 => .object "RumourPipes$Tower"
  | 1 => .object "RumourPipes$Ways"
  | 2 => .array (.object "RumourPipes$Rumour")
  | 3 => .object "RumourPipes$Rumour"
  | 4 => .int
  | _ => .int
theorem nmX4 : ∀ a, a < 6 → ∀ b, b < 6 → a ≠ b → (TX4 a).2.1 ≠ (TX4 b).2.1 := by decide +kernel
theorem tyX4_ok : ∀ k, k < 6 → parseFieldDescriptor (TX4 k).2.2.1 = some (tyX4 k) := by decide +kernel
abbrev cX4_init : ByteArray := prog_1_method_1_code
def yX4_init : MethodName := ⟨RX4, "<init>", "()V"⟩
abbrev cX4_build : ByteArray := prog_1_method_2_code
def yX4_build : MethodName := ⟨RX4, "build", "(I)I"⟩
abbrev cX4_setStay : ByteArray := prog_1_method_3_code
def yX4_setStay : MethodName := ⟨RX4, "setStay", "(II)I"⟩
abbrev cX4_setHeads : ByteArray := prog_1_method_4_code
def yX4_setHeads : MethodName := ⟨RX4, "setHeads", "(II)I"⟩
abbrev cX4_setStairs : ByteArray := prog_1_method_5_code
def yX4_setStairs : MethodName := ⟨RX4, "setStairs", "(II)I"⟩
abbrev cX4_turnStairs : ByteArray := prog_1_method_6_code
def yX4_turnStairs : MethodName := ⟨RX4, "turnStairs", "(I)Z"⟩
abbrev cX4_addLift : ByteArray := prog_1_method_7_code
def yX4_addLift : MethodName := ⟨RX4, "addLift", "(IIII)I"⟩
abbrev cX4_turnLift : ByteArray := prog_1_method_8_code
def yX4_turnLift : MethodName := ⟨RX4, "turnLift", "(I)Z"⟩
abbrev cX4_startRumour : ByteArray := prog_1_method_9_code
def yX4_startRumour : MethodName := ⟨RX4, "startRumour", "(II)I"⟩
abbrev cX4_startDenial : ByteArray := prog_1_method_10_code
def yX4_startDenial : MethodName := ⟨RX4, "startDenial", "(II)I"⟩
abbrev cX4_passHours : ByteArray := prog_1_method_11_code
def yX4_passHours : MethodName := ⟨RX4, "passHours", "(I)I"⟩
abbrev cX4_floors : ByteArray := prog_1_method_12_code
def yX4_floors : MethodName := ⟨RX4, "floors", "()I"⟩
abbrev cX4_hours : ByteArray := prog_1_method_13_code
def yX4_hours : MethodName := ⟨RX4, "hours", "()I"⟩
abbrev cX4_lifts : ByteArray := prog_1_method_14_code
def yX4_lifts : MethodName := ⟨RX4, "lifts", "()I"⟩
abbrev cX4_rumours : ByteArray := prog_1_method_15_code
def yX4_rumours : MethodName := ⟨RX4, "rumours", "()I"⟩
abbrev cX4_headsOf : ByteArray := prog_1_method_16_code
def yX4_headsOf : MethodName := ⟨RX4, "headsOf", "(I)I"⟩
abbrev cX4_stayOf : ByteArray := prog_1_method_17_code
def yX4_stayOf : MethodName := ⟨RX4, "stayOf", "(I)I"⟩
abbrev cX4_stairsOf : ByteArray := prog_1_method_18_code
def yX4_stairsOf : MethodName := ⟨RX4, "stairsOf", "(I)I"⟩
abbrev cX4_isOpen : ByteArray := prog_1_method_19_code
def yX4_isOpen : MethodName := ⟨RX4, "isOpen", "(I)Z"⟩
abbrev cX4_runs : ByteArray := prog_1_method_20_code
def yX4_runs : MethodName := ⟨RX4, "runs", "(I)Z"⟩
abbrev cX4_serves : ByteArray := prog_1_method_21_code
def yX4_serves : MethodName := ⟨RX4, "serves", "(II)Z"⟩
abbrev cX4_pipe : ByteArray := prog_1_method_22_code
def yX4_pipe : MethodName := ⟨RX4, "pipe", "(II)I"⟩
abbrev cX4_neighbours : ByteArray := prog_1_method_23_code
def yX4_neighbours : MethodName := ⟨RX4, "neighbours", "(I)I"⟩
abbrev cX4_originOf : ByteArray := prog_1_method_24_code
def yX4_originOf : MethodName := ⟨RX4, "originOf", "(I)I"⟩
abbrev cX4_reachOf : ByteArray := prog_1_method_25_code
def yX4_reachOf : MethodName := ⟨RX4, "reachOf", "(I)I"⟩
abbrev cX4_stateOf : ByteArray := prog_1_method_26_code
def yX4_stateOf : MethodName := ⟨RX4, "stateOf", "(II)I"⟩
abbrev cX4_heardAt : ByteArray := prog_1_method_27_code
def yX4_heardAt : MethodName := ⟨RX4, "heardAt", "(II)I"⟩
abbrev cX4_deniedAt : ByteArray := prog_1_method_28_code
def yX4_deniedAt : MethodName := ⟨RX4, "deniedAt", "(II)I"⟩
abbrev cX4_pipesTo : ByteArray := prog_1_method_29_code
def yX4_pipesTo : MethodName := ⟨RX4, "pipesTo", "(II)I"⟩
abbrev cX4_believers : ByteArray := prog_1_method_30_code
def yX4_believers : MethodName := ⟨RX4, "believers", "(I)I"⟩
abbrev cX4_reached : ByteArray := prog_1_method_31_code
def yX4_reached : MethodName := ⟨RX4, "reached", "(I)I"⟩
abbrev cX4_underWay : ByteArray := prog_1_method_32_code
def yX4_underWay : MethodName := ⟨RX4, "underWay", "(I)I"⟩
abbrev cX4_quickest : ByteArray := prog_1_method_33_code
def yX4_quickest : MethodName := ⟨RX4, "quickest", "(II)I"⟩
abbrev cX4_pipesBetween : ByteArray := prog_1_method_34_code
def yX4_pipesBetween : MethodName := ⟨RX4, "pipesBetween", "(II)I"⟩
abbrev cX4_farthestFrom : ByteArray := prog_1_method_35_code
def yX4_farthestFrom : MethodName := ⟨RX4, "farthestFrom", "(I)I"⟩
abbrev cX4_centre : ByteArray := prog_1_method_36_code
def yX4_centre : MethodName := ⟨RX4, "centre", "()I"⟩
abbrev cX4_parts : ByteArray := prog_1_method_37_code
def yX4_parts : MethodName := ⟨RX4, "parts", "()I"⟩
abbrev cX4_gainBy : ByteArray := prog_1_method_38_code
def yX4_gainBy : MethodName := ⟨RX4, "gainBy", "(III)I"⟩
abbrev cX4_wouldHear : ByteArray := prog_1_method_39_code
def yX4_wouldHear : MethodName := ⟨RX4, "wouldHear", "(II)I"⟩
abbrev cX4_believersInTheEnd : ByteArray := prog_1_method_40_code
def yX4_believersInTheEnd : MethodName := ⟨RX4, "believersInTheEnd", "(I)I"⟩
abbrev cX4_quietIn : ByteArray := prog_1_method_41_code
def yX4_quietIn : MethodName := ⟨RX4, "quietIn", "(I)I"⟩
abbrev cX4_believersWith : ByteArray := prog_1_method_42_code
def yX4_believersWith : MethodName := ⟨RX4, "believersWith", "(II)I"⟩
abbrev cX4_bestDenial : ByteArray := prog_1_method_43_code
def yX4_bestDenial : MethodName := ⟨RX4, "bestDenial", "(I)I"⟩
abbrev cX4_bestStairsToShut : ByteArray := prog_1_method_44_code
def yX4_bestStairsToShut : MethodName := ⟨RX4, "bestStairsToShut", "(I)I"⟩
abbrev cX4_meanHeads : ByteArray := prog_1_method_45_code
def yX4_meanHeads : MethodName := ⟨RX4, "meanHeads", "()D"⟩
abbrev cX4_digest : ByteArray := prog_1_method_46_code
def yX4_digest : MethodName := ⟨RX4, "digest", "()J"⟩
abbrev cX4_withRumour : ByteArray := prog_1_method_47_code
def yX4_withRumour : MethodName := ⟨RX4, "withRumour", "(JI)J"⟩
abbrev cX4_mixed : ByteArray := prog_1_method_48_code
def yX4_mixed : MethodName := ⟨RX4, "mixed", "(JJ)J"⟩
abbrev cX4_needFloor : ByteArray := prog_1_method_49_code
def yX4_needFloor : MethodName := ⟨RX4, "needFloor", "(I)V"⟩
abbrev cX4_needStairs : ByteArray := prog_1_method_50_code
def yX4_needStairs : MethodName := ⟨RX4, "needStairs", "(I)V"⟩
abbrev cX4_needLift : ByteArray := prog_1_method_51_code
def yX4_needLift : MethodName := ⟨RX4, "needLift", "(I)V"⟩
abbrev cX4_needRumour : ByteArray := prog_1_method_52_code
def yX4_needRumour : MethodName := ⟨RX4, "needRumour", "(I)V"⟩
abbrev cX4_needArgument : ByteArray := prog_1_method_53_code
def yX4_needArgument : MethodName := ⟨RX4, "needArgument", "(III)V"⟩
def RX5 : String := "RumourPipesModel"
def TX5 : u_T := fun k => match k with
  | 0 => ("RumourPipesModel", "thrown", "I", false)
  | 1 => ("RumourPipesModel", "floors", "I", false)
  | 2 => ("RumourPipesModel", "lifts", "I", false)
  | 3 => ("RumourPipesModel", "rumours", "I", false)
  | 4 => ("RumourPipesModel", "heads", "[I", true)
  | 5 => ("RumourPipesModel", "stay", "[I", true)
  | 6 => ("RumourPipesModel", "stairs", "[I", true)
  | 7 => ("RumourPipesModel", "isOpen", "[Z", true)
  | 8 => ("RumourPipesModel", "lowest", "[I", true)
  | 9 => ("RumourPipesModel", "highest", "[I", true)
  | 10 => ("RumourPipesModel", "every", "[I", true)
  | 11 => ("RumourPipesModel", "waits", "[I", true)
  | 12 => ("RumourPipesModel", "isRunning", "[Z", true)
  | 13 => ("RumourPipesModel", "origin", "[I", true)
  | 14 => ("RumourPipesModel", "reach", "[I", true)
  | 15 => ("RumourPipesModel", "now", "[I", true)
  | 16 => ("RumourPipesModel", "kept", "[I", true)
  | 17 => ("RumourPipesModel", "far", "[I", true)
  | 18 => ("RumourPipesModel", "pipes", "[I", true)
  | _ => ("RumourPipesModel", "isDone", "[Z", true)
def tyX5 : Nat → FieldType := fun k => match k with
  | 0 => .int
  | 1 => .int
  | 2 => .int
  | 3 => .int
  | 4 => .array .int
  | 5 => .array .int
  | 6 => .array .int
  | 7 => .array .boolean
  | 8 => .array .int
  | 9 => .array .int
  | 10 => .array .int
  | 11 => .array .int
  | 12 => .array .boolean
  | 13 => .array .int
  | 14 => .array .int
  | 15 => .array .int
  | 16 => .array .int
  | 17 => .array .int
  | 18 => .array .int
  | _ => .array .boolean
theorem nmX5 : ∀ a, a < 20 → ∀ b, b < 20 → a ≠ b → (TX5 a).2.1 ≠ (TX5 b).2.1 := by decide +kernel
theorem tyX5_ok : ∀ k, k < 20 → parseFieldDescriptor (TX5 k).2.2.1 = some (tyX5 k) := by decide +kernel
abbrev cX5_init : ByteArray := prog_7_method_1_code
def yX5_init : MethodName := ⟨RX5, "<init>", "()V"⟩
abbrev cX5_thrown : ByteArray := prog_7_method_2_code
def yX5_thrown : MethodName := ⟨RX5, "thrown", "()I"⟩
abbrev cX5_no : ByteArray := prog_7_method_3_code
def yX5_no : MethodName := ⟨RX5, "no", "(I)I"⟩
abbrev cX5_isNot : ByteArray := prog_7_method_4_code
def yX5_isNot : MethodName := ⟨RX5, "isNot", "(I)Z"⟩
abbrev cX5_ok : ByteArray := prog_7_method_5_code
def yX5_ok : MethodName := ⟨RX5, "ok", "(I)I"⟩
abbrev cX5_isIn : ByteArray := prog_7_method_6_code
def yX5_isIn : MethodName := ⟨RX5, "isIn", "(III)Z"⟩
abbrev cX5_isFloor : ByteArray := prog_7_method_7_code
def yX5_isFloor : MethodName := ⟨RX5, "isFloor", "(I)Z"⟩
abbrev cX5_isStairs : ByteArray := prog_7_method_8_code
def yX5_isStairs : MethodName := ⟨RX5, "isStairs", "(I)Z"⟩
abbrev cX5_isLift : ByteArray := prog_7_method_9_code
def yX5_isLift : MethodName := ⟨RX5, "isLift", "(I)Z"⟩
abbrev cX5_isRumour : ByteArray := prog_7_method_10_code
def yX5_isRumour : MethodName := ⟨RX5, "isRumour", "(I)Z"⟩
abbrev cX5_anew : ByteArray := prog_7_method_11_code
def yX5_anew : MethodName := ⟨RX5, "anew", "(I)V"⟩
abbrev cX5_keep : ByteArray := prog_7_method_12_code
def yX5_keep : MethodName := ⟨RX5, "keep", "()V"⟩
abbrev cX5_bringBack : ByteArray := prog_7_method_13_code
def yX5_bringBack : MethodName := ⟨RX5, "bringBack", "()V"⟩
abbrev cX5_isServed : ByteArray := prog_7_method_14_code
def yX5_isServed : MethodName := ⟨RX5, "isServed", "(II)Z"⟩
abbrev cX5_hoursOf : ByteArray := prog_7_method_15_code
def yX5_hoursOf : MethodName := ⟨RX5, "hoursOf", "(II)I"⟩
abbrev cX5_isBetter : ByteArray := prog_7_method_16_code
def yX5_isBetter : MethodName := ⟨RX5, "isBetter", "(III)Z"⟩
abbrev cX5_ways : ByteArray := prog_7_method_17_code
def yX5_ways : MethodName := ⟨RX5, "ways", "(I)V"⟩
abbrev cX5_way : ByteArray := prog_7_method_18_code
def yX5_way : MethodName := ⟨RX5, "way", "(II)I"⟩
abbrev cX5_farthest : ByteArray := prog_7_method_19_code
def yX5_farthest : MethodName := ⟨RX5, "farthest", "(I)I"⟩
abbrev cX5_isAllAround : ByteArray := prog_7_method_20_code
def yX5_isAllAround : MethodName := ⟨RX5, "isAllAround", "()Z"⟩
abbrev cX5_middle : ByteArray := prog_7_method_21_code
def yX5_middle : MethodName := ⟨RX5, "middle", "()I"⟩
abbrev cX5_partsNow : ByteArray := prog_7_method_22_code
def yX5_partsNow : MethodName := ⟨RX5, "partsNow", "()I"⟩
abbrev cX5_around : ByteArray := prog_7_method_23_code
def yX5_around : MethodName := ⟨RX5, "around", "(I)I"⟩
abbrev cX5_hear : ByteArray := prog_7_method_24_code
def yX5_hear : MethodName := ⟨RX5, "hear", "(II)V"⟩
abbrev cX5_deny : ByteArray := prog_7_method_25_code
def yX5_deny : MethodName := ⟨RX5, "deny", "(I)V"⟩
abbrev cX5_send : ByteArray := prog_7_method_26_code
def yX5_send : MethodName := ⟨RX5, "send", "(IIZ)V"⟩
abbrev cX5_arrive : ByteArray := prog_7_method_27_code
def yX5_arrive : MethodName := ⟨RX5, "arrive", "(I)V"⟩
abbrev cX5_tell : ByteArray := prog_7_method_28_code
def yX5_tell : MethodName := ⟨RX5, "tell", "(II)V"⟩
abbrev cX5_hourFor : ByteArray := prog_7_method_29_code
def yX5_hourFor : MethodName := ⟨RX5, "hourFor", "(I)V"⟩
abbrev cX5_hourOn : ByteArray := prog_7_method_30_code
def yX5_hourOn : MethodName := ⟨RX5, "hourOn", "()V"⟩
abbrev cX5_lookOn : ByteArray := prog_7_method_31_code
def yX5_lookOn : MethodName := ⟨RX5, "lookOn", "(II)V"⟩
abbrev cX5_heardOf : ByteArray := prog_7_method_32_code
def yX5_heardOf : MethodName := ⟨RX5, "heardOf", "(I)I"⟩
abbrev cX5_heardInAll : ByteArray := prog_7_method_33_code
def yX5_heardInAll : MethodName := ⟨RX5, "heardInAll", "()I"⟩
abbrev cX5_believing : ByteArray := prog_7_method_34_code
def yX5_believing : MethodName := ⟨RX5, "believing", "(I)I"⟩
abbrev cX5_isOnWay : ByteArray := prog_7_method_35_code
def yX5_isOnWay : MethodName := ⟨RX5, "isOnWay", "(I)Z"⟩
abbrev cX5_isQuiet : ByteArray := prog_7_method_36_code
def yX5_isQuiet : MethodName := ⟨RX5, "isQuiet", "(I)Z"⟩
abbrev cX5_build : ByteArray := prog_7_method_37_code
def yX5_build : MethodName := ⟨RX5, "build", "(I)I"⟩
abbrev cX5_let : ByteArray := prog_7_method_38_code
def yX5_let : MethodName := ⟨RX5, "let", "([III)I"⟩
abbrev cX5_setStay : ByteArray := prog_7_method_39_code
def yX5_setStay : MethodName := ⟨RX5, "setStay", "(II)I"⟩
abbrev cX5_setHeads : ByteArray := prog_7_method_40_code
def yX5_setHeads : MethodName := ⟨RX5, "setHeads", "(II)I"⟩
abbrev cX5_setStairs : ByteArray := prog_7_method_41_code
def yX5_setStairs : MethodName := ⟨RX5, "setStairs", "(II)I"⟩
abbrev cX5_turned : ByteArray := prog_7_method_42_code
def yX5_turned : MethodName := ⟨RX5, "turned", "([ZI)Z"⟩
abbrev cX5_turnStairs : ByteArray := prog_7_method_43_code
def yX5_turnStairs : MethodName := ⟨RX5, "turnStairs", "(I)Z"⟩
abbrev cX5_addLift : ByteArray := prog_7_method_44_code
def yX5_addLift : MethodName := ⟨RX5, "addLift", "(IIII)I"⟩
abbrev cX5_turnLift : ByteArray := prog_7_method_45_code
def yX5_turnLift : MethodName := ⟨RX5, "turnLift", "(I)Z"⟩
abbrev cX5_startRumour : ByteArray := prog_7_method_46_code
def yX5_startRumour : MethodName := ⟨RX5, "startRumour", "(II)I"⟩
abbrev cX5_startDenial : ByteArray := prog_7_method_47_code
def yX5_startDenial : MethodName := ⟨RX5, "startDenial", "(II)I"⟩
abbrev cX5_passHours : ByteArray := prog_7_method_48_code
def yX5_passHours : MethodName := ⟨RX5, "passHours", "(I)I"⟩
abbrev cX5_floors : ByteArray := prog_7_method_49_code
def yX5_floors : MethodName := ⟨RX5, "floors", "()I"⟩
abbrev cX5_hours : ByteArray := prog_7_method_50_code
def yX5_hours : MethodName := ⟨RX5, "hours", "()I"⟩
abbrev cX5_lifts : ByteArray := prog_7_method_51_code
def yX5_lifts : MethodName := ⟨RX5, "lifts", "()I"⟩
abbrev cX5_rumours : ByteArray := prog_7_method_52_code
def yX5_rumours : MethodName := ⟨RX5, "rumours", "()I"⟩
abbrev cX5_of : ByteArray := prog_7_method_53_code
def yX5_of : MethodName := ⟨RX5, "of", "([IIZ)I"⟩
abbrev cX5_headsOf : ByteArray := prog_7_method_54_code
def yX5_headsOf : MethodName := ⟨RX5, "headsOf", "(I)I"⟩
abbrev cX5_stayOf : ByteArray := prog_7_method_55_code
def yX5_stayOf : MethodName := ⟨RX5, "stayOf", "(I)I"⟩
abbrev cX5_stairsOf : ByteArray := prog_7_method_56_code
def yX5_stairsOf : MethodName := ⟨RX5, "stairsOf", "(I)I"⟩
abbrev cX5_isOpen : ByteArray := prog_7_method_57_code
def yX5_isOpen : MethodName := ⟨RX5, "isOpen", "(I)Z"⟩
abbrev cX5_runs : ByteArray := prog_7_method_58_code
def yX5_runs : MethodName := ⟨RX5, "runs", "(I)Z"⟩
abbrev cX5_serves : ByteArray := prog_7_method_59_code
def yX5_serves : MethodName := ⟨RX5, "serves", "(II)Z"⟩
abbrev cX5_pipe : ByteArray := prog_7_method_60_code
def yX5_pipe : MethodName := ⟨RX5, "pipe", "(II)I"⟩
abbrev cX5_neighbours : ByteArray := prog_7_method_61_code
def yX5_neighbours : MethodName := ⟨RX5, "neighbours", "(I)I"⟩
abbrev cX5_originOf : ByteArray := prog_7_method_62_code
def yX5_originOf : MethodName := ⟨RX5, "originOf", "(I)I"⟩
abbrev cX5_reachOf : ByteArray := prog_7_method_63_code
def yX5_reachOf : MethodName := ⟨RX5, "reachOf", "(I)I"⟩
abbrev cX5_told : ByteArray := prog_7_method_64_code
def yX5_told : MethodName := ⟨RX5, "told", "(III)I"⟩
abbrev cX5_stateOf : ByteArray := prog_7_method_65_code
def yX5_stateOf : MethodName := ⟨RX5, "stateOf", "(II)I"⟩
abbrev cX5_heardAt : ByteArray := prog_7_method_66_code
def yX5_heardAt : MethodName := ⟨RX5, "heardAt", "(II)I"⟩
abbrev cX5_deniedAt : ByteArray := prog_7_method_67_code
def yX5_deniedAt : MethodName := ⟨RX5, "deniedAt", "(II)I"⟩
abbrev cX5_pipesTo : ByteArray := prog_7_method_68_code
def yX5_pipesTo : MethodName := ⟨RX5, "pipesTo", "(II)I"⟩
abbrev cX5_believers : ByteArray := prog_7_method_69_code
def yX5_believers : MethodName := ⟨RX5, "believers", "(I)I"⟩
abbrev cX5_reached : ByteArray := prog_7_method_70_code
def yX5_reached : MethodName := ⟨RX5, "reached", "(I)I"⟩
abbrev cX5_onWay : ByteArray := prog_7_method_71_code
def yX5_onWay : MethodName := ⟨RX5, "onWay", "(I)I"⟩
abbrev cX5_underWay : ByteArray := prog_7_method_72_code
def yX5_underWay : MethodName := ⟨RX5, "underWay", "(I)I"⟩
abbrev cX5_quickest : ByteArray := prog_7_method_73_code
def yX5_quickest : MethodName := ⟨RX5, "quickest", "(II)I"⟩
abbrev cX5_pipesBetween : ByteArray := prog_7_method_74_code
def yX5_pipesBetween : MethodName := ⟨RX5, "pipesBetween", "(II)I"⟩
abbrev cX5_farthestFrom : ByteArray := prog_7_method_75_code
def yX5_farthestFrom : MethodName := ⟨RX5, "farthestFrom", "(I)I"⟩
abbrev cX5_centre : ByteArray := prog_7_method_76_code
def yX5_centre : MethodName := ⟨RX5, "centre", "()I"⟩
abbrev cX5_parts : ByteArray := prog_7_method_77_code
def yX5_parts : MethodName := ⟨RX5, "parts", "()I"⟩
abbrev cX5_wayWith : ByteArray := prog_7_method_78_code
def yX5_wayWith : MethodName := ⟨RX5, "wayWith", "(IZII)I"⟩
abbrev cX5_gainBy : ByteArray := prog_7_method_79_code
def yX5_gainBy : MethodName := ⟨RX5, "gainBy", "(III)I"⟩
abbrev cX5_wouldHear : ByteArray := prog_7_method_80_code
def yX5_wouldHear : MethodName := ⟨RX5, "wouldHear", "(II)I"⟩
abbrev cX5_later : ByteArray := prog_7_method_81_code
def yX5_later : MethodName := ⟨RX5, "later", "(I)I"⟩
abbrev cX5_inTheEnd : ByteArray := prog_7_method_82_code
def yX5_inTheEnd : MethodName := ⟨RX5, "inTheEnd", "(I)I"⟩
abbrev cX5_believersInTheEnd : ByteArray := prog_7_method_83_code
def yX5_believersInTheEnd : MethodName := ⟨RX5, "believersInTheEnd", "(I)I"⟩
abbrev cX5_quiet : ByteArray := prog_7_method_84_code
def yX5_quiet : MethodName := ⟨RX5, "quiet", "(I)I"⟩
abbrev cX5_quietIn : ByteArray := prog_7_method_85_code
def yX5_quietIn : MethodName := ⟨RX5, "quietIn", "(I)I"⟩
abbrev cX5_with : ByteArray := prog_7_method_86_code
def yX5_with : MethodName := ⟨RX5, "with", "(II)I"⟩
abbrev cX5_believersWith : ByteArray := prog_7_method_87_code
def yX5_believersWith : MethodName := ⟨RX5, "believersWith", "(II)I"⟩
abbrev cX5_denial : ByteArray := prog_7_method_88_code
def yX5_denial : MethodName := ⟨RX5, "denial", "(I)I"⟩
abbrev cX5_bestDenial : ByteArray := prog_7_method_89_code
def yX5_bestDenial : MethodName := ⟨RX5, "bestDenial", "(I)I"⟩
abbrev cX5_toShut : ByteArray := prog_7_method_90_code
def yX5_toShut : MethodName := ⟨RX5, "toShut", "(I)I"⟩
abbrev cX5_bestStairsToShut : ByteArray := prog_7_method_91_code
def yX5_bestStairsToShut : MethodName := ⟨RX5, "bestStairsToShut", "(I)I"⟩
abbrev cX5_meanHeads : ByteArray := prog_7_method_92_code
def yX5_meanHeads : MethodName := ⟨RX5, "meanHeads", "()D"⟩
abbrev cX5_digest : ByteArray := prog_7_method_93_code
def yX5_digest : MethodName := ⟨RX5, "digest", "()J"⟩
def RJ9 : String := "java/lang/Math"
def TJ9 : u_T := fun k => match k with
  | _ => ("", "", "", false)
def tyJ9 : Nat → FieldType := fun k => match k with
  | _ => .int
theorem nmJ9 : ∀ a, a < 0 → ∀ b, b < 0 → a ≠ b → (TJ9 a).2.1 ≠ (TJ9 b).2.1 := by decide +kernel
theorem tyJ9_ok : ∀ k, k < 0 → parseFieldDescriptor (TJ9 k).2.2.1 = some (tyJ9 k) := by decide +kernel
abbrev cJ9_max_7cf53 : ByteArray := prog_12_method_65_code
def yJ9_max_7cf53 : MethodName := ⟨RJ9, "max", "(II)I"⟩
abbrev cJ9_min_7cf53 : ByteArray := prog_12_method_69_code
def yJ9_min_7cf53 : MethodName := ⟨RJ9, "min", "(II)I"⟩
def RJ0 : String := "java/lang/String"
def TJ0 : u_T := fun k => match k with
  | _ => ("", "", "", false)
def tyJ0 : Nat → FieldType := fun k => match k with
  | _ => .int
theorem nmJ0 : ∀ a, a < 0 → ∀ b, b < 0 → a ≠ b → (TJ0 a).2.1 ≠ (TJ0 b).2.1 := by decide +kernel
theorem tyJ0_ok : ∀ k, k < 0 → parseFieldDescriptor (TJ0 k).2.2.1 = some (tyJ0 k) := by decide +kernel
def RJ10 : String := "java/lang/System"
def TJ10 : u_T := fun k => match k with
  | _ => ("", "", "", false)
def tyJ10 : Nat → FieldType := fun k => match k with
  | _ => .int
theorem nmJ10 : ∀ a, a < 0 → ∀ b, b < 0 → a ≠ b → (TJ10 a).2.1 ≠ (TJ10 b).2.1 := by decide +kernel
theorem tyJ10_ok : ∀ k, k < 0 → parseFieldDescriptor (TJ10 k).2.2.1 = some (tyJ10 k) := by decide +kernel
def RL : String := "RumourPipesLaw"
abbrev cL_build : ByteArray := method_3_code
def yL_build : MethodName := ⟨RL, "build", "(LRumourPipes;I[J)I"⟩
abbrev cL_setStay : ByteArray := method_4_code
def yL_setStay : MethodName := ⟨RL, "setStay", "(LRumourPipes;II[J)I"⟩
abbrev cL_setHeads : ByteArray := method_5_code
def yL_setHeads : MethodName := ⟨RL, "setHeads", "(LRumourPipes;II[J)I"⟩
abbrev cL_setStairs : ByteArray := method_6_code
def yL_setStairs : MethodName := ⟨RL, "setStairs", "(LRumourPipes;II[J)I"⟩
abbrev cL_turnStairs : ByteArray := method_7_code
def yL_turnStairs : MethodName := ⟨RL, "turnStairs", "(LRumourPipes;I[J)I"⟩
abbrev cL_addLift : ByteArray := method_8_code
def yL_addLift : MethodName := ⟨RL, "addLift", "(LRumourPipes;IIII[J)I"⟩
abbrev cL_turnLift : ByteArray := method_9_code
def yL_turnLift : MethodName := ⟨RL, "turnLift", "(LRumourPipes;I[J)I"⟩
abbrev cL_startRumour : ByteArray := method_10_code
def yL_startRumour : MethodName := ⟨RL, "startRumour", "(LRumourPipes;II[J)I"⟩
abbrev cL_startDenial : ByteArray := method_11_code
def yL_startDenial : MethodName := ⟨RL, "startDenial", "(LRumourPipes;II[J)I"⟩
abbrev cL_passHours : ByteArray := method_12_code
def yL_passHours : MethodName := ⟨RL, "passHours", "(LRumourPipes;I[J)I"⟩
abbrev cL_headsOf : ByteArray := method_13_code
def yL_headsOf : MethodName := ⟨RL, "headsOf", "(LRumourPipes;I[J)I"⟩
abbrev cL_stayOf : ByteArray := method_14_code
def yL_stayOf : MethodName := ⟨RL, "stayOf", "(LRumourPipes;I[J)I"⟩
abbrev cL_stairsOf : ByteArray := method_15_code
def yL_stairsOf : MethodName := ⟨RL, "stairsOf", "(LRumourPipes;I[J)I"⟩
abbrev cL_isOpen : ByteArray := method_16_code
def yL_isOpen : MethodName := ⟨RL, "isOpen", "(LRumourPipes;I[J)I"⟩
abbrev cL_runs : ByteArray := method_17_code
def yL_runs : MethodName := ⟨RL, "runs", "(LRumourPipes;I[J)I"⟩
abbrev cL_serves : ByteArray := method_18_code
def yL_serves : MethodName := ⟨RL, "serves", "(LRumourPipes;II[J)I"⟩
abbrev cL_pipe : ByteArray := method_19_code
def yL_pipe : MethodName := ⟨RL, "pipe", "(LRumourPipes;II[J)I"⟩
abbrev cL_neighbours : ByteArray := method_20_code
def yL_neighbours : MethodName := ⟨RL, "neighbours", "(LRumourPipes;I[J)I"⟩
abbrev cL_originOf : ByteArray := method_21_code
def yL_originOf : MethodName := ⟨RL, "originOf", "(LRumourPipes;I[J)I"⟩
abbrev cL_reachOf : ByteArray := method_22_code
def yL_reachOf : MethodName := ⟨RL, "reachOf", "(LRumourPipes;I[J)I"⟩
abbrev cL_stateOf : ByteArray := method_23_code
def yL_stateOf : MethodName := ⟨RL, "stateOf", "(LRumourPipes;II[J)I"⟩
abbrev cL_heardAt : ByteArray := method_24_code
def yL_heardAt : MethodName := ⟨RL, "heardAt", "(LRumourPipes;II[J)I"⟩
abbrev cL_deniedAt : ByteArray := method_25_code
def yL_deniedAt : MethodName := ⟨RL, "deniedAt", "(LRumourPipes;II[J)I"⟩
abbrev cL_pipesTo : ByteArray := method_26_code
def yL_pipesTo : MethodName := ⟨RL, "pipesTo", "(LRumourPipes;II[J)I"⟩
abbrev cL_believers : ByteArray := method_27_code
def yL_believers : MethodName := ⟨RL, "believers", "(LRumourPipes;I[J)I"⟩
abbrev cL_reached : ByteArray := method_28_code
def yL_reached : MethodName := ⟨RL, "reached", "(LRumourPipes;I[J)I"⟩
abbrev cL_underWay : ByteArray := method_29_code
def yL_underWay : MethodName := ⟨RL, "underWay", "(LRumourPipes;I[J)I"⟩
abbrev cL_quickest : ByteArray := method_30_code
def yL_quickest : MethodName := ⟨RL, "quickest", "(LRumourPipes;II[J)I"⟩
abbrev cL_pipesBetween : ByteArray := method_31_code
def yL_pipesBetween : MethodName := ⟨RL, "pipesBetween", "(LRumourPipes;II[J)I"⟩
abbrev cL_farthestFrom : ByteArray := method_32_code
def yL_farthestFrom : MethodName := ⟨RL, "farthestFrom", "(LRumourPipes;I[J)I"⟩
abbrev cL_gainBy : ByteArray := method_33_code
def yL_gainBy : MethodName := ⟨RL, "gainBy", "(LRumourPipes;III[J)I"⟩
abbrev cL_wouldHear : ByteArray := method_34_code
def yL_wouldHear : MethodName := ⟨RL, "wouldHear", "(LRumourPipes;II[J)I"⟩
abbrev cL_believersInTheEnd : ByteArray := method_35_code
def yL_believersInTheEnd : MethodName := ⟨RL, "believersInTheEnd", "(LRumourPipes;I[J)I"⟩
abbrev cL_quietIn : ByteArray := method_36_code
def yL_quietIn : MethodName := ⟨RL, "quietIn", "(LRumourPipes;I[J)I"⟩
abbrev cL_believersWith : ByteArray := method_37_code
def yL_believersWith : MethodName := ⟨RL, "believersWith", "(LRumourPipes;II[J)I"⟩
abbrev cL_bestDenial : ByteArray := method_38_code
def yL_bestDenial : MethodName := ⟨RL, "bestDenial", "(LRumourPipes;I[J)I"⟩
abbrev cL_bestStairsToShut : ByteArray := method_39_code
def yL_bestStairsToShut : MethodName := ⟨RL, "bestStairsToShut", "(LRumourPipes;I[J)I"⟩
abbrev cL_law : ByteArray := code
def yL_law : MethodName := ⟨RL, "law", "([I)Z"⟩
theorem dX0_init_0 : decode cX0_init 0 = .ok (.aload_n 0, 1) := by decide +kernel
theorem dX0_init_1 : decode cX0_init 1 = .ok (.invokespecial 3, 3) := by decide +kernel
theorem dX0_init_4 : decode cX0_init 4 = .ok (.aload_n 0, 1) := by decide +kernel
theorem dX0_init_5 : decode cX0_init 5 = .ok (.iconst 0, 1) := by decide +kernel
theorem dX0_init_6 : decode cX0_init 6 = .ok (.putfield 9, 3) := by decide +kernel
theorem dX0_init_9 : decode cX0_init 9 = .ok (.aload_n 0, 1) := by decide +kernel
theorem dX0_init_10 : decode cX0_init 10 = .ok (.iconst 0, 1) := by decide +kernel
theorem dX0_init_11 : decode cX0_init 11 = .ok (.putfield 15, 3) := by decide +kernel
theorem dX0_init_14 : decode cX0_init 14 = .ok (.aload_n 0, 1) := by decide +kernel
theorem dX0_init_15 : decode cX0_init 15 = .ok (.bipush 12, 2) := by decide +kernel
theorem dX0_init_17 : decode cX0_init 17 = .ok (.newarray .boolean, 2) := by decide +kernel
theorem dX0_init_19 : decode cX0_init 19 = .ok (.putfield 19, 3) := by decide +kernel
theorem dX0_init_22 : decode cX0_init 22 = .ok (.return_, 1) := by decide +kernel
theorem dX0_set_0 : decode cX0_set 0 = .ok (.aload_n 0, 1) := by decide +kernel
theorem dX0_set_1 : decode cX0_set 1 = .ok (.iconst 1, 1) := by decide +kernel
theorem dX0_set_2 : decode cX0_set 2 = .ok (.putfield 9, 3) := by decide +kernel
theorem dX0_set_5 : decode cX0_set 5 = .ok (.aload_n 0, 1) := by decide +kernel
theorem dX0_set_6 : decode cX0_set 6 = .ok (.iload 4, 2) := by decide +kernel
theorem dX0_set_8 : decode cX0_set 8 = .ok (.putfield 15, 3) := by decide +kernel
theorem dX0_set_11 : decode cX0_set 11 = .ok (.iload_n 1, 1) := by decide +kernel
theorem dX0_set_12 : decode cX0_set 12 = .ok (.istore 5, 2) := by decide +kernel
theorem dX0_set_14 : decode cX0_set 14 = .ok (.iconst 0, 1) := by decide +kernel
theorem dX0_set_15 : decode cX0_set 15 = .ok (.istore 6, 2) := by decide +kernel
theorem dX0_set_17 : decode cX0_set 17 = .ok (.iload 6, 2) := by decide +kernel
theorem dX0_set_19 : decode cX0_set 19 = .ok (.bipush 12, 2) := by decide +kernel
theorem dX0_set_21 : decode cX0_set 21 = .ok (.if_icmp .ge 50, 3) := by decide +kernel
theorem dX0_set_24 : decode cX0_set 24 = .ok (.aload_n 0, 1) := by decide +kernel
theorem dX0_set_25 : decode cX0_set 25 = .ok (.getfield 19, 3) := by decide +kernel
theorem dX0_set_28 : decode cX0_set 28 = .ok (.iload 6, 2) := by decide +kernel
theorem dX0_set_30 : decode cX0_set 30 = .ok (.iload 6, 2) := by decide +kernel
theorem dX0_set_32 : decode cX0_set 32 = .ok (.iload 5, 2) := by decide +kernel
theorem dX0_set_34 : decode cX0_set 34 = .ok (.if_icmp .ne 13, 3) := by decide +kernel
theorem dX0_set_37 : decode cX0_set 37 = .ok (.iload 6, 2) := by decide +kernel
theorem dX0_set_39 : decode cX0_set 39 = .ok (.iload_n 2, 1) := by decide +kernel
theorem dX0_set_40 : decode cX0_set 40 = .ok (.if_icmp .gt 7, 3) := by decide +kernel
theorem dX0_set_43 : decode cX0_set 43 = .ok (.iconst 1, 1) := by decide +kernel
theorem dX0_set_44 : decode cX0_set 44 = .ok (.goto 4, 3) := by decide +kernel
theorem dX0_set_47 : decode cX0_set 47 = .ok (.iconst 0, 1) := by decide +kernel
theorem dX0_set_48 : decode cX0_set 48 = .ok (.bastore, 1) := by decide +kernel
theorem dX0_set_49 : decode cX0_set 49 = .ok (.aload_n 0, 1) := by decide +kernel
theorem dX0_set_50 : decode cX0_set 50 = .ok (.getfield 19, 3) := by decide +kernel
theorem dX0_set_53 : decode cX0_set 53 = .ok (.iload 6, 2) := by decide +kernel
theorem dX0_set_55 : decode cX0_set 55 = .ok (.baload, 1) := by decide +kernel
theorem dX0_set_56 : decode cX0_set 56 = .ok (.ifCond .eq 9, 3) := by decide +kernel
theorem dX0_set_59 : decode cX0_set 59 = .ok (.iload 6, 2) := by decide +kernel
theorem dX0_set_61 : decode cX0_set 61 = .ok (.iload_n 3, 1) := by decide +kernel
theorem dX0_set_62 : decode cX0_set 62 = .ok (.iadd, 1) := by decide +kernel
theorem dX0_set_63 : decode cX0_set 63 = .ok (.istore 5, 2) := by decide +kernel
theorem dX0_set_65 : decode cX0_set 65 = .ok (.iinc 6 1, 3) := by decide +kernel
theorem dX0_set_68 : decode cX0_set 68 = .ok (.goto (-51), 3) := by decide +kernel
theorem dX0_set_71 : decode cX0_set 71 = .ok (.return_, 1) := by decide +kernel
theorem dX0_hoursBetween_0 : decode cX0_hoursBetween 0 = .ok (.aload_n 0, 1) := by decide +kernel
theorem dX0_hoursBetween_1 : decode cX0_hoursBetween 1 = .ok (.getfield 9, 3) := by decide +kernel
theorem dX0_hoursBetween_4 : decode cX0_hoursBetween 4 = .ok (.ifCond .eq 25, 3) := by decide +kernel
theorem dX0_hoursBetween_7 : decode cX0_hoursBetween 7 = .ok (.aload_n 0, 1) := by decide +kernel
theorem dX0_hoursBetween_8 : decode cX0_hoursBetween 8 = .ok (.getfield 19, 3) := by decide +kernel
theorem dX0_hoursBetween_11 : decode cX0_hoursBetween 11 = .ok (.iload_n 1, 1) := by decide +kernel
theorem dX0_hoursBetween_12 : decode cX0_hoursBetween 12 = .ok (.baload, 1) := by decide +kernel
theorem dX0_hoursBetween_13 : decode cX0_hoursBetween 13 = .ok (.ifCond .eq 16, 3) := by decide +kernel
theorem dX0_hoursBetween_16 : decode cX0_hoursBetween 16 = .ok (.aload_n 0, 1) := by decide +kernel
theorem dX0_hoursBetween_17 : decode cX0_hoursBetween 17 = .ok (.getfield 19, 3) := by decide +kernel
theorem dX0_hoursBetween_20 : decode cX0_hoursBetween 20 = .ok (.iload_n 2, 1) := by decide +kernel
theorem dX0_hoursBetween_21 : decode cX0_hoursBetween 21 = .ok (.baload, 1) := by decide +kernel
theorem dX0_hoursBetween_22 : decode cX0_hoursBetween 22 = .ok (.ifCond .eq 7, 3) := by decide +kernel
theorem dX0_hoursBetween_25 : decode cX0_hoursBetween 25 = .ok (.iconst 1, 1) := by decide +kernel
theorem dX0_hoursBetween_26 : decode cX0_hoursBetween 26 = .ok (.goto 4, 3) := by decide +kernel
theorem dX0_hoursBetween_29 : decode cX0_hoursBetween 29 = .ok (.iconst 0, 1) := by decide +kernel
theorem dX0_hoursBetween_30 : decode cX0_hoursBetween 30 = .ok (.istore_n 3, 1) := by decide +kernel
theorem dX0_hoursBetween_31 : decode cX0_hoursBetween 31 = .ok (.iload_n 3, 1) := by decide +kernel
theorem dX0_hoursBetween_32 : decode cX0_hoursBetween 32 = .ok (.ifCond .eq 16, 3) := by decide +kernel
theorem dX0_hoursBetween_35 : decode cX0_hoursBetween 35 = .ok (.aload_n 0, 1) := by decide +kernel
theorem dX0_hoursBetween_36 : decode cX0_hoursBetween 36 = .ok (.getfield 15, 3) := by decide +kernel
theorem dX0_hoursBetween_39 : decode cX0_hoursBetween 39 = .ok (.iload_n 2, 1) := by decide +kernel
theorem dX0_hoursBetween_40 : decode cX0_hoursBetween 40 = .ok (.iload_n 1, 1) := by decide +kernel
theorem dX0_hoursBetween_41 : decode cX0_hoursBetween 41 = .ok (.isub, 1) := by decide +kernel
theorem dX0_hoursBetween_42 : decode cX0_hoursBetween 42 = .ok (.iconst 2, 1) := by decide +kernel
theorem dX0_hoursBetween_43 : decode cX0_hoursBetween 43 = .ok (.idiv, 1) := by decide +kernel
theorem dX0_hoursBetween_44 : decode cX0_hoursBetween 44 = .ok (.iadd, 1) := by decide +kernel
theorem dX0_hoursBetween_45 : decode cX0_hoursBetween 45 = .ok (.goto 4, 3) := by decide +kernel
theorem dX0_hoursBetween_48 : decode cX0_hoursBetween 48 = .ok (.iconst (-1), 1) := by decide +kernel
theorem dX0_hoursBetween_49 : decode cX0_hoursBetween 49 = .ok (.ireturn, 1) := by decide +kernel
theorem dX1_init_0 : decode cX1_init 0 = .ok (.aload_n 0, 1) := by decide +kernel
theorem dX1_init_1 : decode cX1_init 1 = .ok (.invokespecial 3, 3) := by decide +kernel
theorem dX1_init_4 : decode cX1_init 4 = .ok (.aload_n 0, 1) := by decide +kernel
theorem dX1_init_5 : decode cX1_init 5 = .ok (.iconst 0, 1) := by decide +kernel
theorem dX1_init_6 : decode cX1_init 6 = .ok (.putfield 9, 3) := by decide +kernel
theorem dX1_init_9 : decode cX1_init 9 = .ok (.aload_n 0, 1) := by decide +kernel
theorem dX1_init_10 : decode cX1_init 10 = .ok (.iconst 0, 1) := by decide +kernel
theorem dX1_init_11 : decode cX1_init 11 = .ok (.putfield 15, 3) := by decide +kernel
theorem dX1_init_14 : decode cX1_init 14 = .ok (.aload_n 0, 1) := by decide +kernel
theorem dX1_init_15 : decode cX1_init 15 = .ok (.bipush 12, 2) := by decide +kernel
theorem dX1_init_17 : decode cX1_init 17 = .ok (.newarray .int, 2) := by decide +kernel
theorem dX1_init_19 : decode cX1_init 19 = .ok (.putfield 18, 3) := by decide +kernel
theorem dX1_init_22 : decode cX1_init 22 = .ok (.aload_n 0, 1) := by decide +kernel
theorem dX1_init_23 : decode cX1_init 23 = .ok (.bipush 12, 2) := by decide +kernel
theorem dX1_init_25 : decode cX1_init 25 = .ok (.newarray .int, 2) := by decide +kernel
theorem dX1_init_27 : decode cX1_init 27 = .ok (.putfield 22, 3) := by decide +kernel
theorem dX1_init_30 : decode cX1_init 30 = .ok (.aload_n 0, 1) := by decide +kernel
theorem dX1_init_31 : decode cX1_init 31 = .ok (.bipush 12, 2) := by decide +kernel
theorem dX1_init_33 : decode cX1_init 33 = .ok (.newarray .int, 2) := by decide +kernel
theorem dX1_init_35 : decode cX1_init 35 = .ok (.putfield 25, 3) := by decide +kernel
theorem dX1_init_38 : decode cX1_init 38 = .ok (.aload_n 0, 1) := by decide +kernel
theorem dX1_init_39 : decode cX1_init 39 = .ok (.bipush 12, 2) := by decide +kernel
theorem dX1_init_41 : decode cX1_init 41 = .ok (.newarray .int, 2) := by decide +kernel
theorem dX1_init_43 : decode cX1_init 43 = .ok (.putfield 28, 3) := by decide +kernel
theorem dX1_init_46 : decode cX1_init 46 = .ok (.aload_n 0, 1) := by decide +kernel
theorem dX1_init_47 : decode cX1_init 47 = .ok (.bipush 12, 2) := by decide +kernel
theorem dX1_init_49 : decode cX1_init 49 = .ok (.newarray .int, 2) := by decide +kernel
theorem dX1_init_51 : decode cX1_init 51 = .ok (.putfield 31, 3) := by decide +kernel
theorem dX1_init_54 : decode cX1_init 54 = .ok (.aload_n 0, 1) := by decide +kernel
theorem dX1_init_55 : decode cX1_init 55 = .ok (.bipush 12, 2) := by decide +kernel
theorem dX1_init_57 : decode cX1_init 57 = .ok (.newarray .int, 2) := by decide +kernel
theorem dX1_init_59 : decode cX1_init 59 = .ok (.putfield 34, 3) := by decide +kernel
theorem dX1_init_62 : decode cX1_init 62 = .ok (.aload_n 0, 1) := by decide +kernel
theorem dX1_init_63 : decode cX1_init 63 = .ok (.bipush 12, 2) := by decide +kernel
theorem dX1_init_65 : decode cX1_init 65 = .ok (.newarray .int, 2) := by decide +kernel
theorem dX1_init_67 : decode cX1_init 67 = .ok (.putfield 37, 3) := by decide +kernel
theorem dX1_init_70 : decode cX1_init 70 = .ok (.aload_n 0, 1) := by decide +kernel
theorem dX1_init_71 : decode cX1_init 71 = .ok (.bipush 12, 2) := by decide +kernel
theorem dX1_init_73 : decode cX1_init 73 = .ok (.newarray .int, 2) := by decide +kernel
theorem dX1_init_75 : decode cX1_init 75 = .ok (.putfield 40, 3) := by decide +kernel
theorem dX1_init_78 : decode cX1_init 78 = .ok (.aload_n 0, 1) := by decide +kernel
theorem dX1_init_79 : decode cX1_init 79 = .ok (.bipush 12, 2) := by decide +kernel
theorem dX1_init_81 : decode cX1_init 81 = .ok (.newarray .int, 2) := by decide +kernel
theorem dX1_init_83 : decode cX1_init 83 = .ok (.putfield 43, 3) := by decide +kernel
theorem dX1_init_86 : decode cX1_init 86 = .ok (.return_, 1) := by decide +kernel
theorem dX1_start_0 : decode cX1_start 0 = .ok (.aload_n 0, 1) := by decide +kernel
theorem dX1_start_1 : decode cX1_start 1 = .ok (.iload_n 2, 1) := by decide +kernel
theorem dX1_start_2 : decode cX1_start 2 = .ok (.putfield 9, 3) := by decide +kernel
theorem dX1_start_5 : decode cX1_start 5 = .ok (.aload_n 0, 1) := by decide +kernel
theorem dX1_start_6 : decode cX1_start 6 = .ok (.iload_n 3, 1) := by decide +kernel
theorem dX1_start_7 : decode cX1_start 7 = .ok (.putfield 15, 3) := by decide +kernel
theorem dX1_start_10 : decode cX1_start 10 = .ok (.iconst 0, 1) := by decide +kernel
theorem dX1_start_11 : decode cX1_start 11 = .ok (.istore 5, 2) := by decide +kernel
theorem dX1_start_13 : decode cX1_start 13 = .ok (.iload 5, 2) := by decide +kernel
theorem dX1_start_15 : decode cX1_start 15 = .ok (.bipush 12, 2) := by decide +kernel
theorem dX1_start_17 : decode cX1_start 17 = .ok (.if_icmp .ge 81, 3) := by decide +kernel
theorem dX1_start_20 : decode cX1_start 20 = .ok (.aload_n 0, 1) := by decide +kernel
theorem dX1_start_21 : decode cX1_start 21 = .ok (.getfield 18, 3) := by decide +kernel
theorem dX1_start_24 : decode cX1_start 24 = .ok (.iload 5, 2) := by decide +kernel
theorem dX1_start_26 : decode cX1_start 26 = .ok (.iconst 0, 1) := by decide +kernel
theorem dX1_start_27 : decode cX1_start 27 = .ok (.iastore, 1) := by decide +kernel
theorem dX1_start_28 : decode cX1_start 28 = .ok (.aload_n 0, 1) := by decide +kernel
theorem dX1_start_29 : decode cX1_start 29 = .ok (.getfield 22, 3) := by decide +kernel
theorem dX1_start_32 : decode cX1_start 32 = .ok (.iload 5, 2) := by decide +kernel
theorem dX1_start_34 : decode cX1_start 34 = .ok (.iconst (-1), 1) := by decide +kernel
theorem dX1_start_35 : decode cX1_start 35 = .ok (.iastore, 1) := by decide +kernel
theorem dX1_start_36 : decode cX1_start 36 = .ok (.aload_n 0, 1) := by decide +kernel
theorem dX1_start_37 : decode cX1_start 37 = .ok (.getfield 25, 3) := by decide +kernel
theorem dX1_start_40 : decode cX1_start 40 = .ok (.iload 5, 2) := by decide +kernel
theorem dX1_start_42 : decode cX1_start 42 = .ok (.iconst (-1), 1) := by decide +kernel
theorem dX1_start_43 : decode cX1_start 43 = .ok (.iastore, 1) := by decide +kernel
theorem dX1_start_44 : decode cX1_start 44 = .ok (.aload_n 0, 1) := by decide +kernel
theorem dX1_start_45 : decode cX1_start 45 = .ok (.getfield 28, 3) := by decide +kernel
theorem dX1_start_48 : decode cX1_start 48 = .ok (.iload 5, 2) := by decide +kernel
theorem dX1_start_50 : decode cX1_start 50 = .ok (.iconst (-1), 1) := by decide +kernel
theorem dX1_start_51 : decode cX1_start 51 = .ok (.iastore, 1) := by decide +kernel
theorem dX1_start_52 : decode cX1_start 52 = .ok (.aload_n 0, 1) := by decide +kernel
theorem dX1_start_53 : decode cX1_start 53 = .ok (.getfield 31, 3) := by decide +kernel
theorem dX1_start_56 : decode cX1_start 56 = .ok (.iload 5, 2) := by decide +kernel
theorem dX1_start_58 : decode cX1_start 58 = .ok (.iconst (-1), 1) := by decide +kernel
theorem dX1_start_59 : decode cX1_start 59 = .ok (.iastore, 1) := by decide +kernel
theorem dX1_start_60 : decode cX1_start 60 = .ok (.aload_n 0, 1) := by decide +kernel
theorem dX1_start_61 : decode cX1_start 61 = .ok (.getfield 34, 3) := by decide +kernel
theorem dX1_start_64 : decode cX1_start 64 = .ok (.iload 5, 2) := by decide +kernel
theorem dX1_start_66 : decode cX1_start 66 = .ok (.iconst (-1), 1) := by decide +kernel
theorem dX1_start_67 : decode cX1_start 67 = .ok (.iastore, 1) := by decide +kernel
theorem dX1_start_68 : decode cX1_start 68 = .ok (.aload_n 0, 1) := by decide +kernel
theorem dX1_start_69 : decode cX1_start 69 = .ok (.getfield 37, 3) := by decide +kernel
theorem dX1_start_72 : decode cX1_start 72 = .ok (.iload 5, 2) := by decide +kernel
theorem dX1_start_74 : decode cX1_start 74 = .ok (.iconst (-1), 1) := by decide +kernel
theorem dX1_start_75 : decode cX1_start 75 = .ok (.iastore, 1) := by decide +kernel
theorem dX1_start_76 : decode cX1_start 76 = .ok (.aload_n 0, 1) := by decide +kernel
theorem dX1_start_77 : decode cX1_start 77 = .ok (.getfield 40, 3) := by decide +kernel
theorem dX1_start_80 : decode cX1_start 80 = .ok (.iload 5, 2) := by decide +kernel
theorem dX1_start_82 : decode cX1_start 82 = .ok (.iconst (-1), 1) := by decide +kernel
theorem dX1_start_83 : decode cX1_start 83 = .ok (.iastore, 1) := by decide +kernel
theorem dX1_start_84 : decode cX1_start 84 = .ok (.aload_n 0, 1) := by decide +kernel
theorem dX1_start_85 : decode cX1_start 85 = .ok (.getfield 43, 3) := by decide +kernel
theorem dX1_start_88 : decode cX1_start 88 = .ok (.iload 5, 2) := by decide +kernel
theorem dX1_start_90 : decode cX1_start 90 = .ok (.iconst (-1), 1) := by decide +kernel
theorem dX1_start_91 : decode cX1_start 91 = .ok (.iastore, 1) := by decide +kernel
theorem dX1_start_92 : decode cX1_start 92 = .ok (.iinc 5 1, 3) := by decide +kernel
theorem dX1_start_95 : decode cX1_start 95 = .ok (.goto (-82), 3) := by decide +kernel
theorem dX1_start_98 : decode cX1_start 98 = .ok (.aload_n 0, 1) := by decide +kernel
theorem dX1_start_99 : decode cX1_start 99 = .ok (.aload_n 1, 1) := by decide +kernel
theorem dX1_start_100 : decode cX1_start 100 = .ok (.iload_n 2, 1) := by decide +kernel
theorem dX1_start_101 : decode cX1_start 101 = .ok (.iconst 0, 1) := by decide +kernel
theorem dX1_start_102 : decode cX1_start 102 = .ok (.iload 4, 2) := by decide +kernel
theorem dX1_start_104 : decode cX1_start 104 = .ok (.invokevirtual 46, 3) := by decide +kernel
theorem dX1_start_107 : decode cX1_start 107 = .ok (.pop, 1) := by decide +kernel
theorem dX1_start_108 : decode cX1_start 108 = .ok (.return_, 1) := by decide +kernel
theorem dX1_copyFrom_0 : decode cX1_copyFrom 0 = .ok (.aload_n 0, 1) := by decide +kernel
theorem dX1_copyFrom_1 : decode cX1_copyFrom 1 = .ok (.aload_n 1, 1) := by decide +kernel
theorem dX1_copyFrom_2 : decode cX1_copyFrom 2 = .ok (.getfield 9, 3) := by decide +kernel
theorem dX1_copyFrom_5 : decode cX1_copyFrom 5 = .ok (.putfield 9, 3) := by decide +kernel
theorem dX1_copyFrom_8 : decode cX1_copyFrom 8 = .ok (.aload_n 0, 1) := by decide +kernel
theorem dX1_copyFrom_9 : decode cX1_copyFrom 9 = .ok (.aload_n 1, 1) := by decide +kernel
theorem dX1_copyFrom_10 : decode cX1_copyFrom 10 = .ok (.getfield 15, 3) := by decide +kernel
theorem dX1_copyFrom_13 : decode cX1_copyFrom 13 = .ok (.putfield 15, 3) := by decide +kernel
theorem dX1_copyFrom_16 : decode cX1_copyFrom 16 = .ok (.aload_n 1, 1) := by decide +kernel
theorem dX1_copyFrom_17 : decode cX1_copyFrom 17 = .ok (.getfield 18, 3) := by decide +kernel
theorem dX1_copyFrom_20 : decode cX1_copyFrom 20 = .ok (.iconst 0, 1) := by decide +kernel
theorem dX1_copyFrom_21 : decode cX1_copyFrom 21 = .ok (.aload_n 0, 1) := by decide +kernel
theorem dX1_copyFrom_22 : decode cX1_copyFrom 22 = .ok (.getfield 18, 3) := by decide +kernel
theorem dX1_copyFrom_25 : decode cX1_copyFrom 25 = .ok (.iconst 0, 1) := by decide +kernel
theorem dX1_copyFrom_26 : decode cX1_copyFrom 26 = .ok (.bipush 12, 2) := by decide +kernel
theorem dX1_copyFrom_28 : decode cX1_copyFrom 28 = .ok (.invokestatic 50, 3) := by decide +kernel
theorem dX1_copyFrom_31 : decode cX1_copyFrom 31 = .ok (.aload_n 1, 1) := by decide +kernel
theorem dX1_copyFrom_32 : decode cX1_copyFrom 32 = .ok (.getfield 22, 3) := by decide +kernel
theorem dX1_copyFrom_35 : decode cX1_copyFrom 35 = .ok (.iconst 0, 1) := by decide +kernel
theorem dX1_copyFrom_36 : decode cX1_copyFrom 36 = .ok (.aload_n 0, 1) := by decide +kernel
theorem dX1_copyFrom_37 : decode cX1_copyFrom 37 = .ok (.getfield 22, 3) := by decide +kernel
theorem dX1_copyFrom_40 : decode cX1_copyFrom 40 = .ok (.iconst 0, 1) := by decide +kernel
theorem dX1_copyFrom_41 : decode cX1_copyFrom 41 = .ok (.bipush 12, 2) := by decide +kernel
theorem dX1_copyFrom_43 : decode cX1_copyFrom 43 = .ok (.invokestatic 50, 3) := by decide +kernel
theorem dX1_copyFrom_46 : decode cX1_copyFrom 46 = .ok (.aload_n 1, 1) := by decide +kernel
theorem dX1_copyFrom_47 : decode cX1_copyFrom 47 = .ok (.getfield 25, 3) := by decide +kernel
theorem dX1_copyFrom_50 : decode cX1_copyFrom 50 = .ok (.iconst 0, 1) := by decide +kernel
theorem dX1_copyFrom_51 : decode cX1_copyFrom 51 = .ok (.aload_n 0, 1) := by decide +kernel
theorem dX1_copyFrom_52 : decode cX1_copyFrom 52 = .ok (.getfield 25, 3) := by decide +kernel
theorem dX1_copyFrom_55 : decode cX1_copyFrom 55 = .ok (.iconst 0, 1) := by decide +kernel
theorem dX1_copyFrom_56 : decode cX1_copyFrom 56 = .ok (.bipush 12, 2) := by decide +kernel
theorem dX1_copyFrom_58 : decode cX1_copyFrom 58 = .ok (.invokestatic 50, 3) := by decide +kernel
theorem dX1_copyFrom_61 : decode cX1_copyFrom 61 = .ok (.aload_n 1, 1) := by decide +kernel
theorem dX1_copyFrom_62 : decode cX1_copyFrom 62 = .ok (.getfield 28, 3) := by decide +kernel
theorem dX1_copyFrom_65 : decode cX1_copyFrom 65 = .ok (.iconst 0, 1) := by decide +kernel
theorem dX1_copyFrom_66 : decode cX1_copyFrom 66 = .ok (.aload_n 0, 1) := by decide +kernel
theorem dX1_copyFrom_67 : decode cX1_copyFrom 67 = .ok (.getfield 28, 3) := by decide +kernel
theorem dX1_copyFrom_70 : decode cX1_copyFrom 70 = .ok (.iconst 0, 1) := by decide +kernel
theorem dX1_copyFrom_71 : decode cX1_copyFrom 71 = .ok (.bipush 12, 2) := by decide +kernel
theorem dX1_copyFrom_73 : decode cX1_copyFrom 73 = .ok (.invokestatic 50, 3) := by decide +kernel
theorem dX1_copyFrom_76 : decode cX1_copyFrom 76 = .ok (.aload_n 1, 1) := by decide +kernel
theorem dX1_copyFrom_77 : decode cX1_copyFrom 77 = .ok (.getfield 31, 3) := by decide +kernel
theorem dX1_copyFrom_80 : decode cX1_copyFrom 80 = .ok (.iconst 0, 1) := by decide +kernel
theorem dX1_copyFrom_81 : decode cX1_copyFrom 81 = .ok (.aload_n 0, 1) := by decide +kernel
theorem dX1_copyFrom_82 : decode cX1_copyFrom 82 = .ok (.getfield 31, 3) := by decide +kernel
theorem dX1_copyFrom_85 : decode cX1_copyFrom 85 = .ok (.iconst 0, 1) := by decide +kernel
theorem dX1_copyFrom_86 : decode cX1_copyFrom 86 = .ok (.bipush 12, 2) := by decide +kernel
theorem dX1_copyFrom_88 : decode cX1_copyFrom 88 = .ok (.invokestatic 50, 3) := by decide +kernel
theorem dX1_copyFrom_91 : decode cX1_copyFrom 91 = .ok (.aload_n 1, 1) := by decide +kernel
theorem dX1_copyFrom_92 : decode cX1_copyFrom 92 = .ok (.getfield 34, 3) := by decide +kernel
theorem dX1_copyFrom_95 : decode cX1_copyFrom 95 = .ok (.iconst 0, 1) := by decide +kernel
theorem dX1_copyFrom_96 : decode cX1_copyFrom 96 = .ok (.aload_n 0, 1) := by decide +kernel
theorem dX1_copyFrom_97 : decode cX1_copyFrom 97 = .ok (.getfield 34, 3) := by decide +kernel
theorem dX1_copyFrom_100 : decode cX1_copyFrom 100 = .ok (.iconst 0, 1) := by decide +kernel
theorem dX1_copyFrom_101 : decode cX1_copyFrom 101 = .ok (.bipush 12, 2) := by decide +kernel
theorem dX1_copyFrom_103 : decode cX1_copyFrom 103 = .ok (.invokestatic 50, 3) := by decide +kernel
theorem dX1_copyFrom_106 : decode cX1_copyFrom 106 = .ok (.aload_n 1, 1) := by decide +kernel
theorem dX1_copyFrom_107 : decode cX1_copyFrom 107 = .ok (.getfield 37, 3) := by decide +kernel
theorem dX1_copyFrom_110 : decode cX1_copyFrom 110 = .ok (.iconst 0, 1) := by decide +kernel
theorem dX1_copyFrom_111 : decode cX1_copyFrom 111 = .ok (.aload_n 0, 1) := by decide +kernel
theorem dX1_copyFrom_112 : decode cX1_copyFrom 112 = .ok (.getfield 37, 3) := by decide +kernel
theorem dX1_copyFrom_115 : decode cX1_copyFrom 115 = .ok (.iconst 0, 1) := by decide +kernel
theorem dX1_copyFrom_116 : decode cX1_copyFrom 116 = .ok (.bipush 12, 2) := by decide +kernel
theorem dX1_copyFrom_118 : decode cX1_copyFrom 118 = .ok (.invokestatic 50, 3) := by decide +kernel
theorem dX1_copyFrom_121 : decode cX1_copyFrom 121 = .ok (.aload_n 1, 1) := by decide +kernel
theorem dX1_copyFrom_122 : decode cX1_copyFrom 122 = .ok (.getfield 40, 3) := by decide +kernel
theorem dX1_copyFrom_125 : decode cX1_copyFrom 125 = .ok (.iconst 0, 1) := by decide +kernel
theorem dX1_copyFrom_126 : decode cX1_copyFrom 126 = .ok (.aload_n 0, 1) := by decide +kernel
theorem dX1_copyFrom_127 : decode cX1_copyFrom 127 = .ok (.getfield 40, 3) := by decide +kernel
theorem dX1_copyFrom_130 : decode cX1_copyFrom 130 = .ok (.iconst 0, 1) := by decide +kernel
theorem dX1_copyFrom_131 : decode cX1_copyFrom 131 = .ok (.bipush 12, 2) := by decide +kernel
theorem dX1_copyFrom_133 : decode cX1_copyFrom 133 = .ok (.invokestatic 50, 3) := by decide +kernel
theorem dX1_copyFrom_136 : decode cX1_copyFrom 136 = .ok (.aload_n 1, 1) := by decide +kernel
theorem dX1_copyFrom_137 : decode cX1_copyFrom 137 = .ok (.getfield 43, 3) := by decide +kernel
theorem dX1_copyFrom_140 : decode cX1_copyFrom 140 = .ok (.iconst 0, 1) := by decide +kernel
theorem dX1_copyFrom_141 : decode cX1_copyFrom 141 = .ok (.aload_n 0, 1) := by decide +kernel
theorem dX1_copyFrom_142 : decode cX1_copyFrom 142 = .ok (.getfield 43, 3) := by decide +kernel
theorem dX1_copyFrom_145 : decode cX1_copyFrom 145 = .ok (.iconst 0, 1) := by decide +kernel
theorem dX1_copyFrom_146 : decode cX1_copyFrom 146 = .ok (.bipush 12, 2) := by decide +kernel
theorem dX1_copyFrom_148 : decode cX1_copyFrom 148 = .ok (.invokestatic 50, 3) := by decide +kernel
theorem dX1_copyFrom_151 : decode cX1_copyFrom 151 = .ok (.return_, 1) := by decide +kernel
theorem dX1_bringRumour_0 : decode cX1_bringRumour 0 = .ok (.aload_n 0, 1) := by decide +kernel
theorem dX1_bringRumour_1 : decode cX1_bringRumour 1 = .ok (.getfield 18, 3) := by decide +kernel
theorem dX1_bringRumour_4 : decode cX1_bringRumour 4 = .ok (.iload_n 2, 1) := by decide +kernel
theorem dX1_bringRumour_5 : decode cX1_bringRumour 5 = .ok (.iaload, 1) := by decide +kernel
theorem dX1_bringRumour_6 : decode cX1_bringRumour 6 = .ok (.ifCond .eq 5, 3) := by decide +kernel
theorem dX1_bringRumour_9 : decode cX1_bringRumour 9 = .ok (.iconst 0, 1) := by decide +kernel
theorem dX1_bringRumour_10 : decode cX1_bringRumour 10 = .ok (.ireturn, 1) := by decide +kernel
theorem dX1_bringRumour_11 : decode cX1_bringRumour 11 = .ok (.aload_n 0, 1) := by decide +kernel
theorem dX1_bringRumour_12 : decode cX1_bringRumour 12 = .ok (.getfield 18, 3) := by decide +kernel
theorem dX1_bringRumour_15 : decode cX1_bringRumour 15 = .ok (.iload_n 2, 1) := by decide +kernel
theorem dX1_bringRumour_16 : decode cX1_bringRumour 16 = .ok (.iconst 1, 1) := by decide +kernel
theorem dX1_bringRumour_17 : decode cX1_bringRumour 17 = .ok (.iastore, 1) := by decide +kernel
theorem dX1_bringRumour_18 : decode cX1_bringRumour 18 = .ok (.aload_n 0, 1) := by decide +kernel
theorem dX1_bringRumour_19 : decode cX1_bringRumour 19 = .ok (.getfield 22, 3) := by decide +kernel
theorem dX1_bringRumour_22 : decode cX1_bringRumour 22 = .ok (.iload_n 2, 1) := by decide +kernel
theorem dX1_bringRumour_23 : decode cX1_bringRumour 23 = .ok (.iload 4, 2) := by decide +kernel
theorem dX1_bringRumour_25 : decode cX1_bringRumour 25 = .ok (.iastore, 1) := by decide +kernel
theorem dX1_bringRumour_26 : decode cX1_bringRumour 26 = .ok (.aload_n 0, 1) := by decide +kernel
theorem dX1_bringRumour_27 : decode cX1_bringRumour 27 = .ok (.getfield 28, 3) := by decide +kernel
theorem dX1_bringRumour_30 : decode cX1_bringRumour 30 = .ok (.iload_n 2, 1) := by decide +kernel
theorem dX1_bringRumour_31 : decode cX1_bringRumour 31 = .ok (.iload_n 3, 1) := by decide +kernel
theorem dX1_bringRumour_32 : decode cX1_bringRumour 32 = .ok (.iastore, 1) := by decide +kernel
theorem dX1_bringRumour_33 : decode cX1_bringRumour 33 = .ok (.aload_n 0, 1) := by decide +kernel
theorem dX1_bringRumour_34 : decode cX1_bringRumour 34 = .ok (.getfield 31, 3) := by decide +kernel
theorem dX1_bringRumour_37 : decode cX1_bringRumour 37 = .ok (.iload_n 2, 1) := by decide +kernel
theorem dX1_bringRumour_38 : decode cX1_bringRumour 38 = .ok (.iload 4, 2) := by decide +kernel
theorem dX1_bringRumour_40 : decode cX1_bringRumour 40 = .ok (.aload_n 1, 1) := by decide +kernel
theorem dX1_bringRumour_41 : decode cX1_bringRumour 41 = .ok (.getfield 56, 3) := by decide +kernel
theorem dX1_bringRumour_44 : decode cX1_bringRumour 44 = .ok (.iload_n 2, 1) := by decide +kernel
theorem dX1_bringRumour_45 : decode cX1_bringRumour 45 = .ok (.iaload, 1) := by decide +kernel
theorem dX1_bringRumour_46 : decode cX1_bringRumour 46 = .ok (.iadd, 1) := by decide +kernel
theorem dX1_bringRumour_47 : decode cX1_bringRumour 47 = .ok (.iastore, 1) := by decide +kernel
theorem dX1_bringRumour_48 : decode cX1_bringRumour 48 = .ok (.iconst 1, 1) := by decide +kernel
theorem dX1_bringRumour_49 : decode cX1_bringRumour 49 = .ok (.ireturn, 1) := by decide +kernel
theorem dX1_bringDenial_0 : decode cX1_bringDenial 0 = .ok (.aload_n 0, 1) := by decide +kernel
theorem dX1_bringDenial_1 : decode cX1_bringDenial 1 = .ok (.getfield 18, 3) := by decide +kernel
theorem dX1_bringDenial_4 : decode cX1_bringDenial 4 = .ok (.iload_n 2, 1) := by decide +kernel
theorem dX1_bringDenial_5 : decode cX1_bringDenial 5 = .ok (.iaload, 1) := by decide +kernel
theorem dX1_bringDenial_6 : decode cX1_bringDenial 6 = .ok (.iconst 2, 1) := by decide +kernel
theorem dX1_bringDenial_7 : decode cX1_bringDenial 7 = .ok (.if_icmp .ne 4, 3) := by decide +kernel
theorem dX1_bringDenial_10 : decode cX1_bringDenial 10 = .ok (.return_, 1) := by decide +kernel
theorem dX1_bringDenial_11 : decode cX1_bringDenial 11 = .ok (.aload_n 0, 1) := by decide +kernel
theorem dX1_bringDenial_12 : decode cX1_bringDenial 12 = .ok (.getfield 18, 3) := by decide +kernel
theorem dX1_bringDenial_15 : decode cX1_bringDenial 15 = .ok (.iload_n 2, 1) := by decide +kernel
theorem dX1_bringDenial_16 : decode cX1_bringDenial 16 = .ok (.iconst 2, 1) := by decide +kernel
theorem dX1_bringDenial_17 : decode cX1_bringDenial 17 = .ok (.iastore, 1) := by decide +kernel
theorem dX1_bringDenial_18 : decode cX1_bringDenial 18 = .ok (.aload_n 0, 1) := by decide +kernel
theorem dX1_bringDenial_19 : decode cX1_bringDenial 19 = .ok (.getfield 25, 3) := by decide +kernel
theorem dX1_bringDenial_22 : decode cX1_bringDenial 22 = .ok (.iload_n 2, 1) := by decide +kernel
theorem dX1_bringDenial_23 : decode cX1_bringDenial 23 = .ok (.iload_n 3, 1) := by decide +kernel
theorem dX1_bringDenial_24 : decode cX1_bringDenial 24 = .ok (.iastore, 1) := by decide +kernel
theorem dX1_bringDenial_25 : decode cX1_bringDenial 25 = .ok (.aload_n 0, 1) := by decide +kernel
theorem dX1_bringDenial_26 : decode cX1_bringDenial 26 = .ok (.getfield 34, 3) := by decide +kernel
theorem dX1_bringDenial_29 : decode cX1_bringDenial 29 = .ok (.iload_n 2, 1) := by decide +kernel
theorem dX1_bringDenial_30 : decode cX1_bringDenial 30 = .ok (.iload_n 3, 1) := by decide +kernel
theorem dX1_bringDenial_31 : decode cX1_bringDenial 31 = .ok (.aload_n 1, 1) := by decide +kernel
theorem dX1_bringDenial_32 : decode cX1_bringDenial 32 = .ok (.getfield 56, 3) := by decide +kernel
theorem dX1_bringDenial_35 : decode cX1_bringDenial 35 = .ok (.iload_n 2, 1) := by decide +kernel
theorem dX1_bringDenial_36 : decode cX1_bringDenial 36 = .ok (.iaload, 1) := by decide +kernel
theorem dX1_bringDenial_37 : decode cX1_bringDenial 37 = .ok (.iconst 2, 1) := by decide +kernel
theorem dX1_bringDenial_38 : decode cX1_bringDenial 38 = .ok (.idiv, 1) := by decide +kernel
theorem dX1_bringDenial_39 : decode cX1_bringDenial 39 = .ok (.iadd, 1) := by decide +kernel
theorem dX1_bringDenial_40 : decode cX1_bringDenial 40 = .ok (.iastore, 1) := by decide +kernel
theorem dX1_bringDenial_41 : decode cX1_bringDenial 41 = .ok (.aload_n 0, 1) := by decide +kernel
theorem dX1_bringDenial_42 : decode cX1_bringDenial 42 = .ok (.getfield 31, 3) := by decide +kernel
theorem dX1_bringDenial_45 : decode cX1_bringDenial 45 = .ok (.iload_n 2, 1) := by decide +kernel
theorem dX1_bringDenial_46 : decode cX1_bringDenial 46 = .ok (.iconst (-1), 1) := by decide +kernel
theorem dX1_bringDenial_47 : decode cX1_bringDenial 47 = .ok (.iastore, 1) := by decide +kernel
theorem dX1_bringDenial_48 : decode cX1_bringDenial 48 = .ok (.return_, 1) := by decide +kernel
theorem dX1_passHour_0 : decode cX1_passHour 0 = .ok (.iconst 0, 1) := by decide +kernel
theorem dX1_passHour_1 : decode cX1_passHour 1 = .ok (.istore_n 3, 1) := by decide +kernel
theorem dX1_passHour_2 : decode cX1_passHour 2 = .ok (.iconst 0, 1) := by decide +kernel
theorem dX1_passHour_3 : decode cX1_passHour 3 = .ok (.istore 4, 2) := by decide +kernel
theorem dX1_passHour_5 : decode cX1_passHour 5 = .ok (.iload 4, 2) := by decide +kernel
theorem dX1_passHour_7 : decode cX1_passHour 7 = .ok (.aload_n 1, 1) := by decide +kernel
theorem dX1_passHour_8 : decode cX1_passHour 8 = .ok (.getfield 61, 3) := by decide +kernel
theorem dX1_passHour_11 : decode cX1_passHour 11 = .ok (.if_icmp .ge 81, 3) := by decide +kernel
theorem dX1_passHour_14 : decode cX1_passHour 14 = .ok (.aload_n 0, 1) := by decide +kernel
theorem dX1_passHour_15 : decode cX1_passHour 15 = .ok (.getfield 37, 3) := by decide +kernel
theorem dX1_passHour_18 : decode cX1_passHour 18 = .ok (.iload 4, 2) := by decide +kernel
theorem dX1_passHour_20 : decode cX1_passHour 20 = .ok (.iaload, 1) := by decide +kernel
theorem dX1_passHour_21 : decode cX1_passHour 21 = .ok (.iload_n 2, 1) := by decide +kernel
theorem dX1_passHour_22 : decode cX1_passHour 22 = .ok (.if_icmp .ne 37, 3) := by decide +kernel
theorem dX1_passHour_25 : decode cX1_passHour 25 = .ok (.aload_n 0, 1) := by decide +kernel
theorem dX1_passHour_26 : decode cX1_passHour 26 = .ok (.getfield 37, 3) := by decide +kernel
theorem dX1_passHour_29 : decode cX1_passHour 29 = .ok (.iload 4, 2) := by decide +kernel
theorem dX1_passHour_31 : decode cX1_passHour 31 = .ok (.iconst (-1), 1) := by decide +kernel
theorem dX1_passHour_32 : decode cX1_passHour 32 = .ok (.iastore, 1) := by decide +kernel
theorem dX1_passHour_33 : decode cX1_passHour 33 = .ok (.iload_n 3, 1) := by decide +kernel
theorem dX1_passHour_34 : decode cX1_passHour 34 = .ok (.aload_n 0, 1) := by decide +kernel
theorem dX1_passHour_35 : decode cX1_passHour 35 = .ok (.aload_n 1, 1) := by decide +kernel
theorem dX1_passHour_36 : decode cX1_passHour 36 = .ok (.iload 4, 2) := by decide +kernel
theorem dX1_passHour_38 : decode cX1_passHour 38 = .ok (.aload_n 0, 1) := by decide +kernel
theorem dX1_passHour_39 : decode cX1_passHour 39 = .ok (.getfield 40, 3) := by decide +kernel
theorem dX1_passHour_42 : decode cX1_passHour 42 = .ok (.iload 4, 2) := by decide +kernel
theorem dX1_passHour_44 : decode cX1_passHour 44 = .ok (.iaload, 1) := by decide +kernel
theorem dX1_passHour_45 : decode cX1_passHour 45 = .ok (.iload_n 2, 1) := by decide +kernel
theorem dX1_passHour_46 : decode cX1_passHour 46 = .ok (.invokevirtual 46, 3) := by decide +kernel
theorem dX1_passHour_49 : decode cX1_passHour 49 = .ok (.ifCond .eq 7, 3) := by decide +kernel
theorem dX1_passHour_52 : decode cX1_passHour 52 = .ok (.iconst 1, 1) := by decide +kernel
theorem dX1_passHour_53 : decode cX1_passHour 53 = .ok (.goto 4, 3) := by decide +kernel
theorem dX1_passHour_56 : decode cX1_passHour 56 = .ok (.iconst 0, 1) := by decide +kernel
theorem dX1_passHour_57 : decode cX1_passHour 57 = .ok (.iadd, 1) := by decide +kernel
theorem dX1_passHour_58 : decode cX1_passHour 58 = .ok (.istore_n 3, 1) := by decide +kernel
theorem dX1_passHour_59 : decode cX1_passHour 59 = .ok (.aload_n 0, 1) := by decide +kernel
theorem dX1_passHour_60 : decode cX1_passHour 60 = .ok (.getfield 43, 3) := by decide +kernel
theorem dX1_passHour_63 : decode cX1_passHour 63 = .ok (.iload 4, 2) := by decide +kernel
theorem dX1_passHour_65 : decode cX1_passHour 65 = .ok (.iaload, 1) := by decide +kernel
theorem dX1_passHour_66 : decode cX1_passHour 66 = .ok (.iload_n 2, 1) := by decide +kernel
theorem dX1_passHour_67 : decode cX1_passHour 67 = .ok (.if_icmp .ne 19, 3) := by decide +kernel
theorem dX1_passHour_70 : decode cX1_passHour 70 = .ok (.aload_n 0, 1) := by decide +kernel
theorem dX1_passHour_71 : decode cX1_passHour 71 = .ok (.getfield 43, 3) := by decide +kernel
theorem dX1_passHour_74 : decode cX1_passHour 74 = .ok (.iload 4, 2) := by decide +kernel
theorem dX1_passHour_76 : decode cX1_passHour 76 = .ok (.iconst (-1), 1) := by decide +kernel
theorem dX1_passHour_77 : decode cX1_passHour 77 = .ok (.iastore, 1) := by decide +kernel
theorem dX1_passHour_78 : decode cX1_passHour 78 = .ok (.aload_n 0, 1) := by decide +kernel
theorem dX1_passHour_79 : decode cX1_passHour 79 = .ok (.aload_n 1, 1) := by decide +kernel
theorem dX1_passHour_80 : decode cX1_passHour 80 = .ok (.iload 4, 2) := by decide +kernel
theorem dX1_passHour_82 : decode cX1_passHour 82 = .ok (.iload_n 2, 1) := by decide +kernel
theorem dX1_passHour_83 : decode cX1_passHour 83 = .ok (.invokevirtual 64, 3) := by decide +kernel
theorem dX1_passHour_86 : decode cX1_passHour 86 = .ok (.iinc 4 1, 3) := by decide +kernel
theorem dX1_passHour_89 : decode cX1_passHour 89 = .ok (.goto (-84), 3) := by decide +kernel
theorem dX1_passHour_92 : decode cX1_passHour 92 = .ok (.iconst 0, 1) := by decide +kernel
theorem dX1_passHour_93 : decode cX1_passHour 93 = .ok (.istore 4, 2) := by decide +kernel
theorem dX1_passHour_95 : decode cX1_passHour 95 = .ok (.iload 4, 2) := by decide +kernel
theorem dX1_passHour_97 : decode cX1_passHour 97 = .ok (.aload_n 1, 1) := by decide +kernel
theorem dX1_passHour_98 : decode cX1_passHour 98 = .ok (.getfield 61, 3) := by decide +kernel
theorem dX1_passHour_101 : decode cX1_passHour 101 = .ok (.if_icmp .ge 63, 3) := by decide +kernel
theorem dX1_passHour_104 : decode cX1_passHour 104 = .ok (.aload_n 0, 1) := by decide +kernel
theorem dX1_passHour_105 : decode cX1_passHour 105 = .ok (.getfield 31, 3) := by decide +kernel
theorem dX1_passHour_108 : decode cX1_passHour 108 = .ok (.iload 4, 2) := by decide +kernel
theorem dX1_passHour_110 : decode cX1_passHour 110 = .ok (.iaload, 1) := by decide +kernel
theorem dX1_passHour_111 : decode cX1_passHour 111 = .ok (.iload_n 2, 1) := by decide +kernel
theorem dX1_passHour_112 : decode cX1_passHour 112 = .ok (.if_icmp .ne 19, 3) := by decide +kernel
theorem dX1_passHour_115 : decode cX1_passHour 115 = .ok (.aload_n 0, 1) := by decide +kernel
theorem dX1_passHour_116 : decode cX1_passHour 116 = .ok (.getfield 31, 3) := by decide +kernel
theorem dX1_passHour_119 : decode cX1_passHour 119 = .ok (.iload 4, 2) := by decide +kernel
theorem dX1_passHour_121 : decode cX1_passHour 121 = .ok (.iconst (-1), 1) := by decide +kernel
theorem dX1_passHour_122 : decode cX1_passHour 122 = .ok (.iastore, 1) := by decide +kernel
theorem dX1_passHour_123 : decode cX1_passHour 123 = .ok (.aload_n 0, 1) := by decide +kernel
theorem dX1_passHour_124 : decode cX1_passHour 124 = .ok (.aload_n 1, 1) := by decide +kernel
theorem dX1_passHour_125 : decode cX1_passHour 125 = .ok (.iload 4, 2) := by decide +kernel
theorem dX1_passHour_127 : decode cX1_passHour 127 = .ok (.iload_n 2, 1) := by decide +kernel
theorem dX1_passHour_128 : decode cX1_passHour 128 = .ok (.invokevirtual 68, 3) := by decide +kernel
theorem dX1_passHour_131 : decode cX1_passHour 131 = .ok (.aload_n 0, 1) := by decide +kernel
theorem dX1_passHour_132 : decode cX1_passHour 132 = .ok (.getfield 34, 3) := by decide +kernel
theorem dX1_passHour_135 : decode cX1_passHour 135 = .ok (.iload 4, 2) := by decide +kernel
theorem dX1_passHour_137 : decode cX1_passHour 137 = .ok (.iaload, 1) := by decide +kernel
theorem dX1_passHour_138 : decode cX1_passHour 138 = .ok (.iload_n 2, 1) := by decide +kernel
theorem dX1_passHour_139 : decode cX1_passHour 139 = .ok (.if_icmp .ne 19, 3) := by decide +kernel
theorem dX1_passHour_142 : decode cX1_passHour 142 = .ok (.aload_n 0, 1) := by decide +kernel
theorem dX1_passHour_143 : decode cX1_passHour 143 = .ok (.getfield 34, 3) := by decide +kernel
theorem dX1_passHour_146 : decode cX1_passHour 146 = .ok (.iload 4, 2) := by decide +kernel
theorem dX1_passHour_148 : decode cX1_passHour 148 = .ok (.iconst (-1), 1) := by decide +kernel
theorem dX1_passHour_149 : decode cX1_passHour 149 = .ok (.iastore, 1) := by decide +kernel
theorem dX1_passHour_150 : decode cX1_passHour 150 = .ok (.aload_n 0, 1) := by decide +kernel
theorem dX1_passHour_151 : decode cX1_passHour 151 = .ok (.aload_n 1, 1) := by decide +kernel
theorem dX1_passHour_152 : decode cX1_passHour 152 = .ok (.iload 4, 2) := by decide +kernel
theorem dX1_passHour_154 : decode cX1_passHour 154 = .ok (.iload_n 2, 1) := by decide +kernel
theorem dX1_passHour_155 : decode cX1_passHour 155 = .ok (.invokevirtual 71, 3) := by decide +kernel
theorem dX1_passHour_158 : decode cX1_passHour 158 = .ok (.iinc 4 1, 3) := by decide +kernel
theorem dX1_passHour_161 : decode cX1_passHour 161 = .ok (.goto (-66), 3) := by decide +kernel
theorem dX1_passHour_164 : decode cX1_passHour 164 = .ok (.iload_n 3, 1) := by decide +kernel
theorem dX1_passHour_165 : decode cX1_passHour 165 = .ok (.ireturn, 1) := by decide +kernel
theorem dX1_tellRumour_0 : decode cX1_tellRumour 0 = .ok (.aload_n 0, 1) := by decide +kernel
theorem dX1_tellRumour_1 : decode cX1_tellRumour 1 = .ok (.getfield 28, 3) := by decide +kernel
theorem dX1_tellRumour_4 : decode cX1_tellRumour 4 = .ok (.iload_n 2, 1) := by decide +kernel
theorem dX1_tellRumour_5 : decode cX1_tellRumour 5 = .ok (.iaload, 1) := by decide +kernel
theorem dX1_tellRumour_6 : decode cX1_tellRumour 6 = .ok (.iconst 1, 1) := by decide +kernel
theorem dX1_tellRumour_7 : decode cX1_tellRumour 7 = .ok (.iadd, 1) := by decide +kernel
theorem dX1_tellRumour_8 : decode cX1_tellRumour 8 = .ok (.istore 4, 2) := by decide +kernel
theorem dX1_tellRumour_10 : decode cX1_tellRumour 10 = .ok (.iload 4, 2) := by decide +kernel
theorem dX1_tellRumour_12 : decode cX1_tellRumour 12 = .ok (.aload_n 0, 1) := by decide +kernel
theorem dX1_tellRumour_13 : decode cX1_tellRumour 13 = .ok (.getfield 15, 3) := by decide +kernel
theorem dX1_tellRumour_16 : decode cX1_tellRumour 16 = .ok (.if_icmp .le 4, 3) := by decide +kernel
theorem dX1_tellRumour_19 : decode cX1_tellRumour 19 = .ok (.return_, 1) := by decide +kernel
theorem dX1_tellRumour_20 : decode cX1_tellRumour 20 = .ok (.iconst 0, 1) := by decide +kernel
theorem dX1_tellRumour_21 : decode cX1_tellRumour 21 = .ok (.istore 5, 2) := by decide +kernel
theorem dX1_tellRumour_23 : decode cX1_tellRumour 23 = .ok (.iload 5, 2) := by decide +kernel
theorem dX1_tellRumour_25 : decode cX1_tellRumour 25 = .ok (.aload_n 1, 1) := by decide +kernel
theorem dX1_tellRumour_26 : decode cX1_tellRumour 26 = .ok (.getfield 61, 3) := by decide +kernel
theorem dX1_tellRumour_29 : decode cX1_tellRumour 29 = .ok (.if_icmp .ge 112, 3) := by decide +kernel
theorem dX1_tellRumour_32 : decode cX1_tellRumour 32 = .ok (.iload_n 3, 1) := by decide +kernel
theorem dX1_tellRumour_33 : decode cX1_tellRumour 33 = .ok (.aload_n 1, 1) := by decide +kernel
theorem dX1_tellRumour_34 : decode cX1_tellRumour 34 = .ok (.getfield 74, 3) := by decide +kernel
theorem dX1_tellRumour_37 : decode cX1_tellRumour 37 = .ok (.iload_n 2, 1) := by decide +kernel
theorem dX1_tellRumour_38 : decode cX1_tellRumour 38 = .ok (.aaload, 1) := by decide +kernel
theorem dX1_tellRumour_39 : decode cX1_tellRumour 39 = .ok (.iload 5, 2) := by decide +kernel
theorem dX1_tellRumour_41 : decode cX1_tellRumour 41 = .ok (.iaload, 1) := by decide +kernel
theorem dX1_tellRumour_42 : decode cX1_tellRumour 42 = .ok (.iadd, 1) := by decide +kernel
theorem dX1_tellRumour_43 : decode cX1_tellRumour 43 = .ok (.istore 6, 2) := by decide +kernel
theorem dX1_tellRumour_45 : decode cX1_tellRumour 45 = .ok (.aload_n 0, 1) := by decide +kernel
theorem dX1_tellRumour_46 : decode cX1_tellRumour 46 = .ok (.getfield 37, 3) := by decide +kernel
theorem dX1_tellRumour_49 : decode cX1_tellRumour 49 = .ok (.iload 5, 2) := by decide +kernel
theorem dX1_tellRumour_51 : decode cX1_tellRumour 51 = .ok (.iaload, 1) := by decide +kernel
theorem dX1_tellRumour_52 : decode cX1_tellRumour 52 = .ok (.iconst (-1), 1) := by decide +kernel
theorem dX1_tellRumour_53 : decode cX1_tellRumour 53 = .ok (.if_icmp .eq 39, 3) := by decide +kernel
theorem dX1_tellRumour_56 : decode cX1_tellRumour 56 = .ok (.iload 6, 2) := by decide +kernel
theorem dX1_tellRumour_58 : decode cX1_tellRumour 58 = .ok (.aload_n 0, 1) := by decide +kernel
theorem dX1_tellRumour_59 : decode cX1_tellRumour 59 = .ok (.getfield 37, 3) := by decide +kernel
theorem dX1_tellRumour_62 : decode cX1_tellRumour 62 = .ok (.iload 5, 2) := by decide +kernel
theorem dX1_tellRumour_64 : decode cX1_tellRumour 64 = .ok (.iaload, 1) := by decide +kernel
theorem dX1_tellRumour_65 : decode cX1_tellRumour 65 = .ok (.if_icmp .lt 27, 3) := by decide +kernel
theorem dX1_tellRumour_68 : decode cX1_tellRumour 68 = .ok (.iload 6, 2) := by decide +kernel
theorem dX1_tellRumour_70 : decode cX1_tellRumour 70 = .ok (.aload_n 0, 1) := by decide +kernel
theorem dX1_tellRumour_71 : decode cX1_tellRumour 71 = .ok (.getfield 37, 3) := by decide +kernel
theorem dX1_tellRumour_74 : decode cX1_tellRumour 74 = .ok (.iload 5, 2) := by decide +kernel
theorem dX1_tellRumour_76 : decode cX1_tellRumour 76 = .ok (.iaload, 1) := by decide +kernel
theorem dX1_tellRumour_77 : decode cX1_tellRumour 77 = .ok (.if_icmp .ne 19, 3) := by decide +kernel
theorem dX1_tellRumour_80 : decode cX1_tellRumour 80 = .ok (.iload 4, 2) := by decide +kernel
theorem dX1_tellRumour_82 : decode cX1_tellRumour 82 = .ok (.aload_n 0, 1) := by decide +kernel
theorem dX1_tellRumour_83 : decode cX1_tellRumour 83 = .ok (.getfield 40, 3) := by decide +kernel
theorem dX1_tellRumour_86 : decode cX1_tellRumour 86 = .ok (.iload 5, 2) := by decide +kernel
theorem dX1_tellRumour_88 : decode cX1_tellRumour 88 = .ok (.iaload, 1) := by decide +kernel
theorem dX1_tellRumour_89 : decode cX1_tellRumour 89 = .ok (.if_icmp .ge 7, 3) := by decide +kernel
theorem dX1_tellRumour_92 : decode cX1_tellRumour 92 = .ok (.iconst 1, 1) := by decide +kernel
theorem dX1_tellRumour_93 : decode cX1_tellRumour 93 = .ok (.goto 4, 3) := by decide +kernel
theorem dX1_tellRumour_96 : decode cX1_tellRumour 96 = .ok (.iconst 0, 1) := by decide +kernel
theorem dX1_tellRumour_97 : decode cX1_tellRumour 97 = .ok (.istore 7, 2) := by decide +kernel
theorem dX1_tellRumour_99 : decode cX1_tellRumour 99 = .ok (.aload_n 1, 1) := by decide +kernel
theorem dX1_tellRumour_100 : decode cX1_tellRumour 100 = .ok (.getfield 74, 3) := by decide +kernel
theorem dX1_tellRumour_103 : decode cX1_tellRumour 103 = .ok (.iload_n 2, 1) := by decide +kernel
theorem dX1_tellRumour_104 : decode cX1_tellRumour 104 = .ok (.aaload, 1) := by decide +kernel
theorem dX1_tellRumour_105 : decode cX1_tellRumour 105 = .ok (.iload 5, 2) := by decide +kernel
theorem dX1_tellRumour_107 : decode cX1_tellRumour 107 = .ok (.iaload, 1) := by decide +kernel
theorem dX1_tellRumour_108 : decode cX1_tellRumour 108 = .ok (.iconst (-1), 1) := by decide +kernel
theorem dX1_tellRumour_109 : decode cX1_tellRumour 109 = .ok (.if_icmp .eq 26, 3) := by decide +kernel
theorem dX1_tellRumour_112 : decode cX1_tellRumour 112 = .ok (.iload 7, 2) := by decide +kernel
theorem dX1_tellRumour_114 : decode cX1_tellRumour 114 = .ok (.ifCond .eq 21, 3) := by decide +kernel
theorem dX1_tellRumour_117 : decode cX1_tellRumour 117 = .ok (.aload_n 0, 1) := by decide +kernel
theorem dX1_tellRumour_118 : decode cX1_tellRumour 118 = .ok (.getfield 37, 3) := by decide +kernel
theorem dX1_tellRumour_121 : decode cX1_tellRumour 121 = .ok (.iload 5, 2) := by decide +kernel
theorem dX1_tellRumour_123 : decode cX1_tellRumour 123 = .ok (.iload 6, 2) := by decide +kernel
theorem dX1_tellRumour_125 : decode cX1_tellRumour 125 = .ok (.iastore, 1) := by decide +kernel
theorem dX1_tellRumour_126 : decode cX1_tellRumour 126 = .ok (.aload_n 0, 1) := by decide +kernel
theorem dX1_tellRumour_127 : decode cX1_tellRumour 127 = .ok (.getfield 40, 3) := by decide +kernel
theorem dX1_tellRumour_130 : decode cX1_tellRumour 130 = .ok (.iload 5, 2) := by decide +kernel
theorem dX1_tellRumour_132 : decode cX1_tellRumour 132 = .ok (.iload 4, 2) := by decide +kernel
theorem dX1_tellRumour_134 : decode cX1_tellRumour 134 = .ok (.iastore, 1) := by decide +kernel
theorem dX1_tellRumour_135 : decode cX1_tellRumour 135 = .ok (.iinc 5 1, 3) := by decide +kernel
theorem dX1_tellRumour_138 : decode cX1_tellRumour 138 = .ok (.goto (-115), 3) := by decide +kernel
theorem dX1_tellRumour_141 : decode cX1_tellRumour 141 = .ok (.return_, 1) := by decide +kernel
theorem dX1_tellDenial_0 : decode cX1_tellDenial 0 = .ok (.iconst 0, 1) := by decide +kernel
theorem dX1_tellDenial_1 : decode cX1_tellDenial 1 = .ok (.istore 4, 2) := by decide +kernel
theorem dX1_tellDenial_3 : decode cX1_tellDenial 3 = .ok (.iload 4, 2) := by decide +kernel
theorem dX1_tellDenial_5 : decode cX1_tellDenial 5 = .ok (.aload_n 1, 1) := by decide +kernel
theorem dX1_tellDenial_6 : decode cX1_tellDenial 6 = .ok (.getfield 61, 3) := by decide +kernel
theorem dX1_tellDenial_9 : decode cX1_tellDenial 9 = .ok (.if_icmp .ge 79, 3) := by decide +kernel
theorem dX1_tellDenial_12 : decode cX1_tellDenial 12 = .ok (.iload_n 3, 1) := by decide +kernel
theorem dX1_tellDenial_13 : decode cX1_tellDenial 13 = .ok (.aload_n 1, 1) := by decide +kernel
theorem dX1_tellDenial_14 : decode cX1_tellDenial 14 = .ok (.getfield 74, 3) := by decide +kernel
theorem dX1_tellDenial_17 : decode cX1_tellDenial 17 = .ok (.iload_n 2, 1) := by decide +kernel
theorem dX1_tellDenial_18 : decode cX1_tellDenial 18 = .ok (.aaload, 1) := by decide +kernel
theorem dX1_tellDenial_19 : decode cX1_tellDenial 19 = .ok (.iload 4, 2) := by decide +kernel
theorem dX1_tellDenial_21 : decode cX1_tellDenial 21 = .ok (.iaload, 1) := by decide +kernel
theorem dX1_tellDenial_22 : decode cX1_tellDenial 22 = .ok (.iadd, 1) := by decide +kernel
theorem dX1_tellDenial_23 : decode cX1_tellDenial 23 = .ok (.istore 5, 2) := by decide +kernel
theorem dX1_tellDenial_25 : decode cX1_tellDenial 25 = .ok (.aload_n 0, 1) := by decide +kernel
theorem dX1_tellDenial_26 : decode cX1_tellDenial 26 = .ok (.getfield 43, 3) := by decide +kernel
theorem dX1_tellDenial_29 : decode cX1_tellDenial 29 = .ok (.iload 4, 2) := by decide +kernel
theorem dX1_tellDenial_31 : decode cX1_tellDenial 31 = .ok (.iaload, 1) := by decide +kernel
theorem dX1_tellDenial_32 : decode cX1_tellDenial 32 = .ok (.iconst (-1), 1) := by decide +kernel
theorem dX1_tellDenial_33 : decode cX1_tellDenial 33 = .ok (.if_icmp .eq 15, 3) := by decide +kernel
theorem dX1_tellDenial_36 : decode cX1_tellDenial 36 = .ok (.iload 5, 2) := by decide +kernel
theorem dX1_tellDenial_38 : decode cX1_tellDenial 38 = .ok (.aload_n 0, 1) := by decide +kernel
theorem dX1_tellDenial_39 : decode cX1_tellDenial 39 = .ok (.getfield 43, 3) := by decide +kernel
theorem dX1_tellDenial_42 : decode cX1_tellDenial 42 = .ok (.iload 4, 2) := by decide +kernel
theorem dX1_tellDenial_44 : decode cX1_tellDenial 44 = .ok (.iaload, 1) := by decide +kernel
theorem dX1_tellDenial_45 : decode cX1_tellDenial 45 = .ok (.if_icmp .ge 7, 3) := by decide +kernel
theorem dX1_tellDenial_48 : decode cX1_tellDenial 48 = .ok (.iconst 1, 1) := by decide +kernel
theorem dX1_tellDenial_49 : decode cX1_tellDenial 49 = .ok (.goto 4, 3) := by decide +kernel
theorem dX1_tellDenial_52 : decode cX1_tellDenial 52 = .ok (.iconst 0, 1) := by decide +kernel
theorem dX1_tellDenial_53 : decode cX1_tellDenial 53 = .ok (.istore 6, 2) := by decide +kernel
theorem dX1_tellDenial_55 : decode cX1_tellDenial 55 = .ok (.aload_n 1, 1) := by decide +kernel
theorem dX1_tellDenial_56 : decode cX1_tellDenial 56 = .ok (.getfield 74, 3) := by decide +kernel
theorem dX1_tellDenial_59 : decode cX1_tellDenial 59 = .ok (.iload_n 2, 1) := by decide +kernel
theorem dX1_tellDenial_60 : decode cX1_tellDenial 60 = .ok (.aaload, 1) := by decide +kernel
theorem dX1_tellDenial_61 : decode cX1_tellDenial 61 = .ok (.iload 4, 2) := by decide +kernel
theorem dX1_tellDenial_63 : decode cX1_tellDenial 63 = .ok (.iaload, 1) := by decide +kernel
theorem dX1_tellDenial_64 : decode cX1_tellDenial 64 = .ok (.iconst (-1), 1) := by decide +kernel
theorem dX1_tellDenial_65 : decode cX1_tellDenial 65 = .ok (.if_icmp .eq 17, 3) := by decide +kernel
theorem dX1_tellDenial_68 : decode cX1_tellDenial 68 = .ok (.iload 6, 2) := by decide +kernel
theorem dX1_tellDenial_70 : decode cX1_tellDenial 70 = .ok (.ifCond .eq 12, 3) := by decide +kernel
theorem dX1_tellDenial_73 : decode cX1_tellDenial 73 = .ok (.aload_n 0, 1) := by decide +kernel
theorem dX1_tellDenial_74 : decode cX1_tellDenial 74 = .ok (.getfield 43, 3) := by decide +kernel
theorem dX1_tellDenial_77 : decode cX1_tellDenial 77 = .ok (.iload 4, 2) := by decide +kernel
theorem dX1_tellDenial_79 : decode cX1_tellDenial 79 = .ok (.iload 5, 2) := by decide +kernel
theorem dX1_tellDenial_81 : decode cX1_tellDenial 81 = .ok (.iastore, 1) := by decide +kernel
theorem dX1_tellDenial_82 : decode cX1_tellDenial 82 = .ok (.iinc 4 1, 3) := by decide +kernel
theorem dX1_tellDenial_85 : decode cX1_tellDenial 85 = .ok (.goto (-82), 3) := by decide +kernel
theorem dX1_tellDenial_88 : decode cX1_tellDenial 88 = .ok (.return_, 1) := by decide +kernel
theorem dX1_lookAhead_0 : decode cX1_lookAhead 0 = .ok (.iconst 0, 1) := by decide +kernel
theorem dX1_lookAhead_1 : decode cX1_lookAhead 1 = .ok (.istore_n 3, 1) := by decide +kernel
theorem dX1_lookAhead_2 : decode cX1_lookAhead 2 = .ok (.iload_n 3, 1) := by decide +kernel
theorem dX1_lookAhead_3 : decode cX1_lookAhead 3 = .ok (.bipush 100, 2) := by decide +kernel
theorem dX1_lookAhead_5 : decode cX1_lookAhead 5 = .ok (.if_icmp .ge 29, 3) := by decide +kernel
theorem dX1_lookAhead_8 : decode cX1_lookAhead 8 = .ok (.aload_n 0, 1) := by decide +kernel
theorem dX1_lookAhead_9 : decode cX1_lookAhead 9 = .ok (.aload_n 1, 1) := by decide +kernel
theorem dX1_lookAhead_10 : decode cX1_lookAhead 10 = .ok (.getfield 61, 3) := by decide +kernel
theorem dX1_lookAhead_13 : decode cX1_lookAhead 13 = .ok (.invokevirtual 78, 3) := by decide +kernel
theorem dX1_lookAhead_16 : decode cX1_lookAhead 16 = .ok (.ifCond .ne 18, 3) := by decide +kernel
theorem dX1_lookAhead_19 : decode cX1_lookAhead 19 = .ok (.aload_n 0, 1) := by decide +kernel
theorem dX1_lookAhead_20 : decode cX1_lookAhead 20 = .ok (.aload_n 1, 1) := by decide +kernel
theorem dX1_lookAhead_21 : decode cX1_lookAhead 21 = .ok (.iload_n 2, 1) := by decide +kernel
theorem dX1_lookAhead_22 : decode cX1_lookAhead 22 = .ok (.iload_n 3, 1) := by decide +kernel
theorem dX1_lookAhead_23 : decode cX1_lookAhead 23 = .ok (.iadd, 1) := by decide +kernel
theorem dX1_lookAhead_24 : decode cX1_lookAhead 24 = .ok (.invokevirtual 82, 3) := by decide +kernel
theorem dX1_lookAhead_27 : decode cX1_lookAhead 27 = .ok (.pop, 1) := by decide +kernel
theorem dX1_lookAhead_28 : decode cX1_lookAhead 28 = .ok (.iinc 3 1, 3) := by decide +kernel
theorem dX1_lookAhead_31 : decode cX1_lookAhead 31 = .ok (.goto (-29), 3) := by decide +kernel
theorem dX1_lookAhead_34 : decode cX1_lookAhead 34 = .ok (.iload_n 3, 1) := by decide +kernel
theorem dX1_lookAhead_35 : decode cX1_lookAhead 35 = .ok (.ireturn, 1) := by decide +kernel
theorem dX1_isQuiet_0 : decode cX1_isQuiet 0 = .ok (.iconst 0, 1) := by decide +kernel
theorem dX1_isQuiet_1 : decode cX1_isQuiet 1 = .ok (.istore_n 2, 1) := by decide +kernel
theorem dX1_isQuiet_2 : decode cX1_isQuiet 2 = .ok (.iload_n 2, 1) := by decide +kernel
theorem dX1_isQuiet_3 : decode cX1_isQuiet 3 = .ok (.iload_n 1, 1) := by decide +kernel
theorem dX1_isQuiet_4 : decode cX1_isQuiet 4 = .ok (.if_icmp .ge 39, 3) := by decide +kernel
theorem dX1_isQuiet_7 : decode cX1_isQuiet 7 = .ok (.aload_n 0, 1) := by decide +kernel
theorem dX1_isQuiet_8 : decode cX1_isQuiet 8 = .ok (.getfield 31, 3) := by decide +kernel
theorem dX1_isQuiet_11 : decode cX1_isQuiet 11 = .ok (.iload_n 2, 1) := by decide +kernel
theorem dX1_isQuiet_12 : decode cX1_isQuiet 12 = .ok (.iaload, 1) := by decide +kernel
theorem dX1_isQuiet_13 : decode cX1_isQuiet 13 = .ok (.iconst (-1), 1) := by decide +kernel
theorem dX1_isQuiet_14 : decode cX1_isQuiet 14 = .ok (.if_icmp .ne 21, 3) := by decide +kernel
theorem dX1_isQuiet_17 : decode cX1_isQuiet 17 = .ok (.aload_n 0, 1) := by decide +kernel
theorem dX1_isQuiet_18 : decode cX1_isQuiet 18 = .ok (.getfield 34, 3) := by decide +kernel
theorem dX1_isQuiet_21 : decode cX1_isQuiet 21 = .ok (.iload_n 2, 1) := by decide +kernel
theorem dX1_isQuiet_22 : decode cX1_isQuiet 22 = .ok (.iaload, 1) := by decide +kernel
theorem dX1_isQuiet_23 : decode cX1_isQuiet 23 = .ok (.iconst (-1), 1) := by decide +kernel
theorem dX1_isQuiet_24 : decode cX1_isQuiet 24 = .ok (.if_icmp .ne 11, 3) := by decide +kernel
theorem dX1_isQuiet_27 : decode cX1_isQuiet 27 = .ok (.aload_n 0, 1) := by decide +kernel
theorem dX1_isQuiet_28 : decode cX1_isQuiet 28 = .ok (.iload_n 2, 1) := by decide +kernel
theorem dX1_isQuiet_29 : decode cX1_isQuiet 29 = .ok (.invokevirtual 86, 3) := by decide +kernel
theorem dX1_isQuiet_32 : decode cX1_isQuiet 32 = .ok (.ifCond .eq 5, 3) := by decide +kernel
theorem dX1_isQuiet_35 : decode cX1_isQuiet 35 = .ok (.iconst 0, 1) := by decide +kernel
theorem dX1_isQuiet_36 : decode cX1_isQuiet 36 = .ok (.ireturn, 1) := by decide +kernel
theorem dX1_isQuiet_37 : decode cX1_isQuiet 37 = .ok (.iinc 2 1, 3) := by decide +kernel
theorem dX1_isQuiet_40 : decode cX1_isQuiet 40 = .ok (.goto (-38), 3) := by decide +kernel
theorem dX1_isQuiet_43 : decode cX1_isQuiet 43 = .ok (.iconst 1, 1) := by decide +kernel
theorem dX1_isQuiet_44 : decode cX1_isQuiet 44 = .ok (.ireturn, 1) := by decide +kernel
theorem dX1_isUnderWayTo_0 : decode cX1_isUnderWayTo 0 = .ok (.aload_n 0, 1) := by decide +kernel
theorem dX1_isUnderWayTo_1 : decode cX1_isUnderWayTo 1 = .ok (.getfield 37, 3) := by decide +kernel
theorem dX1_isUnderWayTo_4 : decode cX1_isUnderWayTo 4 = .ok (.iload_n 1, 1) := by decide +kernel
theorem dX1_isUnderWayTo_5 : decode cX1_isUnderWayTo 5 = .ok (.iaload, 1) := by decide +kernel
theorem dX1_isUnderWayTo_6 : decode cX1_isUnderWayTo 6 = .ok (.iconst (-1), 1) := by decide +kernel
theorem dX1_isUnderWayTo_7 : decode cX1_isUnderWayTo 7 = .ok (.if_icmp .ne 13, 3) := by decide +kernel
theorem dX1_isUnderWayTo_10 : decode cX1_isUnderWayTo 10 = .ok (.aload_n 0, 1) := by decide +kernel
theorem dX1_isUnderWayTo_11 : decode cX1_isUnderWayTo 11 = .ok (.getfield 43, 3) := by decide +kernel
theorem dX1_isUnderWayTo_14 : decode cX1_isUnderWayTo 14 = .ok (.iload_n 1, 1) := by decide +kernel
theorem dX1_isUnderWayTo_15 : decode cX1_isUnderWayTo 15 = .ok (.iaload, 1) := by decide +kernel
theorem dX1_isUnderWayTo_16 : decode cX1_isUnderWayTo 16 = .ok (.iconst (-1), 1) := by decide +kernel
theorem dX1_isUnderWayTo_17 : decode cX1_isUnderWayTo 17 = .ok (.if_icmp .eq 7, 3) := by decide +kernel
theorem dX1_isUnderWayTo_20 : decode cX1_isUnderWayTo 20 = .ok (.iconst 1, 1) := by decide +kernel
theorem dX1_isUnderWayTo_21 : decode cX1_isUnderWayTo 21 = .ok (.goto 4, 3) := by decide +kernel
theorem dX1_isUnderWayTo_24 : decode cX1_isUnderWayTo 24 = .ok (.iconst 0, 1) := by decide +kernel
theorem dX1_isUnderWayTo_25 : decode cX1_isUnderWayTo 25 = .ok (.ireturn, 1) := by decide +kernel
theorem dX1_headsThatBelieve_0 : decode cX1_headsThatBelieve 0 = .ok (.iconst 0, 1) := by decide +kernel
theorem dX1_headsThatBelieve_1 : decode cX1_headsThatBelieve 1 = .ok (.istore_n 2, 1) := by decide +kernel
theorem dX1_headsThatBelieve_2 : decode cX1_headsThatBelieve 2 = .ok (.iconst 0, 1) := by decide +kernel
theorem dX1_headsThatBelieve_3 : decode cX1_headsThatBelieve 3 = .ok (.istore_n 3, 1) := by decide +kernel
theorem dX1_headsThatBelieve_4 : decode cX1_headsThatBelieve 4 = .ok (.iload_n 3, 1) := by decide +kernel
theorem dX1_headsThatBelieve_5 : decode cX1_headsThatBelieve 5 = .ok (.aload_n 1, 1) := by decide +kernel
theorem dX1_headsThatBelieve_6 : decode cX1_headsThatBelieve 6 = .ok (.getfield 61, 3) := by decide +kernel
theorem dX1_headsThatBelieve_9 : decode cX1_headsThatBelieve 9 = .ok (.if_icmp .ge 28, 3) := by decide +kernel
theorem dX1_headsThatBelieve_12 : decode cX1_headsThatBelieve 12 = .ok (.aload_n 0, 1) := by decide +kernel
theorem dX1_headsThatBelieve_13 : decode cX1_headsThatBelieve 13 = .ok (.getfield 18, 3) := by decide +kernel
theorem dX1_headsThatBelieve_16 : decode cX1_headsThatBelieve 16 = .ok (.iload_n 3, 1) := by decide +kernel
theorem dX1_headsThatBelieve_17 : decode cX1_headsThatBelieve 17 = .ok (.iaload, 1) := by decide +kernel
theorem dX1_headsThatBelieve_18 : decode cX1_headsThatBelieve 18 = .ok (.iconst 1, 1) := by decide +kernel
theorem dX1_headsThatBelieve_19 : decode cX1_headsThatBelieve 19 = .ok (.if_icmp .ne 12, 3) := by decide +kernel
theorem dX1_headsThatBelieve_22 : decode cX1_headsThatBelieve 22 = .ok (.iload_n 2, 1) := by decide +kernel
theorem dX1_headsThatBelieve_23 : decode cX1_headsThatBelieve 23 = .ok (.aload_n 1, 1) := by decide +kernel
theorem dX1_headsThatBelieve_24 : decode cX1_headsThatBelieve 24 = .ok (.getfield 89, 3) := by decide +kernel
theorem dX1_headsThatBelieve_27 : decode cX1_headsThatBelieve 27 = .ok (.iload_n 3, 1) := by decide +kernel
theorem dX1_headsThatBelieve_28 : decode cX1_headsThatBelieve 28 = .ok (.iaload, 1) := by decide +kernel
theorem dX1_headsThatBelieve_29 : decode cX1_headsThatBelieve 29 = .ok (.iadd, 1) := by decide +kernel
theorem dX1_headsThatBelieve_30 : decode cX1_headsThatBelieve 30 = .ok (.istore_n 2, 1) := by decide +kernel
theorem dX1_headsThatBelieve_31 : decode cX1_headsThatBelieve 31 = .ok (.iinc 3 1, 3) := by decide +kernel
theorem dX1_headsThatBelieve_34 : decode cX1_headsThatBelieve 34 = .ok (.goto (-30), 3) := by decide +kernel
theorem dX1_headsThatBelieve_37 : decode cX1_headsThatBelieve 37 = .ok (.iload_n 2, 1) := by decide +kernel
theorem dX1_headsThatBelieve_38 : decode cX1_headsThatBelieve 38 = .ok (.ireturn, 1) := by decide +kernel
theorem dX2_init_0 : decode cX2_init 0 = .ok (.aload_n 0, 1) := by decide +kernel
theorem dX2_init_1 : decode cX2_init 1 = .ok (.invokespecial 3, 3) := by decide +kernel
theorem dX2_init_4 : decode cX2_init 4 = .ok (.aload_n 0, 1) := by decide +kernel
theorem dX2_init_5 : decode cX2_init 5 = .ok (.bipush 12, 2) := by decide +kernel
theorem dX2_init_7 : decode cX2_init 7 = .ok (.newarray .int, 2) := by decide +kernel
theorem dX2_init_9 : decode cX2_init 9 = .ok (.putfield 9, 3) := by decide +kernel
theorem dX2_init_12 : decode cX2_init 12 = .ok (.aload_n 0, 1) := by decide +kernel
theorem dX2_init_13 : decode cX2_init 13 = .ok (.bipush 12, 2) := by decide +kernel
theorem dX2_init_15 : decode cX2_init 15 = .ok (.newarray .int, 2) := by decide +kernel
theorem dX2_init_17 : decode cX2_init 17 = .ok (.putfield 15, 3) := by decide +kernel
theorem dX2_init_20 : decode cX2_init 20 = .ok (.aload_n 0, 1) := by decide +kernel
theorem dX2_init_21 : decode cX2_init 21 = .ok (.bipush 12, 2) := by decide +kernel
theorem dX2_init_23 : decode cX2_init 23 = .ok (.newarray .int, 2) := by decide +kernel
theorem dX2_init_25 : decode cX2_init 25 = .ok (.putfield 18, 3) := by decide +kernel
theorem dX2_init_28 : decode cX2_init 28 = .ok (.aload_n 0, 1) := by decide +kernel
theorem dX2_init_29 : decode cX2_init 29 = .ok (.bipush 12, 2) := by decide +kernel
theorem dX2_init_31 : decode cX2_init 31 = .ok (.newarray .boolean, 2) := by decide +kernel
theorem dX2_init_33 : decode cX2_init 33 = .ok (.putfield 21, 3) := by decide +kernel
theorem dX2_init_36 : decode cX2_init 36 = .ok (.aload_n 0, 1) := by decide +kernel
theorem dX2_init_37 : decode cX2_init 37 = .ok (.iconst 4, 1) := by decide +kernel
theorem dX2_init_38 : decode cX2_init 38 = .ok (.anewarray 25, 3) := by decide +kernel
theorem dX2_init_41 : decode cX2_init 41 = .ok (.putfield 27, 3) := by decide +kernel
theorem dX2_init_44 : decode cX2_init 44 = .ok (.aload_n 0, 1) := by decide +kernel
theorem dX2_init_45 : decode cX2_init 45 = .ok (.bipush 12, 2) := by decide +kernel
theorem dX2_init_47 : decode cX2_init 47 = .ok (.bipush 12, 2) := by decide +kernel
theorem dX2_init_49 : decode cX2_init 49 = .ok (.multianewarray 31 2, 4) := by decide +kernel
theorem dX2_init_53 : decode cX2_init 53 = .ok (.putfield 33, 3) := by decide +kernel
theorem dX2_init_56 : decode cX2_init 56 = .ok (.iconst 0, 1) := by decide +kernel
theorem dX2_init_57 : decode cX2_init 57 = .ok (.istore_n 1, 1) := by decide +kernel
theorem dX2_init_58 : decode cX2_init 58 = .ok (.iload_n 1, 1) := by decide +kernel
theorem dX2_init_59 : decode cX2_init 59 = .ok (.iconst 4, 1) := by decide +kernel
theorem dX2_init_60 : decode cX2_init 60 = .ok (.if_icmp .ge 22, 3) := by decide +kernel
theorem dX2_init_63 : decode cX2_init 63 = .ok (.aload_n 0, 1) := by decide +kernel
theorem dX2_init_64 : decode cX2_init 64 = .ok (.getfield 27, 3) := by decide +kernel
theorem dX2_init_67 : decode cX2_init 67 = .ok (.iload_n 1, 1) := by decide +kernel
theorem dX2_init_68 : decode cX2_init 68 = .ok (.new 25, 3) := by decide +kernel
theorem dX2_init_71 : decode cX2_init 71 = .ok (.dup, 1) := by decide +kernel
theorem dX2_init_72 : decode cX2_init 72 = .ok (.invokespecial 36, 3) := by decide +kernel
theorem dX2_init_75 : decode cX2_init 75 = .ok (.aastore, 1) := by decide +kernel
theorem dX2_init_76 : decode cX2_init 76 = .ok (.iinc 1 1, 3) := by decide +kernel
theorem dX2_init_79 : decode cX2_init 79 = .ok (.goto (-21), 3) := by decide +kernel
theorem dX2_init_82 : decode cX2_init 82 = .ok (.aload_n 0, 1) := by decide +kernel
theorem dX2_init_83 : decode cX2_init 83 = .ok (.bipush 6, 2) := by decide +kernel
theorem dX2_init_85 : decode cX2_init 85 = .ok (.invokevirtual 37, 3) := by decide +kernel
theorem dX2_init_88 : decode cX2_init 88 = .ok (.return_, 1) := by decide +kernel
theorem dX2_reset_0 : decode cX2_reset 0 = .ok (.aload_n 0, 1) := by decide +kernel
theorem dX2_reset_1 : decode cX2_reset 1 = .ok (.iload_n 1, 1) := by decide +kernel
theorem dX2_reset_2 : decode cX2_reset 2 = .ok (.putfield 41, 3) := by decide +kernel
theorem dX2_reset_5 : decode cX2_reset 5 = .ok (.aload_n 0, 1) := by decide +kernel
theorem dX2_reset_6 : decode cX2_reset 6 = .ok (.iconst 0, 1) := by decide +kernel
theorem dX2_reset_7 : decode cX2_reset 7 = .ok (.putfield 45, 3) := by decide +kernel
theorem dX2_reset_10 : decode cX2_reset 10 = .ok (.iconst 0, 1) := by decide +kernel
theorem dX2_reset_11 : decode cX2_reset 11 = .ok (.istore_n 2, 1) := by decide +kernel
theorem dX2_reset_12 : decode cX2_reset 12 = .ok (.iload_n 2, 1) := by decide +kernel
theorem dX2_reset_13 : decode cX2_reset 13 = .ok (.bipush 12, 2) := by decide +kernel
theorem dX2_reset_15 : decode cX2_reset 15 = .ok (.if_icmp .ge 38, 3) := by decide +kernel
theorem dX2_reset_18 : decode cX2_reset 18 = .ok (.aload_n 0, 1) := by decide +kernel
theorem dX2_reset_19 : decode cX2_reset 19 = .ok (.getfield 9, 3) := by decide +kernel
theorem dX2_reset_22 : decode cX2_reset 22 = .ok (.iload_n 2, 1) := by decide +kernel
theorem dX2_reset_23 : decode cX2_reset 23 = .ok (.bipush 10, 2) := by decide +kernel
theorem dX2_reset_25 : decode cX2_reset 25 = .ok (.iastore, 1) := by decide +kernel
theorem dX2_reset_26 : decode cX2_reset 26 = .ok (.aload_n 0, 1) := by decide +kernel
theorem dX2_reset_27 : decode cX2_reset 27 = .ok (.getfield 15, 3) := by decide +kernel
theorem dX2_reset_30 : decode cX2_reset 30 = .ok (.iload_n 2, 1) := by decide +kernel
theorem dX2_reset_31 : decode cX2_reset 31 = .ok (.iconst 2, 1) := by decide +kernel
theorem dX2_reset_32 : decode cX2_reset 32 = .ok (.iastore, 1) := by decide +kernel
theorem dX2_reset_33 : decode cX2_reset 33 = .ok (.aload_n 0, 1) := by decide +kernel
theorem dX2_reset_34 : decode cX2_reset 34 = .ok (.getfield 18, 3) := by decide +kernel
theorem dX2_reset_37 : decode cX2_reset 37 = .ok (.iload_n 2, 1) := by decide +kernel
theorem dX2_reset_38 : decode cX2_reset 38 = .ok (.iconst 3, 1) := by decide +kernel
theorem dX2_reset_39 : decode cX2_reset 39 = .ok (.iastore, 1) := by decide +kernel
theorem dX2_reset_40 : decode cX2_reset 40 = .ok (.aload_n 0, 1) := by decide +kernel
theorem dX2_reset_41 : decode cX2_reset 41 = .ok (.getfield 21, 3) := by decide +kernel
theorem dX2_reset_44 : decode cX2_reset 44 = .ok (.iload_n 2, 1) := by decide +kernel
theorem dX2_reset_45 : decode cX2_reset 45 = .ok (.iconst 1, 1) := by decide +kernel
theorem dX2_reset_46 : decode cX2_reset 46 = .ok (.bastore, 1) := by decide +kernel
theorem dX2_reset_47 : decode cX2_reset 47 = .ok (.iinc 2 1, 3) := by decide +kernel
theorem dX2_reset_50 : decode cX2_reset 50 = .ok (.goto (-38), 3) := by decide +kernel
theorem dX2_reset_53 : decode cX2_reset 53 = .ok (.aload_n 0, 1) := by decide +kernel
theorem dX2_reset_54 : decode cX2_reset 54 = .ok (.invokevirtual 48, 3) := by decide +kernel
theorem dX2_reset_57 : decode cX2_reset 57 = .ok (.return_, 1) := by decide +kernel
theorem dX2_putLift_0 : decode cX2_putLift 0 = .ok (.aload_n 0, 1) := by decide +kernel
theorem dX2_putLift_1 : decode cX2_putLift 1 = .ok (.getfield 45, 3) := by decide +kernel
theorem dX2_putLift_4 : decode cX2_putLift 4 = .ok (.istore 5, 2) := by decide +kernel
theorem dX2_putLift_6 : decode cX2_putLift 6 = .ok (.aload_n 0, 1) := by decide +kernel
theorem dX2_putLift_7 : decode cX2_putLift 7 = .ok (.getfield 27, 3) := by decide +kernel
theorem dX2_putLift_10 : decode cX2_putLift 10 = .ok (.iload 5, 2) := by decide +kernel
theorem dX2_putLift_12 : decode cX2_putLift 12 = .ok (.aaload, 1) := by decide +kernel
theorem dX2_putLift_13 : decode cX2_putLift 13 = .ok (.iload_n 1, 1) := by decide +kernel
theorem dX2_putLift_14 : decode cX2_putLift 14 = .ok (.iload_n 2, 1) := by decide +kernel
theorem dX2_putLift_15 : decode cX2_putLift 15 = .ok (.iload_n 3, 1) := by decide +kernel
theorem dX2_putLift_16 : decode cX2_putLift 16 = .ok (.iload 4, 2) := by decide +kernel
theorem dX2_putLift_18 : decode cX2_putLift 18 = .ok (.invokevirtual 51, 3) := by decide +kernel
theorem dX2_putLift_21 : decode cX2_putLift 21 = .ok (.aload_n 0, 1) := by decide +kernel
theorem dX2_putLift_22 : decode cX2_putLift 22 = .ok (.iload 5, 2) := by decide +kernel
theorem dX2_putLift_24 : decode cX2_putLift 24 = .ok (.iconst 1, 1) := by decide +kernel
theorem dX2_putLift_25 : decode cX2_putLift 25 = .ok (.iadd, 1) := by decide +kernel
theorem dX2_putLift_26 : decode cX2_putLift 26 = .ok (.putfield 45, 3) := by decide +kernel
theorem dX2_putLift_29 : decode cX2_putLift 29 = .ok (.aload_n 0, 1) := by decide +kernel
theorem dX2_putLift_30 : decode cX2_putLift 30 = .ok (.invokevirtual 48, 3) := by decide +kernel
theorem dX2_putLift_33 : decode cX2_putLift 33 = .ok (.iload 5, 2) := by decide +kernel
theorem dX2_putLift_35 : decode cX2_putLift 35 = .ok (.ireturn, 1) := by decide +kernel
theorem dX2_letStairs_0 : decode cX2_letStairs 0 = .ok (.aload_n 0, 1) := by decide +kernel
theorem dX2_letStairs_1 : decode cX2_letStairs 1 = .ok (.getfield 21, 3) := by decide +kernel
theorem dX2_letStairs_4 : decode cX2_letStairs 4 = .ok (.iload_n 1, 1) := by decide +kernel
theorem dX2_letStairs_5 : decode cX2_letStairs 5 = .ok (.iload_n 2, 1) := by decide +kernel
theorem dX2_letStairs_6 : decode cX2_letStairs 6 = .ok (.bastore, 1) := by decide +kernel
theorem dX2_letStairs_7 : decode cX2_letStairs 7 = .ok (.aload_n 0, 1) := by decide +kernel
theorem dX2_letStairs_8 : decode cX2_letStairs 8 = .ok (.invokevirtual 48, 3) := by decide +kernel
theorem dX2_letStairs_11 : decode cX2_letStairs 11 = .ok (.return_, 1) := by decide +kernel
theorem dX2_letLift_0 : decode cX2_letLift 0 = .ok (.aload_n 0, 1) := by decide +kernel
theorem dX2_letLift_1 : decode cX2_letLift 1 = .ok (.getfield 27, 3) := by decide +kernel
theorem dX2_letLift_4 : decode cX2_letLift 4 = .ok (.iload_n 1, 1) := by decide +kernel
theorem dX2_letLift_5 : decode cX2_letLift 5 = .ok (.aaload, 1) := by decide +kernel
theorem dX2_letLift_6 : decode cX2_letLift 6 = .ok (.iload_n 2, 1) := by decide +kernel
theorem dX2_letLift_7 : decode cX2_letLift 7 = .ok (.putfield 55, 3) := by decide +kernel
theorem dX2_letLift_10 : decode cX2_letLift 10 = .ok (.aload_n 0, 1) := by decide +kernel
theorem dX2_letLift_11 : decode cX2_letLift 11 = .ok (.invokevirtual 48, 3) := by decide +kernel
theorem dX2_letLift_14 : decode cX2_letLift 14 = .ok (.return_, 1) := by decide +kernel
theorem dX2_layPipes_0 : decode cX2_layPipes 0 = .ok (.iconst 0, 1) := by decide +kernel
theorem dX2_layPipes_1 : decode cX2_layPipes 1 = .ok (.istore_n 1, 1) := by decide +kernel
theorem dX2_layPipes_2 : decode cX2_layPipes 2 = .ok (.iload_n 1, 1) := by decide +kernel
theorem dX2_layPipes_3 : decode cX2_layPipes 3 = .ok (.aload_n 0, 1) := by decide +kernel
theorem dX2_layPipes_4 : decode cX2_layPipes 4 = .ok (.getfield 41, 3) := by decide +kernel
theorem dX2_layPipes_7 : decode cX2_layPipes 7 = .ok (.if_icmp .ge 61, 3) := by decide +kernel
theorem dX2_layPipes_10 : decode cX2_layPipes 10 = .ok (.aload_n 0, 1) := by decide +kernel
theorem dX2_layPipes_11 : decode cX2_layPipes 11 = .ok (.getfield 33, 3) := by decide +kernel
theorem dX2_layPipes_14 : decode cX2_layPipes 14 = .ok (.iload_n 1, 1) := by decide +kernel
theorem dX2_layPipes_15 : decode cX2_layPipes 15 = .ok (.aaload, 1) := by decide +kernel
theorem dX2_layPipes_16 : decode cX2_layPipes 16 = .ok (.iload_n 1, 1) := by decide +kernel
theorem dX2_layPipes_17 : decode cX2_layPipes 17 = .ok (.iconst (-1), 1) := by decide +kernel
theorem dX2_layPipes_18 : decode cX2_layPipes 18 = .ok (.iastore, 1) := by decide +kernel
theorem dX2_layPipes_19 : decode cX2_layPipes 19 = .ok (.iload_n 1, 1) := by decide +kernel
theorem dX2_layPipes_20 : decode cX2_layPipes 20 = .ok (.iconst 1, 1) := by decide +kernel
theorem dX2_layPipes_21 : decode cX2_layPipes 21 = .ok (.iadd, 1) := by decide +kernel
theorem dX2_layPipes_22 : decode cX2_layPipes 22 = .ok (.istore_n 2, 1) := by decide +kernel
theorem dX2_layPipes_23 : decode cX2_layPipes 23 = .ok (.iload_n 2, 1) := by decide +kernel
theorem dX2_layPipes_24 : decode cX2_layPipes 24 = .ok (.aload_n 0, 1) := by decide +kernel
theorem dX2_layPipes_25 : decode cX2_layPipes 25 = .ok (.getfield 41, 3) := by decide +kernel
theorem dX2_layPipes_28 : decode cX2_layPipes 28 = .ok (.if_icmp .ge 34, 3) := by decide +kernel
theorem dX2_layPipes_31 : decode cX2_layPipes 31 = .ok (.aload_n 0, 1) := by decide +kernel
theorem dX2_layPipes_32 : decode cX2_layPipes 32 = .ok (.iload_n 1, 1) := by decide +kernel
theorem dX2_layPipes_33 : decode cX2_layPipes 33 = .ok (.iload_n 2, 1) := by decide +kernel
theorem dX2_layPipes_34 : decode cX2_layPipes 34 = .ok (.invokevirtual 59, 3) := by decide +kernel
theorem dX2_layPipes_37 : decode cX2_layPipes 37 = .ok (.istore_n 3, 1) := by decide +kernel
theorem dX2_layPipes_38 : decode cX2_layPipes 38 = .ok (.aload_n 0, 1) := by decide +kernel
theorem dX2_layPipes_39 : decode cX2_layPipes 39 = .ok (.getfield 33, 3) := by decide +kernel
theorem dX2_layPipes_42 : decode cX2_layPipes 42 = .ok (.iload_n 1, 1) := by decide +kernel
theorem dX2_layPipes_43 : decode cX2_layPipes 43 = .ok (.aaload, 1) := by decide +kernel
theorem dX2_layPipes_44 : decode cX2_layPipes 44 = .ok (.iload_n 2, 1) := by decide +kernel
theorem dX2_layPipes_45 : decode cX2_layPipes 45 = .ok (.iload_n 3, 1) := by decide +kernel
theorem dX2_layPipes_46 : decode cX2_layPipes 46 = .ok (.iastore, 1) := by decide +kernel
theorem dX2_layPipes_47 : decode cX2_layPipes 47 = .ok (.aload_n 0, 1) := by decide +kernel
theorem dX2_layPipes_48 : decode cX2_layPipes 48 = .ok (.getfield 33, 3) := by decide +kernel
theorem dX2_layPipes_51 : decode cX2_layPipes 51 = .ok (.iload_n 2, 1) := by decide +kernel
theorem dX2_layPipes_52 : decode cX2_layPipes 52 = .ok (.aaload, 1) := by decide +kernel
theorem dX2_layPipes_53 : decode cX2_layPipes 53 = .ok (.iload_n 1, 1) := by decide +kernel
theorem dX2_layPipes_54 : decode cX2_layPipes 54 = .ok (.iload_n 3, 1) := by decide +kernel
theorem dX2_layPipes_55 : decode cX2_layPipes 55 = .ok (.iastore, 1) := by decide +kernel
theorem dX2_layPipes_56 : decode cX2_layPipes 56 = .ok (.iinc 2 1, 3) := by decide +kernel
theorem dX2_layPipes_59 : decode cX2_layPipes 59 = .ok (.goto (-36), 3) := by decide +kernel
theorem dX2_layPipes_62 : decode cX2_layPipes 62 = .ok (.iinc 1 1, 3) := by decide +kernel
theorem dX2_layPipes_65 : decode cX2_layPipes 65 = .ok (.goto (-63), 3) := by decide +kernel
theorem dX2_layPipes_68 : decode cX2_layPipes 68 = .ok (.return_, 1) := by decide +kernel
theorem dX2_fewestHours_0 : decode cX2_fewestHours 0 = .ok (.iload_n 2, 1) := by decide +kernel
theorem dX2_fewestHours_1 : decode cX2_fewestHours 1 = .ok (.iload_n 1, 1) := by decide +kernel
theorem dX2_fewestHours_2 : decode cX2_fewestHours 2 = .ok (.isub, 1) := by decide +kernel
theorem dX2_fewestHours_3 : decode cX2_fewestHours 3 = .ok (.iconst 1, 1) := by decide +kernel
theorem dX2_fewestHours_4 : decode cX2_fewestHours 4 = .ok (.if_icmp .ne 21, 3) := by decide +kernel
theorem dX2_fewestHours_7 : decode cX2_fewestHours 7 = .ok (.aload_n 0, 1) := by decide +kernel
theorem dX2_fewestHours_8 : decode cX2_fewestHours 8 = .ok (.getfield 21, 3) := by decide +kernel
theorem dX2_fewestHours_11 : decode cX2_fewestHours 11 = .ok (.iload_n 1, 1) := by decide +kernel
theorem dX2_fewestHours_12 : decode cX2_fewestHours 12 = .ok (.baload, 1) := by decide +kernel
theorem dX2_fewestHours_13 : decode cX2_fewestHours 13 = .ok (.ifCond .eq 12, 3) := by decide +kernel
theorem dX2_fewestHours_16 : decode cX2_fewestHours 16 = .ok (.aload_n 0, 1) := by decide +kernel
theorem dX2_fewestHours_17 : decode cX2_fewestHours 17 = .ok (.getfield 18, 3) := by decide +kernel
theorem dX2_fewestHours_20 : decode cX2_fewestHours 20 = .ok (.iload_n 1, 1) := by decide +kernel
theorem dX2_fewestHours_21 : decode cX2_fewestHours 21 = .ok (.iaload, 1) := by decide +kernel
theorem dX2_fewestHours_22 : decode cX2_fewestHours 22 = .ok (.goto 4, 3) := by decide +kernel
theorem dX2_fewestHours_25 : decode cX2_fewestHours 25 = .ok (.iconst (-1), 1) := by decide +kernel
theorem dX2_fewestHours_26 : decode cX2_fewestHours 26 = .ok (.istore_n 3, 1) := by decide +kernel
theorem dX2_fewestHours_27 : decode cX2_fewestHours 27 = .ok (.iconst 0, 1) := by decide +kernel
theorem dX2_fewestHours_28 : decode cX2_fewestHours 28 = .ok (.istore 4, 2) := by decide +kernel
theorem dX2_fewestHours_30 : decode cX2_fewestHours 30 = .ok (.iload 4, 2) := by decide +kernel
theorem dX2_fewestHours_32 : decode cX2_fewestHours 32 = .ok (.aload_n 0, 1) := by decide +kernel
theorem dX2_fewestHours_33 : decode cX2_fewestHours 33 = .ok (.getfield 45, 3) := by decide +kernel
theorem dX2_fewestHours_36 : decode cX2_fewestHours 36 = .ok (.if_icmp .ge 43, 3) := by decide +kernel
theorem dX2_fewestHours_39 : decode cX2_fewestHours 39 = .ok (.aload_n 0, 1) := by decide +kernel
theorem dX2_fewestHours_40 : decode cX2_fewestHours 40 = .ok (.getfield 27, 3) := by decide +kernel
theorem dX2_fewestHours_43 : decode cX2_fewestHours 43 = .ok (.iload 4, 2) := by decide +kernel
theorem dX2_fewestHours_45 : decode cX2_fewestHours 45 = .ok (.aaload, 1) := by decide +kernel
theorem dX2_fewestHours_46 : decode cX2_fewestHours 46 = .ok (.iload_n 1, 1) := by decide +kernel
theorem dX2_fewestHours_47 : decode cX2_fewestHours 47 = .ok (.iload_n 2, 1) := by decide +kernel
theorem dX2_fewestHours_48 : decode cX2_fewestHours 48 = .ok (.invokevirtual 63, 3) := by decide +kernel
theorem dX2_fewestHours_51 : decode cX2_fewestHours 51 = .ok (.istore 5, 2) := by decide +kernel
theorem dX2_fewestHours_53 : decode cX2_fewestHours 53 = .ok (.iload 5, 2) := by decide +kernel
theorem dX2_fewestHours_55 : decode cX2_fewestHours 55 = .ok (.iconst (-1), 1) := by decide +kernel
theorem dX2_fewestHours_56 : decode cX2_fewestHours 56 = .ok (.if_icmp .eq 17, 3) := by decide +kernel
theorem dX2_fewestHours_59 : decode cX2_fewestHours 59 = .ok (.iload_n 3, 1) := by decide +kernel
theorem dX2_fewestHours_60 : decode cX2_fewestHours 60 = .ok (.iconst (-1), 1) := by decide +kernel
theorem dX2_fewestHours_61 : decode cX2_fewestHours 61 = .ok (.if_icmp .eq 9, 3) := by decide +kernel
theorem dX2_fewestHours_64 : decode cX2_fewestHours 64 = .ok (.iload 5, 2) := by decide +kernel
theorem dX2_fewestHours_66 : decode cX2_fewestHours 66 = .ok (.iload_n 3, 1) := by decide +kernel
theorem dX2_fewestHours_67 : decode cX2_fewestHours 67 = .ok (.if_icmp .ge 6, 3) := by decide +kernel
theorem dX2_fewestHours_70 : decode cX2_fewestHours 70 = .ok (.iload 5, 2) := by decide +kernel
theorem dX2_fewestHours_72 : decode cX2_fewestHours 72 = .ok (.istore_n 3, 1) := by decide +kernel
theorem dX2_fewestHours_73 : decode cX2_fewestHours 73 = .ok (.iinc 4 1, 3) := by decide +kernel
theorem dX2_fewestHours_76 : decode cX2_fewestHours 76 = .ok (.goto (-46), 3) := by decide +kernel
theorem dX2_fewestHours_79 : decode cX2_fewestHours 79 = .ok (.iload_n 3, 1) := by decide +kernel
theorem dX2_fewestHours_80 : decode cX2_fewestHours 80 = .ok (.ireturn, 1) := by decide +kernel
theorem dX3_init_0 : decode cX3_init 0 = .ok (.aload_n 0, 1) := by decide +kernel
theorem dX3_init_1 : decode cX3_init 1 = .ok (.invokespecial 3, 3) := by decide +kernel
theorem dX3_init_4 : decode cX3_init 4 = .ok (.aload_n 0, 1) := by decide +kernel
theorem dX3_init_5 : decode cX3_init 5 = .ok (.bipush 12, 2) := by decide +kernel
theorem dX3_init_7 : decode cX3_init 7 = .ok (.newarray .int, 2) := by decide +kernel
theorem dX3_init_9 : decode cX3_init 9 = .ok (.putfield 9, 3) := by decide +kernel
theorem dX3_init_12 : decode cX3_init 12 = .ok (.aload_n 0, 1) := by decide +kernel
theorem dX3_init_13 : decode cX3_init 13 = .ok (.bipush 12, 2) := by decide +kernel
theorem dX3_init_15 : decode cX3_init 15 = .ok (.newarray .int, 2) := by decide +kernel
theorem dX3_init_17 : decode cX3_init 17 = .ok (.putfield 15, 3) := by decide +kernel
theorem dX3_init_20 : decode cX3_init 20 = .ok (.aload_n 0, 1) := by decide +kernel
theorem dX3_init_21 : decode cX3_init 21 = .ok (.bipush 12, 2) := by decide +kernel
theorem dX3_init_23 : decode cX3_init 23 = .ok (.newarray .boolean, 2) := by decide +kernel
theorem dX3_init_25 : decode cX3_init 25 = .ok (.putfield 18, 3) := by decide +kernel
theorem dX3_init_28 : decode cX3_init 28 = .ok (.return_, 1) := by decide +kernel
theorem dX3_findFrom_0 : decode cX3_findFrom 0 = .ok (.iconst 0, 1) := by decide +kernel
theorem dX3_findFrom_1 : decode cX3_findFrom 1 = .ok (.istore_n 3, 1) := by decide +kernel
theorem dX3_findFrom_2 : decode cX3_findFrom 2 = .ok (.iload_n 3, 1) := by decide +kernel
theorem dX3_findFrom_3 : decode cX3_findFrom 3 = .ok (.bipush 12, 2) := by decide +kernel
theorem dX3_findFrom_5 : decode cX3_findFrom 5 = .ok (.if_icmp .ge 30, 3) := by decide +kernel
theorem dX3_findFrom_8 : decode cX3_findFrom 8 = .ok (.aload_n 0, 1) := by decide +kernel
theorem dX3_findFrom_9 : decode cX3_findFrom 9 = .ok (.getfield 9, 3) := by decide +kernel
theorem dX3_findFrom_12 : decode cX3_findFrom 12 = .ok (.iload_n 3, 1) := by decide +kernel
theorem dX3_findFrom_13 : decode cX3_findFrom 13 = .ok (.iconst (-1), 1) := by decide +kernel
theorem dX3_findFrom_14 : decode cX3_findFrom 14 = .ok (.iastore, 1) := by decide +kernel
theorem dX3_findFrom_15 : decode cX3_findFrom 15 = .ok (.aload_n 0, 1) := by decide +kernel
theorem dX3_findFrom_16 : decode cX3_findFrom 16 = .ok (.getfield 15, 3) := by decide +kernel
theorem dX3_findFrom_19 : decode cX3_findFrom 19 = .ok (.iload_n 3, 1) := by decide +kernel
theorem dX3_findFrom_20 : decode cX3_findFrom 20 = .ok (.iconst (-1), 1) := by decide +kernel
theorem dX3_findFrom_21 : decode cX3_findFrom 21 = .ok (.iastore, 1) := by decide +kernel
theorem dX3_findFrom_22 : decode cX3_findFrom 22 = .ok (.aload_n 0, 1) := by decide +kernel
theorem dX3_findFrom_23 : decode cX3_findFrom 23 = .ok (.getfield 18, 3) := by decide +kernel
theorem dX3_findFrom_26 : decode cX3_findFrom 26 = .ok (.iload_n 3, 1) := by decide +kernel
theorem dX3_findFrom_27 : decode cX3_findFrom 27 = .ok (.iconst 0, 1) := by decide +kernel
theorem dX3_findFrom_28 : decode cX3_findFrom 28 = .ok (.bastore, 1) := by decide +kernel
theorem dX3_findFrom_29 : decode cX3_findFrom 29 = .ok (.iinc 3 1, 3) := by decide +kernel
theorem dX3_findFrom_32 : decode cX3_findFrom 32 = .ok (.goto (-30), 3) := by decide +kernel
theorem dX3_findFrom_35 : decode cX3_findFrom 35 = .ok (.aload_n 0, 1) := by decide +kernel
theorem dX3_findFrom_36 : decode cX3_findFrom 36 = .ok (.getfield 9, 3) := by decide +kernel
theorem dX3_findFrom_39 : decode cX3_findFrom 39 = .ok (.iload_n 2, 1) := by decide +kernel
theorem dX3_findFrom_40 : decode cX3_findFrom 40 = .ok (.iconst 0, 1) := by decide +kernel
theorem dX3_findFrom_41 : decode cX3_findFrom 41 = .ok (.iastore, 1) := by decide +kernel
theorem dX3_findFrom_42 : decode cX3_findFrom 42 = .ok (.aload_n 0, 1) := by decide +kernel
theorem dX3_findFrom_43 : decode cX3_findFrom 43 = .ok (.getfield 15, 3) := by decide +kernel
theorem dX3_findFrom_46 : decode cX3_findFrom 46 = .ok (.iload_n 2, 1) := by decide +kernel
theorem dX3_findFrom_47 : decode cX3_findFrom 47 = .ok (.iconst 0, 1) := by decide +kernel
theorem dX3_findFrom_48 : decode cX3_findFrom 48 = .ok (.iastore, 1) := by decide +kernel
theorem dX3_findFrom_49 : decode cX3_findFrom 49 = .ok (.iconst 0, 1) := by decide +kernel
theorem dX3_findFrom_50 : decode cX3_findFrom 50 = .ok (.istore_n 3, 1) := by decide +kernel
theorem dX3_findFrom_51 : decode cX3_findFrom 51 = .ok (.iload_n 3, 1) := by decide +kernel
theorem dX3_findFrom_52 : decode cX3_findFrom 52 = .ok (.aload_n 1, 1) := by decide +kernel
theorem dX3_findFrom_53 : decode cX3_findFrom 53 = .ok (.getfield 22, 3) := by decide +kernel
theorem dX3_findFrom_56 : decode cX3_findFrom 56 = .ok (.if_icmp .ge 41, 3) := by decide +kernel
theorem dX3_findFrom_59 : decode cX3_findFrom 59 = .ok (.aload_n 0, 1) := by decide +kernel
theorem dX3_findFrom_60 : decode cX3_findFrom 60 = .ok (.aload_n 1, 1) := by decide +kernel
theorem dX3_findFrom_61 : decode cX3_findFrom 61 = .ok (.getfield 22, 3) := by decide +kernel
theorem dX3_findFrom_64 : decode cX3_findFrom 64 = .ok (.invokevirtual 28, 3) := by decide +kernel
theorem dX3_findFrom_67 : decode cX3_findFrom 67 = .ok (.istore 4, 2) := by decide +kernel
theorem dX3_findFrom_69 : decode cX3_findFrom 69 = .ok (.iload 4, 2) := by decide +kernel
theorem dX3_findFrom_71 : decode cX3_findFrom 71 = .ok (.iconst (-1), 1) := by decide +kernel
theorem dX3_findFrom_72 : decode cX3_findFrom 72 = .ok (.if_icmp .ne 4, 3) := by decide +kernel
theorem dX3_findFrom_75 : decode cX3_findFrom 75 = .ok (.return_, 1) := by decide +kernel
theorem dX3_findFrom_76 : decode cX3_findFrom 76 = .ok (.aload_n 0, 1) := by decide +kernel
theorem dX3_findFrom_77 : decode cX3_findFrom 77 = .ok (.getfield 18, 3) := by decide +kernel
theorem dX3_findFrom_80 : decode cX3_findFrom 80 = .ok (.iload 4, 2) := by decide +kernel
theorem dX3_findFrom_82 : decode cX3_findFrom 82 = .ok (.iconst 1, 1) := by decide +kernel
theorem dX3_findFrom_83 : decode cX3_findFrom 83 = .ok (.bastore, 1) := by decide +kernel
theorem dX3_findFrom_84 : decode cX3_findFrom 84 = .ok (.aload_n 0, 1) := by decide +kernel
theorem dX3_findFrom_85 : decode cX3_findFrom 85 = .ok (.aload_n 1, 1) := by decide +kernel
theorem dX3_findFrom_86 : decode cX3_findFrom 86 = .ok (.iload 4, 2) := by decide +kernel
theorem dX3_findFrom_88 : decode cX3_findFrom 88 = .ok (.invokevirtual 32, 3) := by decide +kernel
theorem dX3_findFrom_91 : decode cX3_findFrom 91 = .ok (.iinc 3 1, 3) := by decide +kernel
theorem dX3_findFrom_94 : decode cX3_findFrom 94 = .ok (.goto (-43), 3) := by decide +kernel
theorem dX3_findFrom_97 : decode cX3_findFrom 97 = .ok (.return_, 1) := by decide +kernel
theorem dX3_nearest_0 : decode cX3_nearest 0 = .ok (.iconst (-1), 1) := by decide +kernel
theorem dX3_nearest_1 : decode cX3_nearest 1 = .ok (.istore_n 2, 1) := by decide +kernel
theorem dX3_nearest_2 : decode cX3_nearest 2 = .ok (.iconst 0, 1) := by decide +kernel
theorem dX3_nearest_3 : decode cX3_nearest 3 = .ok (.istore_n 3, 1) := by decide +kernel
theorem dX3_nearest_4 : decode cX3_nearest 4 = .ok (.iload_n 3, 1) := by decide +kernel
theorem dX3_nearest_5 : decode cX3_nearest 5 = .ok (.iload_n 1, 1) := by decide +kernel
theorem dX3_nearest_6 : decode cX3_nearest 6 = .ok (.if_icmp .ge 67, 3) := by decide +kernel
theorem dX3_nearest_9 : decode cX3_nearest 9 = .ok (.aload_n 0, 1) := by decide +kernel
theorem dX3_nearest_10 : decode cX3_nearest 10 = .ok (.getfield 18, 3) := by decide +kernel
theorem dX3_nearest_13 : decode cX3_nearest 13 = .ok (.iload_n 3, 1) := by decide +kernel
theorem dX3_nearest_14 : decode cX3_nearest 14 = .ok (.baload, 1) := by decide +kernel
theorem dX3_nearest_15 : decode cX3_nearest 15 = .ok (.ifCond .ne 17, 3) := by decide +kernel
theorem dX3_nearest_18 : decode cX3_nearest 18 = .ok (.aload_n 0, 1) := by decide +kernel
theorem dX3_nearest_19 : decode cX3_nearest 19 = .ok (.getfield 9, 3) := by decide +kernel
theorem dX3_nearest_22 : decode cX3_nearest 22 = .ok (.iload_n 3, 1) := by decide +kernel
theorem dX3_nearest_23 : decode cX3_nearest 23 = .ok (.iaload, 1) := by decide +kernel
theorem dX3_nearest_24 : decode cX3_nearest 24 = .ok (.iconst (-1), 1) := by decide +kernel
theorem dX3_nearest_25 : decode cX3_nearest 25 = .ok (.if_icmp .eq 7, 3) := by decide +kernel
theorem dX3_nearest_28 : decode cX3_nearest 28 = .ok (.iconst 1, 1) := by decide +kernel
theorem dX3_nearest_29 : decode cX3_nearest 29 = .ok (.goto 4, 3) := by decide +kernel
theorem dX3_nearest_32 : decode cX3_nearest 32 = .ok (.iconst 0, 1) := by decide +kernel
theorem dX3_nearest_33 : decode cX3_nearest 33 = .ok (.istore 4, 2) := by decide +kernel
theorem dX3_nearest_35 : decode cX3_nearest 35 = .ok (.iload 4, 2) := by decide +kernel
theorem dX3_nearest_37 : decode cX3_nearest 37 = .ok (.ifCond .eq 30, 3) := by decide +kernel
theorem dX3_nearest_40 : decode cX3_nearest 40 = .ok (.iload_n 2, 1) := by decide +kernel
theorem dX3_nearest_41 : decode cX3_nearest 41 = .ok (.iconst (-1), 1) := by decide +kernel
theorem dX3_nearest_42 : decode cX3_nearest 42 = .ok (.if_icmp .eq 23, 3) := by decide +kernel
theorem dX3_nearest_45 : decode cX3_nearest 45 = .ok (.aload_n 0, 1) := by decide +kernel
theorem dX3_nearest_46 : decode cX3_nearest 46 = .ok (.aload_n 0, 1) := by decide +kernel
theorem dX3_nearest_47 : decode cX3_nearest 47 = .ok (.getfield 9, 3) := by decide +kernel
theorem dX3_nearest_50 : decode cX3_nearest 50 = .ok (.iload_n 3, 1) := by decide +kernel
theorem dX3_nearest_51 : decode cX3_nearest 51 = .ok (.iaload, 1) := by decide +kernel
theorem dX3_nearest_52 : decode cX3_nearest 52 = .ok (.aload_n 0, 1) := by decide +kernel
theorem dX3_nearest_53 : decode cX3_nearest 53 = .ok (.getfield 15, 3) := by decide +kernel
theorem dX3_nearest_56 : decode cX3_nearest 56 = .ok (.iload_n 3, 1) := by decide +kernel
theorem dX3_nearest_57 : decode cX3_nearest 57 = .ok (.iaload, 1) := by decide +kernel
theorem dX3_nearest_58 : decode cX3_nearest 58 = .ok (.iload_n 2, 1) := by decide +kernel
theorem dX3_nearest_59 : decode cX3_nearest 59 = .ok (.invokevirtual 36, 3) := by decide +kernel
theorem dX3_nearest_62 : decode cX3_nearest 62 = .ok (.ifCond .eq 5, 3) := by decide +kernel
theorem dX3_nearest_65 : decode cX3_nearest 65 = .ok (.iload_n 3, 1) := by decide +kernel
theorem dX3_nearest_66 : decode cX3_nearest 66 = .ok (.istore_n 2, 1) := by decide +kernel
theorem dX3_nearest_67 : decode cX3_nearest 67 = .ok (.iinc 3 1, 3) := by decide +kernel
theorem dX3_nearest_70 : decode cX3_nearest 70 = .ok (.goto (-66), 3) := by decide +kernel
theorem dX3_nearest_73 : decode cX3_nearest 73 = .ok (.iload_n 2, 1) := by decide +kernel
theorem dX3_nearest_74 : decode cX3_nearest 74 = .ok (.ireturn, 1) := by decide +kernel
theorem dX3_leadOn_0 : decode cX3_leadOn 0 = .ok (.iconst 0, 1) := by decide +kernel
theorem dX3_leadOn_1 : decode cX3_leadOn 1 = .ok (.istore_n 3, 1) := by decide +kernel
theorem dX3_leadOn_2 : decode cX3_leadOn 2 = .ok (.iload_n 3, 1) := by decide +kernel
theorem dX3_leadOn_3 : decode cX3_leadOn 3 = .ok (.aload_n 1, 1) := by decide +kernel
theorem dX3_leadOn_4 : decode cX3_leadOn 4 = .ok (.getfield 22, 3) := by decide +kernel
theorem dX3_leadOn_7 : decode cX3_leadOn 7 = .ok (.if_icmp .ge 93, 3) := by decide +kernel
theorem dX3_leadOn_10 : decode cX3_leadOn 10 = .ok (.aload_n 1, 1) := by decide +kernel
theorem dX3_leadOn_11 : decode cX3_leadOn 11 = .ok (.getfield 40, 3) := by decide +kernel
theorem dX3_leadOn_14 : decode cX3_leadOn 14 = .ok (.iload_n 2, 1) := by decide +kernel
theorem dX3_leadOn_15 : decode cX3_leadOn 15 = .ok (.aaload, 1) := by decide +kernel
theorem dX3_leadOn_16 : decode cX3_leadOn 16 = .ok (.iload_n 3, 1) := by decide +kernel
theorem dX3_leadOn_17 : decode cX3_leadOn 17 = .ok (.iaload, 1) := by decide +kernel
theorem dX3_leadOn_18 : decode cX3_leadOn 18 = .ok (.iconst (-1), 1) := by decide +kernel
theorem dX3_leadOn_19 : decode cX3_leadOn 19 = .ok (.if_icmp .eq 75, 3) := by decide +kernel
theorem dX3_leadOn_22 : decode cX3_leadOn 22 = .ok (.aload_n 0, 1) := by decide +kernel
theorem dX3_leadOn_23 : decode cX3_leadOn 23 = .ok (.getfield 9, 3) := by decide +kernel
theorem dX3_leadOn_26 : decode cX3_leadOn 26 = .ok (.iload_n 2, 1) := by decide +kernel
theorem dX3_leadOn_27 : decode cX3_leadOn 27 = .ok (.iaload, 1) := by decide +kernel
theorem dX3_leadOn_28 : decode cX3_leadOn 28 = .ok (.aload_n 1, 1) := by decide +kernel
theorem dX3_leadOn_29 : decode cX3_leadOn 29 = .ok (.getfield 43, 3) := by decide +kernel
theorem dX3_leadOn_32 : decode cX3_leadOn 32 = .ok (.iload_n 2, 1) := by decide +kernel
theorem dX3_leadOn_33 : decode cX3_leadOn 33 = .ok (.iaload, 1) := by decide +kernel
theorem dX3_leadOn_34 : decode cX3_leadOn 34 = .ok (.iadd, 1) := by decide +kernel
theorem dX3_leadOn_35 : decode cX3_leadOn 35 = .ok (.aload_n 1, 1) := by decide +kernel
theorem dX3_leadOn_36 : decode cX3_leadOn 36 = .ok (.getfield 40, 3) := by decide +kernel
theorem dX3_leadOn_39 : decode cX3_leadOn 39 = .ok (.iload_n 2, 1) := by decide +kernel
theorem dX3_leadOn_40 : decode cX3_leadOn 40 = .ok (.aaload, 1) := by decide +kernel
theorem dX3_leadOn_41 : decode cX3_leadOn 41 = .ok (.iload_n 3, 1) := by decide +kernel
theorem dX3_leadOn_42 : decode cX3_leadOn 42 = .ok (.iaload, 1) := by decide +kernel
theorem dX3_leadOn_43 : decode cX3_leadOn 43 = .ok (.iadd, 1) := by decide +kernel
theorem dX3_leadOn_44 : decode cX3_leadOn 44 = .ok (.istore 4, 2) := by decide +kernel
theorem dX3_leadOn_46 : decode cX3_leadOn 46 = .ok (.aload_n 0, 1) := by decide +kernel
theorem dX3_leadOn_47 : decode cX3_leadOn 47 = .ok (.getfield 15, 3) := by decide +kernel
theorem dX3_leadOn_50 : decode cX3_leadOn 50 = .ok (.iload_n 2, 1) := by decide +kernel
theorem dX3_leadOn_51 : decode cX3_leadOn 51 = .ok (.iaload, 1) := by decide +kernel
theorem dX3_leadOn_52 : decode cX3_leadOn 52 = .ok (.iconst 1, 1) := by decide +kernel
theorem dX3_leadOn_53 : decode cX3_leadOn 53 = .ok (.iadd, 1) := by decide +kernel
theorem dX3_leadOn_54 : decode cX3_leadOn 54 = .ok (.istore 5, 2) := by decide +kernel
theorem dX3_leadOn_56 : decode cX3_leadOn 56 = .ok (.aload_n 0, 1) := by decide +kernel
theorem dX3_leadOn_57 : decode cX3_leadOn 57 = .ok (.getfield 9, 3) := by decide +kernel
theorem dX3_leadOn_60 : decode cX3_leadOn 60 = .ok (.iload_n 3, 1) := by decide +kernel
theorem dX3_leadOn_61 : decode cX3_leadOn 61 = .ok (.iaload, 1) := by decide +kernel
theorem dX3_leadOn_62 : decode cX3_leadOn 62 = .ok (.iconst (-1), 1) := by decide +kernel
theorem dX3_leadOn_63 : decode cX3_leadOn 63 = .ok (.if_icmp .eq 15, 3) := by decide +kernel
theorem dX3_leadOn_66 : decode cX3_leadOn 66 = .ok (.aload_n 0, 1) := by decide +kernel
theorem dX3_leadOn_67 : decode cX3_leadOn 67 = .ok (.iload 4, 2) := by decide +kernel
theorem dX3_leadOn_69 : decode cX3_leadOn 69 = .ok (.iload 5, 2) := by decide +kernel
theorem dX3_leadOn_71 : decode cX3_leadOn 71 = .ok (.iload_n 3, 1) := by decide +kernel
theorem dX3_leadOn_72 : decode cX3_leadOn 72 = .ok (.invokevirtual 36, 3) := by decide +kernel
theorem dX3_leadOn_75 : decode cX3_leadOn 75 = .ok (.ifCond .eq 19, 3) := by decide +kernel
theorem dX3_leadOn_78 : decode cX3_leadOn 78 = .ok (.aload_n 0, 1) := by decide +kernel
theorem dX3_leadOn_79 : decode cX3_leadOn 79 = .ok (.getfield 9, 3) := by decide +kernel
theorem dX3_leadOn_82 : decode cX3_leadOn 82 = .ok (.iload_n 3, 1) := by decide +kernel
theorem dX3_leadOn_83 : decode cX3_leadOn 83 = .ok (.iload 4, 2) := by decide +kernel
theorem dX3_leadOn_85 : decode cX3_leadOn 85 = .ok (.iastore, 1) := by decide +kernel
theorem dX3_leadOn_86 : decode cX3_leadOn 86 = .ok (.aload_n 0, 1) := by decide +kernel
theorem dX3_leadOn_87 : decode cX3_leadOn 87 = .ok (.getfield 15, 3) := by decide +kernel
theorem dX3_leadOn_90 : decode cX3_leadOn 90 = .ok (.iload_n 3, 1) := by decide +kernel
theorem dX3_leadOn_91 : decode cX3_leadOn 91 = .ok (.iload 5, 2) := by decide +kernel
theorem dX3_leadOn_93 : decode cX3_leadOn 93 = .ok (.iastore, 1) := by decide +kernel
theorem dX3_leadOn_94 : decode cX3_leadOn 94 = .ok (.iinc 3 1, 3) := by decide +kernel
theorem dX3_leadOn_97 : decode cX3_leadOn 97 = .ok (.goto (-95), 3) := by decide +kernel
theorem dX3_leadOn_100 : decode cX3_leadOn 100 = .ok (.return_, 1) := by decide +kernel
theorem dX3_isBetter_0 : decode cX3_isBetter 0 = .ok (.iload_n 1, 1) := by decide +kernel
theorem dX3_isBetter_1 : decode cX3_isBetter 1 = .ok (.aload_n 0, 1) := by decide +kernel
theorem dX3_isBetter_2 : decode cX3_isBetter 2 = .ok (.getfield 9, 3) := by decide +kernel
theorem dX3_isBetter_5 : decode cX3_isBetter 5 = .ok (.iload_n 3, 1) := by decide +kernel
theorem dX3_isBetter_6 : decode cX3_isBetter 6 = .ok (.iaload, 1) := by decide +kernel
theorem dX3_isBetter_7 : decode cX3_isBetter 7 = .ok (.if_icmp .lt 23, 3) := by decide +kernel
theorem dX3_isBetter_10 : decode cX3_isBetter 10 = .ok (.iload_n 1, 1) := by decide +kernel
theorem dX3_isBetter_11 : decode cX3_isBetter 11 = .ok (.aload_n 0, 1) := by decide +kernel
theorem dX3_isBetter_12 : decode cX3_isBetter 12 = .ok (.getfield 9, 3) := by decide +kernel
theorem dX3_isBetter_15 : decode cX3_isBetter 15 = .ok (.iload_n 3, 1) := by decide +kernel
theorem dX3_isBetter_16 : decode cX3_isBetter 16 = .ok (.iaload, 1) := by decide +kernel
theorem dX3_isBetter_17 : decode cX3_isBetter 17 = .ok (.if_icmp .ne 17, 3) := by decide +kernel
theorem dX3_isBetter_20 : decode cX3_isBetter 20 = .ok (.iload_n 2, 1) := by decide +kernel
theorem dX3_isBetter_21 : decode cX3_isBetter 21 = .ok (.aload_n 0, 1) := by decide +kernel
theorem dX3_isBetter_22 : decode cX3_isBetter 22 = .ok (.getfield 15, 3) := by decide +kernel
theorem dX3_isBetter_25 : decode cX3_isBetter 25 = .ok (.iload_n 3, 1) := by decide +kernel
theorem dX3_isBetter_26 : decode cX3_isBetter 26 = .ok (.iaload, 1) := by decide +kernel
theorem dX3_isBetter_27 : decode cX3_isBetter 27 = .ok (.if_icmp .ge 7, 3) := by decide +kernel
theorem dX3_isBetter_30 : decode cX3_isBetter 30 = .ok (.iconst 1, 1) := by decide +kernel
theorem dX3_isBetter_31 : decode cX3_isBetter 31 = .ok (.goto 4, 3) := by decide +kernel
theorem dX3_isBetter_34 : decode cX3_isBetter 34 = .ok (.iconst 0, 1) := by decide +kernel
theorem dX3_isBetter_35 : decode cX3_isBetter 35 = .ok (.ireturn, 1) := by decide +kernel
theorem dX3_greatestHours_0 : decode cX3_greatestHours 0 = .ok (.iconst 0, 1) := by decide +kernel
theorem dX3_greatestHours_1 : decode cX3_greatestHours 1 = .ok (.istore_n 2, 1) := by decide +kernel
theorem dX3_greatestHours_2 : decode cX3_greatestHours 2 = .ok (.iconst 0, 1) := by decide +kernel
theorem dX3_greatestHours_3 : decode cX3_greatestHours 3 = .ok (.istore_n 3, 1) := by decide +kernel
theorem dX3_greatestHours_4 : decode cX3_greatestHours 4 = .ok (.iload_n 3, 1) := by decide +kernel
theorem dX3_greatestHours_5 : decode cX3_greatestHours 5 = .ok (.iload_n 1, 1) := by decide +kernel
theorem dX3_greatestHours_6 : decode cX3_greatestHours 6 = .ok (.if_icmp .ge 32, 3) := by decide +kernel
theorem dX3_greatestHours_9 : decode cX3_greatestHours 9 = .ok (.aload_n 0, 1) := by decide +kernel
theorem dX3_greatestHours_10 : decode cX3_greatestHours 10 = .ok (.getfield 9, 3) := by decide +kernel
theorem dX3_greatestHours_13 : decode cX3_greatestHours 13 = .ok (.iload_n 3, 1) := by decide +kernel
theorem dX3_greatestHours_14 : decode cX3_greatestHours 14 = .ok (.iaload, 1) := by decide +kernel
theorem dX3_greatestHours_15 : decode cX3_greatestHours 15 = .ok (.iconst (-1), 1) := by decide +kernel
theorem dX3_greatestHours_16 : decode cX3_greatestHours 16 = .ok (.if_icmp .ne 5, 3) := by decide +kernel
theorem dX3_greatestHours_19 : decode cX3_greatestHours 19 = .ok (.iconst (-1), 1) := by decide +kernel
theorem dX3_greatestHours_20 : decode cX3_greatestHours 20 = .ok (.ireturn, 1) := by decide +kernel
theorem dX3_greatestHours_21 : decode cX3_greatestHours 21 = .ok (.iload_n 2, 1) := by decide +kernel
theorem dX3_greatestHours_22 : decode cX3_greatestHours 22 = .ok (.aload_n 0, 1) := by decide +kernel
theorem dX3_greatestHours_23 : decode cX3_greatestHours 23 = .ok (.getfield 9, 3) := by decide +kernel
theorem dX3_greatestHours_26 : decode cX3_greatestHours 26 = .ok (.iload_n 3, 1) := by decide +kernel
theorem dX3_greatestHours_27 : decode cX3_greatestHours 27 = .ok (.iaload, 1) := by decide +kernel
theorem dX3_greatestHours_28 : decode cX3_greatestHours 28 = .ok (.invokestatic 46, 3) := by decide +kernel
theorem dX3_greatestHours_31 : decode cX3_greatestHours 31 = .ok (.istore_n 2, 1) := by decide +kernel
theorem dX3_greatestHours_32 : decode cX3_greatestHours 32 = .ok (.iinc 3 1, 3) := by decide +kernel
theorem dX3_greatestHours_35 : decode cX3_greatestHours 35 = .ok (.goto (-31), 3) := by decide +kernel
theorem dX3_greatestHours_38 : decode cX3_greatestHours 38 = .ok (.iload_n 2, 1) := by decide +kernel
theorem dX3_greatestHours_39 : decode cX3_greatestHours 39 = .ok (.ireturn, 1) := by decide +kernel
theorem dX3_leadBelow_0 : decode cX3_leadBelow 0 = .ok (.iconst 0, 1) := by decide +kernel
theorem dX3_leadBelow_1 : decode cX3_leadBelow 1 = .ok (.istore_n 2, 1) := by decide +kernel
theorem dX3_leadBelow_2 : decode cX3_leadBelow 2 = .ok (.iload_n 2, 1) := by decide +kernel
theorem dX3_leadBelow_3 : decode cX3_leadBelow 3 = .ok (.iload_n 1, 1) := by decide +kernel
theorem dX3_leadBelow_4 : decode cX3_leadBelow 4 = .ok (.if_icmp .ge 21, 3) := by decide +kernel
theorem dX3_leadBelow_7 : decode cX3_leadBelow 7 = .ok (.aload_n 0, 1) := by decide +kernel
theorem dX3_leadBelow_8 : decode cX3_leadBelow 8 = .ok (.getfield 9, 3) := by decide +kernel
theorem dX3_leadBelow_11 : decode cX3_leadBelow 11 = .ok (.iload_n 2, 1) := by decide +kernel
theorem dX3_leadBelow_12 : decode cX3_leadBelow 12 = .ok (.iaload, 1) := by decide +kernel
theorem dX3_leadBelow_13 : decode cX3_leadBelow 13 = .ok (.iconst (-1), 1) := by decide +kernel
theorem dX3_leadBelow_14 : decode cX3_leadBelow 14 = .ok (.if_icmp .eq 5, 3) := by decide +kernel
theorem dX3_leadBelow_17 : decode cX3_leadBelow 17 = .ok (.iconst 1, 1) := by decide +kernel
theorem dX3_leadBelow_18 : decode cX3_leadBelow 18 = .ok (.ireturn, 1) := by decide +kernel
theorem dX3_leadBelow_19 : decode cX3_leadBelow 19 = .ok (.iinc 2 1, 3) := by decide +kernel
theorem dX3_leadBelow_22 : decode cX3_leadBelow 22 = .ok (.goto (-20), 3) := by decide +kernel
theorem dX3_leadBelow_25 : decode cX3_leadBelow 25 = .ok (.iconst 0, 1) := by decide +kernel
theorem dX3_leadBelow_26 : decode cX3_leadBelow 26 = .ok (.ireturn, 1) := by decide +kernel
theorem dX4_init_0 : decode cX4_init 0 = .ok (.aload_n 0, 1) := by decide +kernel
theorem dX4_init_1 : decode cX4_init 1 = .ok (.invokespecial 1, 3) := by decide +kernel
theorem dX4_init_4 : decode cX4_init 4 = .ok (.aload_n 0, 1) := by decide +kernel
theorem dX4_init_5 : decode cX4_init 5 = .ok (.new 7, 3) := by decide +kernel
theorem dX4_init_8 : decode cX4_init 8 = .ok (.dup, 1) := by decide +kernel
theorem dX4_init_9 : decode cX4_init 9 = .ok (.invokespecial 9, 3) := by decide +kernel
theorem dX4_init_12 : decode cX4_init 12 = .ok (.putfield 10, 3) := by decide +kernel
theorem dX4_init_15 : decode cX4_init 15 = .ok (.aload_n 0, 1) := by decide +kernel
theorem dX4_init_16 : decode cX4_init 16 = .ok (.new 16, 3) := by decide +kernel
theorem dX4_init_19 : decode cX4_init 19 = .ok (.dup, 1) := by decide +kernel
theorem dX4_init_20 : decode cX4_init 20 = .ok (.invokespecial 18, 3) := by decide +kernel
theorem dX4_init_23 : decode cX4_init 23 = .ok (.putfield 19, 3) := by decide +kernel
theorem dX4_init_26 : decode cX4_init 26 = .ok (.aload_n 0, 1) := by decide +kernel
theorem dX4_init_27 : decode cX4_init 27 = .ok (.bipush 8, 2) := by decide +kernel
theorem dX4_init_29 : decode cX4_init 29 = .ok (.anewarray 23, 3) := by decide +kernel
theorem dX4_init_32 : decode cX4_init 32 = .ok (.putfield 25, 3) := by decide +kernel
theorem dX4_init_35 : decode cX4_init 35 = .ok (.aload_n 0, 1) := by decide +kernel
theorem dX4_init_36 : decode cX4_init 36 = .ok (.new 23, 3) := by decide +kernel
theorem dX4_init_39 : decode cX4_init 39 = .ok (.dup, 1) := by decide +kernel
theorem dX4_init_40 : decode cX4_init 40 = .ok (.invokespecial 29, 3) := by decide +kernel
theorem dX4_init_43 : decode cX4_init 43 = .ok (.putfield 30, 3) := by decide +kernel
theorem dX4_init_46 : decode cX4_init 46 = .ok (.aload_n 0, 1) := by decide +kernel
theorem dX4_init_47 : decode cX4_init 47 = .ok (.iconst 0, 1) := by decide +kernel
theorem dX4_init_48 : decode cX4_init 48 = .ok (.putfield 34, 3) := by decide +kernel
theorem dX4_init_51 : decode cX4_init 51 = .ok (.aload_n 0, 1) := by decide +kernel
theorem dX4_init_52 : decode cX4_init 52 = .ok (.iconst 0, 1) := by decide +kernel
theorem dX4_init_53 : decode cX4_init 53 = .ok (.putfield 38, 3) := by decide +kernel
theorem dX4_init_56 : decode cX4_init 56 = .ok (.iconst 0, 1) := by decide +kernel
theorem dX4_init_57 : decode cX4_init 57 = .ok (.istore_n 1, 1) := by decide +kernel
theorem dX4_init_58 : decode cX4_init 58 = .ok (.iload_n 1, 1) := by decide +kernel
theorem dX4_init_59 : decode cX4_init 59 = .ok (.bipush 8, 2) := by decide +kernel
theorem dX4_init_61 : decode cX4_init 61 = .ok (.if_icmp .ge 22, 3) := by decide +kernel
theorem dX4_init_64 : decode cX4_init 64 = .ok (.aload_n 0, 1) := by decide +kernel
theorem dX4_init_65 : decode cX4_init 65 = .ok (.getfield 25, 3) := by decide +kernel
theorem dX4_init_68 : decode cX4_init 68 = .ok (.iload_n 1, 1) := by decide +kernel
theorem dX4_init_69 : decode cX4_init 69 = .ok (.new 23, 3) := by decide +kernel
theorem dX4_init_72 : decode cX4_init 72 = .ok (.dup, 1) := by decide +kernel
theorem dX4_init_73 : decode cX4_init 73 = .ok (.invokespecial 29, 3) := by decide +kernel
theorem dX4_init_76 : decode cX4_init 76 = .ok (.aastore, 1) := by decide +kernel
theorem dX4_init_77 : decode cX4_init 77 = .ok (.iinc 1 1, 3) := by decide +kernel
theorem dX4_init_80 : decode cX4_init 80 = .ok (.goto (-22), 3) := by decide +kernel
theorem dX4_init_83 : decode cX4_init 83 = .ok (.return_, 1) := by decide +kernel
theorem dX4_build_0 : decode cX4_build 0 = .ok (.iload_n 1, 1) := by decide +kernel
theorem dX4_build_1 : decode cX4_build 1 = .ok (.iconst 2, 1) := by decide +kernel
theorem dX4_build_2 : decode cX4_build 2 = .ok (.bipush 12, 2) := by decide +kernel
theorem dX4_build_4 : decode cX4_build 4 = .ok (.invokestatic 41, 3) := by decide +kernel
theorem dX4_build_7 : decode cX4_build 7 = .ok (.aload_n 0, 1) := by decide +kernel
theorem dX4_build_8 : decode cX4_build 8 = .ok (.getfield 10, 3) := by decide +kernel
theorem dX4_build_11 : decode cX4_build 11 = .ok (.iload_n 1, 1) := by decide +kernel
theorem dX4_build_12 : decode cX4_build 12 = .ok (.invokevirtual 45, 3) := by decide +kernel
theorem dX4_build_15 : decode cX4_build 15 = .ok (.aload_n 0, 1) := by decide +kernel
theorem dX4_build_16 : decode cX4_build 16 = .ok (.iconst 0, 1) := by decide +kernel
theorem dX4_build_17 : decode cX4_build 17 = .ok (.putfield 34, 3) := by decide +kernel
theorem dX4_build_20 : decode cX4_build 20 = .ok (.iload_n 1, 1) := by decide +kernel
theorem dX4_build_21 : decode cX4_build 21 = .ok (.iconst 1, 1) := by decide +kernel
theorem dX4_build_22 : decode cX4_build 22 = .ok (.isub, 1) := by decide +kernel
theorem dX4_build_23 : decode cX4_build 23 = .ok (.ireturn, 1) := by decide +kernel
theorem dX4_setStay_0 : decode cX4_setStay 0 = .ok (.aload_n 0, 1) := by decide +kernel
theorem dX4_setStay_1 : decode cX4_setStay 1 = .ok (.iload_n 1, 1) := by decide +kernel
theorem dX4_setStay_2 : decode cX4_setStay 2 = .ok (.invokevirtual 49, 3) := by decide +kernel
theorem dX4_setStay_5 : decode cX4_setStay 5 = .ok (.iload_n 2, 1) := by decide +kernel
theorem dX4_setStay_6 : decode cX4_setStay 6 = .ok (.iconst 0, 1) := by decide +kernel
theorem dX4_setStay_7 : decode cX4_setStay 7 = .ok (.bipush 9, 2) := by decide +kernel
theorem dX4_setStay_9 : decode cX4_setStay 9 = .ok (.invokestatic 41, 3) := by decide +kernel
theorem dX4_setStay_12 : decode cX4_setStay 12 = .ok (.aload_n 0, 1) := by decide +kernel
theorem dX4_setStay_13 : decode cX4_setStay 13 = .ok (.getfield 10, 3) := by decide +kernel
theorem dX4_setStay_16 : decode cX4_setStay 16 = .ok (.getfield 52, 3) := by decide +kernel
theorem dX4_setStay_19 : decode cX4_setStay 19 = .ok (.iload_n 1, 1) := by decide +kernel
theorem dX4_setStay_20 : decode cX4_setStay 20 = .ok (.iaload, 1) := by decide +kernel
theorem dX4_setStay_21 : decode cX4_setStay 21 = .ok (.istore_n 3, 1) := by decide +kernel
theorem dX4_setStay_22 : decode cX4_setStay 22 = .ok (.aload_n 0, 1) := by decide +kernel
theorem dX4_setStay_23 : decode cX4_setStay 23 = .ok (.getfield 10, 3) := by decide +kernel
theorem dX4_setStay_26 : decode cX4_setStay 26 = .ok (.getfield 52, 3) := by decide +kernel
theorem dX4_setStay_29 : decode cX4_setStay 29 = .ok (.iload_n 1, 1) := by decide +kernel
theorem dX4_setStay_30 : decode cX4_setStay 30 = .ok (.iload_n 2, 1) := by decide +kernel
theorem dX4_setStay_31 : decode cX4_setStay 31 = .ok (.iastore, 1) := by decide +kernel
theorem dX4_setStay_32 : decode cX4_setStay 32 = .ok (.iload_n 3, 1) := by decide +kernel
theorem dX4_setStay_33 : decode cX4_setStay 33 = .ok (.ireturn, 1) := by decide +kernel
theorem dX4_setHeads_0 : decode cX4_setHeads 0 = .ok (.aload_n 0, 1) := by decide +kernel
theorem dX4_setHeads_1 : decode cX4_setHeads 1 = .ok (.iload_n 1, 1) := by decide +kernel
theorem dX4_setHeads_2 : decode cX4_setHeads 2 = .ok (.invokevirtual 49, 3) := by decide +kernel
theorem dX4_setHeads_5 : decode cX4_setHeads 5 = .ok (.iload_n 2, 1) := by decide +kernel
theorem dX4_setHeads_6 : decode cX4_setHeads 6 = .ok (.iconst 0, 1) := by decide +kernel
theorem dX4_setHeads_7 : decode cX4_setHeads 7 = .ok (.bipush 99, 2) := by decide +kernel
theorem dX4_setHeads_9 : decode cX4_setHeads 9 = .ok (.invokestatic 41, 3) := by decide +kernel
theorem dX4_setHeads_12 : decode cX4_setHeads 12 = .ok (.aload_n 0, 1) := by decide +kernel
theorem dX4_setHeads_13 : decode cX4_setHeads 13 = .ok (.getfield 10, 3) := by decide +kernel
theorem dX4_setHeads_16 : decode cX4_setHeads 16 = .ok (.getfield 56, 3) := by decide +kernel
theorem dX4_setHeads_19 : decode cX4_setHeads 19 = .ok (.iload_n 1, 1) := by decide +kernel
theorem dX4_setHeads_20 : decode cX4_setHeads 20 = .ok (.iaload, 1) := by decide +kernel
theorem dX4_setHeads_21 : decode cX4_setHeads 21 = .ok (.istore_n 3, 1) := by decide +kernel
theorem dX4_setHeads_22 : decode cX4_setHeads 22 = .ok (.aload_n 0, 1) := by decide +kernel
theorem dX4_setHeads_23 : decode cX4_setHeads 23 = .ok (.getfield 10, 3) := by decide +kernel
theorem dX4_setHeads_26 : decode cX4_setHeads 26 = .ok (.getfield 56, 3) := by decide +kernel
theorem dX4_setHeads_29 : decode cX4_setHeads 29 = .ok (.iload_n 1, 1) := by decide +kernel
theorem dX4_setHeads_30 : decode cX4_setHeads 30 = .ok (.iload_n 2, 1) := by decide +kernel
theorem dX4_setHeads_31 : decode cX4_setHeads 31 = .ok (.iastore, 1) := by decide +kernel
theorem dX4_setHeads_32 : decode cX4_setHeads 32 = .ok (.iload_n 3, 1) := by decide +kernel
theorem dX4_setHeads_33 : decode cX4_setHeads 33 = .ok (.ireturn, 1) := by decide +kernel
theorem dX4_setStairs_0 : decode cX4_setStairs 0 = .ok (.aload_n 0, 1) := by decide +kernel
theorem dX4_setStairs_1 : decode cX4_setStairs 1 = .ok (.iload_n 1, 1) := by decide +kernel
theorem dX4_setStairs_2 : decode cX4_setStairs 2 = .ok (.invokevirtual 59, 3) := by decide +kernel
theorem dX4_setStairs_5 : decode cX4_setStairs 5 = .ok (.iload_n 2, 1) := by decide +kernel
theorem dX4_setStairs_6 : decode cX4_setStairs 6 = .ok (.iconst 1, 1) := by decide +kernel
theorem dX4_setStairs_7 : decode cX4_setStairs 7 = .ok (.bipush 9, 2) := by decide +kernel
theorem dX4_setStairs_9 : decode cX4_setStairs 9 = .ok (.invokestatic 41, 3) := by decide +kernel
theorem dX4_setStairs_12 : decode cX4_setStairs 12 = .ok (.aload_n 0, 1) := by decide +kernel
theorem dX4_setStairs_13 : decode cX4_setStairs 13 = .ok (.getfield 10, 3) := by decide +kernel
theorem dX4_setStairs_16 : decode cX4_setStairs 16 = .ok (.getfield 62, 3) := by decide +kernel
theorem dX4_setStairs_19 : decode cX4_setStairs 19 = .ok (.iload_n 1, 1) := by decide +kernel
theorem dX4_setStairs_20 : decode cX4_setStairs 20 = .ok (.iaload, 1) := by decide +kernel
theorem dX4_setStairs_21 : decode cX4_setStairs 21 = .ok (.istore_n 3, 1) := by decide +kernel
theorem dX4_setStairs_22 : decode cX4_setStairs 22 = .ok (.aload_n 0, 1) := by decide +kernel
theorem dX4_setStairs_23 : decode cX4_setStairs 23 = .ok (.getfield 10, 3) := by decide +kernel
theorem dX4_setStairs_26 : decode cX4_setStairs 26 = .ok (.getfield 62, 3) := by decide +kernel
theorem dX4_setStairs_29 : decode cX4_setStairs 29 = .ok (.iload_n 1, 1) := by decide +kernel
theorem dX4_setStairs_30 : decode cX4_setStairs 30 = .ok (.iload_n 2, 1) := by decide +kernel
theorem dX4_setStairs_31 : decode cX4_setStairs 31 = .ok (.iastore, 1) := by decide +kernel
theorem dX4_setStairs_32 : decode cX4_setStairs 32 = .ok (.aload_n 0, 1) := by decide +kernel
theorem dX4_setStairs_33 : decode cX4_setStairs 33 = .ok (.getfield 10, 3) := by decide +kernel
theorem dX4_setStairs_36 : decode cX4_setStairs 36 = .ok (.invokevirtual 65, 3) := by decide +kernel
theorem dX4_setStairs_39 : decode cX4_setStairs 39 = .ok (.iload_n 3, 1) := by decide +kernel
theorem dX4_setStairs_40 : decode cX4_setStairs 40 = .ok (.ireturn, 1) := by decide +kernel
theorem dX4_turnStairs_0 : decode cX4_turnStairs 0 = .ok (.aload_n 0, 1) := by decide +kernel
theorem dX4_turnStairs_1 : decode cX4_turnStairs 1 = .ok (.iload_n 1, 1) := by decide +kernel
theorem dX4_turnStairs_2 : decode cX4_turnStairs 2 = .ok (.invokevirtual 59, 3) := by decide +kernel
theorem dX4_turnStairs_5 : decode cX4_turnStairs 5 = .ok (.aload_n 0, 1) := by decide +kernel
theorem dX4_turnStairs_6 : decode cX4_turnStairs 6 = .ok (.getfield 10, 3) := by decide +kernel
theorem dX4_turnStairs_9 : decode cX4_turnStairs 9 = .ok (.iload_n 1, 1) := by decide +kernel
theorem dX4_turnStairs_10 : decode cX4_turnStairs 10 = .ok (.aload_n 0, 1) := by decide +kernel
theorem dX4_turnStairs_11 : decode cX4_turnStairs 11 = .ok (.getfield 10, 3) := by decide +kernel
theorem dX4_turnStairs_14 : decode cX4_turnStairs 14 = .ok (.getfield 68, 3) := by decide +kernel
theorem dX4_turnStairs_17 : decode cX4_turnStairs 17 = .ok (.iload_n 1, 1) := by decide +kernel
theorem dX4_turnStairs_18 : decode cX4_turnStairs 18 = .ok (.baload, 1) := by decide +kernel
theorem dX4_turnStairs_19 : decode cX4_turnStairs 19 = .ok (.ifCond .ne 7, 3) := by decide +kernel
theorem dX4_turnStairs_22 : decode cX4_turnStairs 22 = .ok (.iconst 1, 1) := by decide +kernel
theorem dX4_turnStairs_23 : decode cX4_turnStairs 23 = .ok (.goto 4, 3) := by decide +kernel
theorem dX4_turnStairs_26 : decode cX4_turnStairs 26 = .ok (.iconst 0, 1) := by decide +kernel
theorem dX4_turnStairs_27 : decode cX4_turnStairs 27 = .ok (.invokevirtual 72, 3) := by decide +kernel
theorem dX4_turnStairs_30 : decode cX4_turnStairs 30 = .ok (.aload_n 0, 1) := by decide +kernel
theorem dX4_turnStairs_31 : decode cX4_turnStairs 31 = .ok (.getfield 10, 3) := by decide +kernel
theorem dX4_turnStairs_34 : decode cX4_turnStairs 34 = .ok (.getfield 68, 3) := by decide +kernel
theorem dX4_turnStairs_37 : decode cX4_turnStairs 37 = .ok (.iload_n 1, 1) := by decide +kernel
theorem dX4_turnStairs_38 : decode cX4_turnStairs 38 = .ok (.baload, 1) := by decide +kernel
theorem dX4_turnStairs_39 : decode cX4_turnStairs 39 = .ok (.ireturn, 1) := by decide +kernel
theorem dX4_addLift_0 : decode cX4_addLift 0 = .ok (.aload_n 0, 1) := by decide +kernel
theorem dX4_addLift_1 : decode cX4_addLift 1 = .ok (.iload_n 1, 1) := by decide +kernel
theorem dX4_addLift_2 : decode cX4_addLift 2 = .ok (.invokevirtual 49, 3) := by decide +kernel
theorem dX4_addLift_5 : decode cX4_addLift 5 = .ok (.aload_n 0, 1) := by decide +kernel
theorem dX4_addLift_6 : decode cX4_addLift 6 = .ok (.iload_n 2, 1) := by decide +kernel
theorem dX4_addLift_7 : decode cX4_addLift 7 = .ok (.invokevirtual 49, 3) := by decide +kernel
theorem dX4_addLift_10 : decode cX4_addLift 10 = .ok (.iload_n 3, 1) := by decide +kernel
theorem dX4_addLift_11 : decode cX4_addLift 11 = .ok (.iconst 1, 1) := by decide +kernel
theorem dX4_addLift_12 : decode cX4_addLift 12 = .ok (.iload_n 2, 1) := by decide +kernel
theorem dX4_addLift_13 : decode cX4_addLift 13 = .ok (.iload_n 1, 1) := by decide +kernel
theorem dX4_addLift_14 : decode cX4_addLift 14 = .ok (.isub, 1) := by decide +kernel
theorem dX4_addLift_15 : decode cX4_addLift 15 = .ok (.invokestatic 41, 3) := by decide +kernel
theorem dX4_addLift_18 : decode cX4_addLift 18 = .ok (.iload 4, 2) := by decide +kernel
theorem dX4_addLift_20 : decode cX4_addLift 20 = .ok (.iconst 1, 1) := by decide +kernel
theorem dX4_addLift_21 : decode cX4_addLift 21 = .ok (.bipush 9, 2) := by decide +kernel
theorem dX4_addLift_23 : decode cX4_addLift 23 = .ok (.invokestatic 41, 3) := by decide +kernel
theorem dX4_addLift_26 : decode cX4_addLift 26 = .ok (.aload_n 0, 1) := by decide +kernel
theorem dX4_addLift_27 : decode cX4_addLift 27 = .ok (.getfield 10, 3) := by decide +kernel
theorem dX4_addLift_30 : decode cX4_addLift 30 = .ok (.getfield 76, 3) := by decide +kernel
theorem dX4_addLift_33 : decode cX4_addLift 33 = .ok (.iconst 4, 1) := by decide +kernel
theorem dX4_addLift_34 : decode cX4_addLift 34 = .ok (.if_icmp .lt 13, 3) := by decide +kernel
theorem dX4_addLift_37 : decode cX4_addLift 37 = .ok (.new 79, 3) := by decide +kernel
theorem dX4_addLift_40 : decode cX4_addLift 40 = .ok (.dup, 1) := by decide +kernel
theorem dX4_addLift_41 : decode cX4_addLift 41 = .ok (.ldc 81, 2) := by decide +kernel
theorem dX4_addLift_43 : decode cX4_addLift 43 = .ok (.invokespecial 83, 3) := by decide +kernel
theorem dX4_addLift_46 : decode cX4_addLift 46 = .ok (.athrow, 1) := by decide +kernel
theorem dX4_addLift_47 : decode cX4_addLift 47 = .ok (.aload_n 0, 1) := by decide +kernel
theorem dX4_addLift_48 : decode cX4_addLift 48 = .ok (.getfield 10, 3) := by decide +kernel
theorem dX4_addLift_51 : decode cX4_addLift 51 = .ok (.iload_n 1, 1) := by decide +kernel
theorem dX4_addLift_52 : decode cX4_addLift 52 = .ok (.iload_n 2, 1) := by decide +kernel
theorem dX4_addLift_53 : decode cX4_addLift 53 = .ok (.iload_n 3, 1) := by decide +kernel
theorem dX4_addLift_54 : decode cX4_addLift 54 = .ok (.iload 4, 2) := by decide +kernel
theorem dX4_addLift_56 : decode cX4_addLift 56 = .ok (.invokevirtual 86, 3) := by decide +kernel
theorem dX4_addLift_59 : decode cX4_addLift 59 = .ok (.ireturn, 1) := by decide +kernel
theorem dX4_turnLift_0 : decode cX4_turnLift 0 = .ok (.aload_n 0, 1) := by decide +kernel
theorem dX4_turnLift_1 : decode cX4_turnLift 1 = .ok (.iload_n 1, 1) := by decide +kernel
theorem dX4_turnLift_2 : decode cX4_turnLift 2 = .ok (.invokevirtual 90, 3) := by decide +kernel
theorem dX4_turnLift_5 : decode cX4_turnLift 5 = .ok (.aload_n 0, 1) := by decide +kernel
theorem dX4_turnLift_6 : decode cX4_turnLift 6 = .ok (.getfield 10, 3) := by decide +kernel
theorem dX4_turnLift_9 : decode cX4_turnLift 9 = .ok (.iload_n 1, 1) := by decide +kernel
theorem dX4_turnLift_10 : decode cX4_turnLift 10 = .ok (.aload_n 0, 1) := by decide +kernel
theorem dX4_turnLift_11 : decode cX4_turnLift 11 = .ok (.getfield 10, 3) := by decide +kernel
theorem dX4_turnLift_14 : decode cX4_turnLift 14 = .ok (.getfield 93, 3) := by decide +kernel
theorem dX4_turnLift_17 : decode cX4_turnLift 17 = .ok (.iload_n 1, 1) := by decide +kernel
theorem dX4_turnLift_18 : decode cX4_turnLift 18 = .ok (.aaload, 1) := by decide +kernel
theorem dX4_turnLift_19 : decode cX4_turnLift 19 = .ok (.getfield 97, 3) := by decide +kernel
theorem dX4_turnLift_22 : decode cX4_turnLift 22 = .ok (.ifCond .ne 7, 3) := by decide +kernel
theorem dX4_turnLift_25 : decode cX4_turnLift 25 = .ok (.iconst 1, 1) := by decide +kernel
theorem dX4_turnLift_26 : decode cX4_turnLift 26 = .ok (.goto 4, 3) := by decide +kernel
theorem dX4_turnLift_29 : decode cX4_turnLift 29 = .ok (.iconst 0, 1) := by decide +kernel
theorem dX4_turnLift_30 : decode cX4_turnLift 30 = .ok (.invokevirtual 103, 3) := by decide +kernel
theorem dX4_turnLift_33 : decode cX4_turnLift 33 = .ok (.aload_n 0, 1) := by decide +kernel
theorem dX4_turnLift_34 : decode cX4_turnLift 34 = .ok (.getfield 10, 3) := by decide +kernel
theorem dX4_turnLift_37 : decode cX4_turnLift 37 = .ok (.getfield 93, 3) := by decide +kernel
theorem dX4_turnLift_40 : decode cX4_turnLift 40 = .ok (.iload_n 1, 1) := by decide +kernel
theorem dX4_turnLift_41 : decode cX4_turnLift 41 = .ok (.aaload, 1) := by decide +kernel
theorem dX4_turnLift_42 : decode cX4_turnLift 42 = .ok (.getfield 97, 3) := by decide +kernel
theorem dX4_turnLift_45 : decode cX4_turnLift 45 = .ok (.ireturn, 1) := by decide +kernel
theorem dX4_startRumour_0 : decode cX4_startRumour 0 = .ok (.aload_n 0, 1) := by decide +kernel
theorem dX4_startRumour_1 : decode cX4_startRumour 1 = .ok (.iload_n 1, 1) := by decide +kernel
theorem dX4_startRumour_2 : decode cX4_startRumour 2 = .ok (.invokevirtual 49, 3) := by decide +kernel
theorem dX4_startRumour_5 : decode cX4_startRumour 5 = .ok (.iload_n 2, 1) := by decide +kernel
theorem dX4_startRumour_6 : decode cX4_startRumour 6 = .ok (.iconst 1, 1) := by decide +kernel
theorem dX4_startRumour_7 : decode cX4_startRumour 7 = .ok (.bipush 20, 2) := by decide +kernel
theorem dX4_startRumour_9 : decode cX4_startRumour 9 = .ok (.invokestatic 41, 3) := by decide +kernel
theorem dX4_startRumour_12 : decode cX4_startRumour 12 = .ok (.aload_n 0, 1) := by decide +kernel
theorem dX4_startRumour_13 : decode cX4_startRumour 13 = .ok (.getfield 34, 3) := by decide +kernel
theorem dX4_startRumour_16 : decode cX4_startRumour 16 = .ok (.bipush 8, 2) := by decide +kernel
theorem dX4_startRumour_18 : decode cX4_startRumour 18 = .ok (.if_icmp .lt 13, 3) := by decide +kernel
theorem dX4_startRumour_21 : decode cX4_startRumour 21 = .ok (.new 79, 3) := by decide +kernel
theorem dX4_startRumour_24 : decode cX4_startRumour 24 = .ok (.dup, 1) := by decide +kernel
theorem dX4_startRumour_25 : decode cX4_startRumour 25 = .ok (.ldc 106, 2) := by decide +kernel
theorem dX4_startRumour_27 : decode cX4_startRumour 27 = .ok (.invokespecial 83, 3) := by decide +kernel
theorem dX4_startRumour_30 : decode cX4_startRumour 30 = .ok (.athrow, 1) := by decide +kernel
theorem dX4_startRumour_31 : decode cX4_startRumour 31 = .ok (.aload_n 0, 1) := by decide +kernel
theorem dX4_startRumour_32 : decode cX4_startRumour 32 = .ok (.getfield 34, 3) := by decide +kernel
theorem dX4_startRumour_35 : decode cX4_startRumour 35 = .ok (.istore_n 3, 1) := by decide +kernel
theorem dX4_startRumour_36 : decode cX4_startRumour 36 = .ok (.aload_n 0, 1) := by decide +kernel
theorem dX4_startRumour_37 : decode cX4_startRumour 37 = .ok (.getfield 25, 3) := by decide +kernel
theorem dX4_startRumour_40 : decode cX4_startRumour 40 = .ok (.iload_n 3, 1) := by decide +kernel
theorem dX4_startRumour_41 : decode cX4_startRumour 41 = .ok (.aaload, 1) := by decide +kernel
theorem dX4_startRumour_42 : decode cX4_startRumour 42 = .ok (.aload_n 0, 1) := by decide +kernel
theorem dX4_startRumour_43 : decode cX4_startRumour 43 = .ok (.getfield 10, 3) := by decide +kernel
theorem dX4_startRumour_46 : decode cX4_startRumour 46 = .ok (.iload_n 1, 1) := by decide +kernel
theorem dX4_startRumour_47 : decode cX4_startRumour 47 = .ok (.iload_n 2, 1) := by decide +kernel
theorem dX4_startRumour_48 : decode cX4_startRumour 48 = .ok (.aload_n 0, 1) := by decide +kernel
theorem dX4_startRumour_49 : decode cX4_startRumour 49 = .ok (.getfield 38, 3) := by decide +kernel
theorem dX4_startRumour_52 : decode cX4_startRumour 52 = .ok (.invokevirtual 108, 3) := by decide +kernel
theorem dX4_startRumour_55 : decode cX4_startRumour 55 = .ok (.aload_n 0, 1) := by decide +kernel
theorem dX4_startRumour_56 : decode cX4_startRumour 56 = .ok (.iload_n 3, 1) := by decide +kernel
theorem dX4_startRumour_57 : decode cX4_startRumour 57 = .ok (.iconst 1, 1) := by decide +kernel
theorem dX4_startRumour_58 : decode cX4_startRumour 58 = .ok (.iadd, 1) := by decide +kernel
theorem dX4_startRumour_59 : decode cX4_startRumour 59 = .ok (.putfield 34, 3) := by decide +kernel
theorem dX4_startRumour_62 : decode cX4_startRumour 62 = .ok (.iload_n 3, 1) := by decide +kernel
theorem dX4_startRumour_63 : decode cX4_startRumour 63 = .ok (.ireturn, 1) := by decide +kernel
theorem dX4_startDenial_0 : decode cX4_startDenial 0 = .ok (.aload_n 0, 1) := by decide +kernel
theorem dX4_startDenial_1 : decode cX4_startDenial 1 = .ok (.iload_n 1, 1) := by decide +kernel
theorem dX4_startDenial_2 : decode cX4_startDenial 2 = .ok (.invokevirtual 112, 3) := by decide +kernel
theorem dX4_startDenial_5 : decode cX4_startDenial 5 = .ok (.aload_n 0, 1) := by decide +kernel
theorem dX4_startDenial_6 : decode cX4_startDenial 6 = .ok (.iload_n 2, 1) := by decide +kernel
theorem dX4_startDenial_7 : decode cX4_startDenial 7 = .ok (.invokevirtual 49, 3) := by decide +kernel
theorem dX4_startDenial_10 : decode cX4_startDenial 10 = .ok (.aload_n 0, 1) := by decide +kernel
theorem dX4_startDenial_11 : decode cX4_startDenial 11 = .ok (.getfield 25, 3) := by decide +kernel
theorem dX4_startDenial_14 : decode cX4_startDenial 14 = .ok (.iload_n 1, 1) := by decide +kernel
theorem dX4_startDenial_15 : decode cX4_startDenial 15 = .ok (.aaload, 1) := by decide +kernel
theorem dX4_startDenial_16 : decode cX4_startDenial 16 = .ok (.astore_n 3, 1) := by decide +kernel
theorem dX4_startDenial_17 : decode cX4_startDenial 17 = .ok (.aload_n 3, 1) := by decide +kernel
theorem dX4_startDenial_18 : decode cX4_startDenial 18 = .ok (.getfield 115, 3) := by decide +kernel
theorem dX4_startDenial_21 : decode cX4_startDenial 21 = .ok (.iload_n 2, 1) := by decide +kernel
theorem dX4_startDenial_22 : decode cX4_startDenial 22 = .ok (.iaload, 1) := by decide +kernel
theorem dX4_startDenial_23 : decode cX4_startDenial 23 = .ok (.iconst 2, 1) := by decide +kernel
theorem dX4_startDenial_24 : decode cX4_startDenial 24 = .ok (.if_icmp .ne 13, 3) := by decide +kernel
theorem dX4_startDenial_27 : decode cX4_startDenial 27 = .ok (.new 79, 3) := by decide +kernel
theorem dX4_startDenial_30 : decode cX4_startDenial 30 = .ok (.dup, 1) := by decide +kernel
theorem dX4_startDenial_31 : decode cX4_startDenial 31 = .ok (.ldc 118, 2) := by decide +kernel
theorem dX4_startDenial_33 : decode cX4_startDenial 33 = .ok (.invokespecial 83, 3) := by decide +kernel
theorem dX4_startDenial_36 : decode cX4_startDenial 36 = .ok (.athrow, 1) := by decide +kernel
theorem dX4_startDenial_37 : decode cX4_startDenial 37 = .ok (.aload_n 3, 1) := by decide +kernel
theorem dX4_startDenial_38 : decode cX4_startDenial 38 = .ok (.getfield 115, 3) := by decide +kernel
theorem dX4_startDenial_41 : decode cX4_startDenial 41 = .ok (.iload_n 2, 1) := by decide +kernel
theorem dX4_startDenial_42 : decode cX4_startDenial 42 = .ok (.iaload, 1) := by decide +kernel
theorem dX4_startDenial_43 : decode cX4_startDenial 43 = .ok (.iconst 1, 1) := by decide +kernel
theorem dX4_startDenial_44 : decode cX4_startDenial 44 = .ok (.if_icmp .ne 15, 3) := by decide +kernel
theorem dX4_startDenial_47 : decode cX4_startDenial 47 = .ok (.aload_n 0, 1) := by decide +kernel
theorem dX4_startDenial_48 : decode cX4_startDenial 48 = .ok (.getfield 10, 3) := by decide +kernel
theorem dX4_startDenial_51 : decode cX4_startDenial 51 = .ok (.getfield 56, 3) := by decide +kernel
theorem dX4_startDenial_54 : decode cX4_startDenial 54 = .ok (.iload_n 2, 1) := by decide +kernel
theorem dX4_startDenial_55 : decode cX4_startDenial 55 = .ok (.iaload, 1) := by decide +kernel
theorem dX4_startDenial_56 : decode cX4_startDenial 56 = .ok (.goto 4, 3) := by decide +kernel
theorem dX4_startDenial_59 : decode cX4_startDenial 59 = .ok (.iconst 0, 1) := by decide +kernel
theorem dX4_startDenial_60 : decode cX4_startDenial 60 = .ok (.istore 4, 2) := by decide +kernel
theorem dX4_startDenial_62 : decode cX4_startDenial 62 = .ok (.aload_n 3, 1) := by decide +kernel
theorem dX4_startDenial_63 : decode cX4_startDenial 63 = .ok (.aload_n 0, 1) := by decide +kernel
theorem dX4_startDenial_64 : decode cX4_startDenial 64 = .ok (.getfield 10, 3) := by decide +kernel
theorem dX4_startDenial_67 : decode cX4_startDenial 67 = .ok (.iload_n 2, 1) := by decide +kernel
theorem dX4_startDenial_68 : decode cX4_startDenial 68 = .ok (.aload_n 0, 1) := by decide +kernel
theorem dX4_startDenial_69 : decode cX4_startDenial 69 = .ok (.getfield 38, 3) := by decide +kernel
theorem dX4_startDenial_72 : decode cX4_startDenial 72 = .ok (.invokevirtual 120, 3) := by decide +kernel
theorem dX4_startDenial_75 : decode cX4_startDenial 75 = .ok (.iload 4, 2) := by decide +kernel
theorem dX4_startDenial_77 : decode cX4_startDenial 77 = .ok (.ireturn, 1) := by decide +kernel
theorem dX4_passHours_0 : decode cX4_passHours 0 = .ok (.iload_n 1, 1) := by decide +kernel
theorem dX4_passHours_1 : decode cX4_passHours 1 = .ok (.iconst 1, 1) := by decide +kernel
theorem dX4_passHours_2 : decode cX4_passHours 2 = .ok (.bipush 60, 2) := by decide +kernel
theorem dX4_passHours_4 : decode cX4_passHours 4 = .ok (.invokestatic 41, 3) := by decide +kernel
theorem dX4_passHours_7 : decode cX4_passHours 7 = .ok (.iconst 0, 1) := by decide +kernel
theorem dX4_passHours_8 : decode cX4_passHours 8 = .ok (.istore_n 2, 1) := by decide +kernel
theorem dX4_passHours_9 : decode cX4_passHours 9 = .ok (.iconst 0, 1) := by decide +kernel
theorem dX4_passHours_10 : decode cX4_passHours 10 = .ok (.istore_n 3, 1) := by decide +kernel
theorem dX4_passHours_11 : decode cX4_passHours 11 = .ok (.iload_n 3, 1) := by decide +kernel
theorem dX4_passHours_12 : decode cX4_passHours 12 = .ok (.iload_n 1, 1) := by decide +kernel
theorem dX4_passHours_13 : decode cX4_passHours 13 = .ok (.if_icmp .ge 58, 3) := by decide +kernel
theorem dX4_passHours_16 : decode cX4_passHours 16 = .ok (.iconst 0, 1) := by decide +kernel
theorem dX4_passHours_17 : decode cX4_passHours 17 = .ok (.istore 4, 2) := by decide +kernel
theorem dX4_passHours_19 : decode cX4_passHours 19 = .ok (.iload 4, 2) := by decide +kernel
theorem dX4_passHours_21 : decode cX4_passHours 21 = .ok (.aload_n 0, 1) := by decide +kernel
theorem dX4_passHours_22 : decode cX4_passHours 22 = .ok (.getfield 34, 3) := by decide +kernel
theorem dX4_passHours_25 : decode cX4_passHours 25 = .ok (.if_icmp .ge 30, 3) := by decide +kernel
theorem dX4_passHours_28 : decode cX4_passHours 28 = .ok (.iload_n 2, 1) := by decide +kernel
theorem dX4_passHours_29 : decode cX4_passHours 29 = .ok (.aload_n 0, 1) := by decide +kernel
theorem dX4_passHours_30 : decode cX4_passHours 30 = .ok (.getfield 25, 3) := by decide +kernel
theorem dX4_passHours_33 : decode cX4_passHours 33 = .ok (.iload 4, 2) := by decide +kernel
theorem dX4_passHours_35 : decode cX4_passHours 35 = .ok (.aaload, 1) := by decide +kernel
theorem dX4_passHours_36 : decode cX4_passHours 36 = .ok (.aload_n 0, 1) := by decide +kernel
theorem dX4_passHours_37 : decode cX4_passHours 37 = .ok (.getfield 10, 3) := by decide +kernel
theorem dX4_passHours_40 : decode cX4_passHours 40 = .ok (.aload_n 0, 1) := by decide +kernel
theorem dX4_passHours_41 : decode cX4_passHours 41 = .ok (.getfield 38, 3) := by decide +kernel
theorem dX4_passHours_44 : decode cX4_passHours 44 = .ok (.invokevirtual 124, 3) := by decide +kernel
theorem dX4_passHours_47 : decode cX4_passHours 47 = .ok (.iadd, 1) := by decide +kernel
theorem dX4_passHours_48 : decode cX4_passHours 48 = .ok (.istore_n 2, 1) := by decide +kernel
theorem dX4_passHours_49 : decode cX4_passHours 49 = .ok (.iinc 4 1, 3) := by decide +kernel
theorem dX4_passHours_52 : decode cX4_passHours 52 = .ok (.goto (-33), 3) := by decide +kernel
theorem dX4_passHours_55 : decode cX4_passHours 55 = .ok (.aload_n 0, 1) := by decide +kernel
theorem dX4_passHours_56 : decode cX4_passHours 56 = .ok (.dup, 1) := by decide +kernel
theorem dX4_passHours_57 : decode cX4_passHours 57 = .ok (.getfield 38, 3) := by decide +kernel
theorem dX4_passHours_60 : decode cX4_passHours 60 = .ok (.iconst 1, 1) := by decide +kernel
theorem dX4_passHours_61 : decode cX4_passHours 61 = .ok (.iadd, 1) := by decide +kernel
theorem dX4_passHours_62 : decode cX4_passHours 62 = .ok (.putfield 38, 3) := by decide +kernel
theorem dX4_passHours_65 : decode cX4_passHours 65 = .ok (.iinc 3 1, 3) := by decide +kernel
theorem dX4_passHours_68 : decode cX4_passHours 68 = .ok (.goto (-57), 3) := by decide +kernel
theorem dX4_passHours_71 : decode cX4_passHours 71 = .ok (.iload_n 2, 1) := by decide +kernel
theorem dX4_passHours_72 : decode cX4_passHours 72 = .ok (.ireturn, 1) := by decide +kernel
theorem dX4_floors_0 : decode cX4_floors 0 = .ok (.aload_n 0, 1) := by decide +kernel
theorem dX4_floors_1 : decode cX4_floors 1 = .ok (.getfield 10, 3) := by decide +kernel
theorem dX4_floors_4 : decode cX4_floors 4 = .ok (.getfield 128, 3) := by decide +kernel
theorem dX4_floors_7 : decode cX4_floors 7 = .ok (.ireturn, 1) := by decide +kernel
theorem dX4_hours_0 : decode cX4_hours 0 = .ok (.aload_n 0, 1) := by decide +kernel
theorem dX4_hours_1 : decode cX4_hours 1 = .ok (.getfield 38, 3) := by decide +kernel
theorem dX4_hours_4 : decode cX4_hours 4 = .ok (.ireturn, 1) := by decide +kernel
theorem dX4_lifts_0 : decode cX4_lifts 0 = .ok (.aload_n 0, 1) := by decide +kernel
theorem dX4_lifts_1 : decode cX4_lifts 1 = .ok (.getfield 10, 3) := by decide +kernel
theorem dX4_lifts_4 : decode cX4_lifts 4 = .ok (.getfield 76, 3) := by decide +kernel
theorem dX4_lifts_7 : decode cX4_lifts 7 = .ok (.ireturn, 1) := by decide +kernel
theorem dX4_rumours_0 : decode cX4_rumours 0 = .ok (.aload_n 0, 1) := by decide +kernel
theorem dX4_rumours_1 : decode cX4_rumours 1 = .ok (.getfield 34, 3) := by decide +kernel
theorem dX4_rumours_4 : decode cX4_rumours 4 = .ok (.ireturn, 1) := by decide +kernel
theorem dX4_headsOf_0 : decode cX4_headsOf 0 = .ok (.aload_n 0, 1) := by decide +kernel
theorem dX4_headsOf_1 : decode cX4_headsOf 1 = .ok (.iload_n 1, 1) := by decide +kernel
theorem dX4_headsOf_2 : decode cX4_headsOf 2 = .ok (.invokevirtual 49, 3) := by decide +kernel
theorem dX4_headsOf_5 : decode cX4_headsOf 5 = .ok (.aload_n 0, 1) := by decide +kernel
theorem dX4_headsOf_6 : decode cX4_headsOf 6 = .ok (.getfield 10, 3) := by decide +kernel
theorem dX4_headsOf_9 : decode cX4_headsOf 9 = .ok (.getfield 56, 3) := by decide +kernel
theorem dX4_headsOf_12 : decode cX4_headsOf 12 = .ok (.iload_n 1, 1) := by decide +kernel
theorem dX4_headsOf_13 : decode cX4_headsOf 13 = .ok (.iaload, 1) := by decide +kernel
theorem dX4_headsOf_14 : decode cX4_headsOf 14 = .ok (.ireturn, 1) := by decide +kernel
theorem dX4_stayOf_0 : decode cX4_stayOf 0 = .ok (.aload_n 0, 1) := by decide +kernel
theorem dX4_stayOf_1 : decode cX4_stayOf 1 = .ok (.iload_n 1, 1) := by decide +kernel
theorem dX4_stayOf_2 : decode cX4_stayOf 2 = .ok (.invokevirtual 49, 3) := by decide +kernel
theorem dX4_stayOf_5 : decode cX4_stayOf 5 = .ok (.aload_n 0, 1) := by decide +kernel
theorem dX4_stayOf_6 : decode cX4_stayOf 6 = .ok (.getfield 10, 3) := by decide +kernel
theorem dX4_stayOf_9 : decode cX4_stayOf 9 = .ok (.getfield 52, 3) := by decide +kernel
theorem dX4_stayOf_12 : decode cX4_stayOf 12 = .ok (.iload_n 1, 1) := by decide +kernel
theorem dX4_stayOf_13 : decode cX4_stayOf 13 = .ok (.iaload, 1) := by decide +kernel
theorem dX4_stayOf_14 : decode cX4_stayOf 14 = .ok (.ireturn, 1) := by decide +kernel
theorem dX4_stairsOf_0 : decode cX4_stairsOf 0 = .ok (.aload_n 0, 1) := by decide +kernel
theorem dX4_stairsOf_1 : decode cX4_stairsOf 1 = .ok (.iload_n 1, 1) := by decide +kernel
theorem dX4_stairsOf_2 : decode cX4_stairsOf 2 = .ok (.invokevirtual 59, 3) := by decide +kernel
theorem dX4_stairsOf_5 : decode cX4_stairsOf 5 = .ok (.aload_n 0, 1) := by decide +kernel
theorem dX4_stairsOf_6 : decode cX4_stairsOf 6 = .ok (.getfield 10, 3) := by decide +kernel
theorem dX4_stairsOf_9 : decode cX4_stairsOf 9 = .ok (.getfield 62, 3) := by decide +kernel
theorem dX4_stairsOf_12 : decode cX4_stairsOf 12 = .ok (.iload_n 1, 1) := by decide +kernel
theorem dX4_stairsOf_13 : decode cX4_stairsOf 13 = .ok (.iaload, 1) := by decide +kernel
theorem dX4_stairsOf_14 : decode cX4_stairsOf 14 = .ok (.ireturn, 1) := by decide +kernel
theorem dX4_isOpen_0 : decode cX4_isOpen 0 = .ok (.aload_n 0, 1) := by decide +kernel
theorem dX4_isOpen_1 : decode cX4_isOpen 1 = .ok (.iload_n 1, 1) := by decide +kernel
theorem dX4_isOpen_2 : decode cX4_isOpen 2 = .ok (.invokevirtual 59, 3) := by decide +kernel
theorem dX4_isOpen_5 : decode cX4_isOpen 5 = .ok (.aload_n 0, 1) := by decide +kernel
theorem dX4_isOpen_6 : decode cX4_isOpen 6 = .ok (.getfield 10, 3) := by decide +kernel
theorem dX4_isOpen_9 : decode cX4_isOpen 9 = .ok (.getfield 68, 3) := by decide +kernel
theorem dX4_isOpen_12 : decode cX4_isOpen 12 = .ok (.iload_n 1, 1) := by decide +kernel
theorem dX4_isOpen_13 : decode cX4_isOpen 13 = .ok (.baload, 1) := by decide +kernel
theorem dX4_isOpen_14 : decode cX4_isOpen 14 = .ok (.ireturn, 1) := by decide +kernel
theorem dX4_runs_0 : decode cX4_runs 0 = .ok (.aload_n 0, 1) := by decide +kernel
theorem dX4_runs_1 : decode cX4_runs 1 = .ok (.iload_n 1, 1) := by decide +kernel
theorem dX4_runs_2 : decode cX4_runs 2 = .ok (.invokevirtual 90, 3) := by decide +kernel
theorem dX4_runs_5 : decode cX4_runs 5 = .ok (.aload_n 0, 1) := by decide +kernel
theorem dX4_runs_6 : decode cX4_runs 6 = .ok (.getfield 10, 3) := by decide +kernel
theorem dX4_runs_9 : decode cX4_runs 9 = .ok (.getfield 93, 3) := by decide +kernel
theorem dX4_runs_12 : decode cX4_runs 12 = .ok (.iload_n 1, 1) := by decide +kernel
theorem dX4_runs_13 : decode cX4_runs 13 = .ok (.aaload, 1) := by decide +kernel
theorem dX4_runs_14 : decode cX4_runs 14 = .ok (.getfield 97, 3) := by decide +kernel
theorem dX4_runs_17 : decode cX4_runs 17 = .ok (.ireturn, 1) := by decide +kernel
theorem dX4_serves_0 : decode cX4_serves 0 = .ok (.aload_n 0, 1) := by decide +kernel
theorem dX4_serves_1 : decode cX4_serves 1 = .ok (.iload_n 1, 1) := by decide +kernel
theorem dX4_serves_2 : decode cX4_serves 2 = .ok (.invokevirtual 90, 3) := by decide +kernel
theorem dX4_serves_5 : decode cX4_serves 5 = .ok (.aload_n 0, 1) := by decide +kernel
theorem dX4_serves_6 : decode cX4_serves 6 = .ok (.iload_n 2, 1) := by decide +kernel
theorem dX4_serves_7 : decode cX4_serves 7 = .ok (.invokevirtual 49, 3) := by decide +kernel
theorem dX4_serves_10 : decode cX4_serves 10 = .ok (.aload_n 0, 1) := by decide +kernel
theorem dX4_serves_11 : decode cX4_serves 11 = .ok (.getfield 10, 3) := by decide +kernel
theorem dX4_serves_14 : decode cX4_serves 14 = .ok (.getfield 93, 3) := by decide +kernel
theorem dX4_serves_17 : decode cX4_serves 17 = .ok (.iload_n 1, 1) := by decide +kernel
theorem dX4_serves_18 : decode cX4_serves 18 = .ok (.aaload, 1) := by decide +kernel
theorem dX4_serves_19 : decode cX4_serves 19 = .ok (.getfield 131, 3) := by decide +kernel
theorem dX4_serves_22 : decode cX4_serves 22 = .ok (.iload_n 2, 1) := by decide +kernel
theorem dX4_serves_23 : decode cX4_serves 23 = .ok (.baload, 1) := by decide +kernel
theorem dX4_serves_24 : decode cX4_serves 24 = .ok (.ireturn, 1) := by decide +kernel
theorem dX4_pipe_0 : decode cX4_pipe 0 = .ok (.aload_n 0, 1) := by decide +kernel
theorem dX4_pipe_1 : decode cX4_pipe 1 = .ok (.iload_n 1, 1) := by decide +kernel
theorem dX4_pipe_2 : decode cX4_pipe 2 = .ok (.invokevirtual 49, 3) := by decide +kernel
theorem dX4_pipe_5 : decode cX4_pipe 5 = .ok (.aload_n 0, 1) := by decide +kernel
theorem dX4_pipe_6 : decode cX4_pipe 6 = .ok (.iload_n 2, 1) := by decide +kernel
theorem dX4_pipe_7 : decode cX4_pipe 7 = .ok (.invokevirtual 49, 3) := by decide +kernel
theorem dX4_pipe_10 : decode cX4_pipe 10 = .ok (.aload_n 0, 1) := by decide +kernel
theorem dX4_pipe_11 : decode cX4_pipe 11 = .ok (.getfield 10, 3) := by decide +kernel
theorem dX4_pipe_14 : decode cX4_pipe 14 = .ok (.getfield 134, 3) := by decide +kernel
theorem dX4_pipe_17 : decode cX4_pipe 17 = .ok (.iload_n 1, 1) := by decide +kernel
theorem dX4_pipe_18 : decode cX4_pipe 18 = .ok (.aaload, 1) := by decide +kernel
theorem dX4_pipe_19 : decode cX4_pipe 19 = .ok (.iload_n 2, 1) := by decide +kernel
theorem dX4_pipe_20 : decode cX4_pipe 20 = .ok (.iaload, 1) := by decide +kernel
theorem dX4_pipe_21 : decode cX4_pipe 21 = .ok (.ireturn, 1) := by decide +kernel
theorem dX4_neighbours_0 : decode cX4_neighbours 0 = .ok (.aload_n 0, 1) := by decide +kernel
theorem dX4_neighbours_1 : decode cX4_neighbours 1 = .ok (.iload_n 1, 1) := by decide +kernel
theorem dX4_neighbours_2 : decode cX4_neighbours 2 = .ok (.invokevirtual 49, 3) := by decide +kernel
theorem dX4_neighbours_5 : decode cX4_neighbours 5 = .ok (.iconst 0, 1) := by decide +kernel
theorem dX4_neighbours_6 : decode cX4_neighbours 6 = .ok (.istore_n 2, 1) := by decide +kernel
theorem dX4_neighbours_7 : decode cX4_neighbours 7 = .ok (.iconst 0, 1) := by decide +kernel
theorem dX4_neighbours_8 : decode cX4_neighbours 8 = .ok (.istore_n 3, 1) := by decide +kernel
theorem dX4_neighbours_9 : decode cX4_neighbours 9 = .ok (.iload_n 3, 1) := by decide +kernel
theorem dX4_neighbours_10 : decode cX4_neighbours 10 = .ok (.aload_n 0, 1) := by decide +kernel
theorem dX4_neighbours_11 : decode cX4_neighbours 11 = .ok (.getfield 10, 3) := by decide +kernel
theorem dX4_neighbours_14 : decode cX4_neighbours 14 = .ok (.getfield 128, 3) := by decide +kernel
theorem dX4_neighbours_17 : decode cX4_neighbours 17 = .ok (.if_icmp .ge 27, 3) := by decide +kernel
theorem dX4_neighbours_20 : decode cX4_neighbours 20 = .ok (.aload_n 0, 1) := by decide +kernel
theorem dX4_neighbours_21 : decode cX4_neighbours 21 = .ok (.getfield 10, 3) := by decide +kernel
theorem dX4_neighbours_24 : decode cX4_neighbours 24 = .ok (.getfield 134, 3) := by decide +kernel
theorem dX4_neighbours_27 : decode cX4_neighbours 27 = .ok (.iload_n 1, 1) := by decide +kernel
theorem dX4_neighbours_28 : decode cX4_neighbours 28 = .ok (.aaload, 1) := by decide +kernel
theorem dX4_neighbours_29 : decode cX4_neighbours 29 = .ok (.iload_n 3, 1) := by decide +kernel
theorem dX4_neighbours_30 : decode cX4_neighbours 30 = .ok (.iaload, 1) := by decide +kernel
theorem dX4_neighbours_31 : decode cX4_neighbours 31 = .ok (.iconst (-1), 1) := by decide +kernel
theorem dX4_neighbours_32 : decode cX4_neighbours 32 = .ok (.if_icmp .eq 6, 3) := by decide +kernel
theorem dX4_neighbours_35 : decode cX4_neighbours 35 = .ok (.iinc 2 1, 3) := by decide +kernel
theorem dX4_neighbours_38 : decode cX4_neighbours 38 = .ok (.iinc 3 1, 3) := by decide +kernel
theorem dX4_neighbours_41 : decode cX4_neighbours 41 = .ok (.goto (-32), 3) := by decide +kernel
theorem dX4_neighbours_44 : decode cX4_neighbours 44 = .ok (.iload_n 2, 1) := by decide +kernel
theorem dX4_neighbours_45 : decode cX4_neighbours 45 = .ok (.ireturn, 1) := by decide +kernel
theorem dX4_originOf_0 : decode cX4_originOf 0 = .ok (.aload_n 0, 1) := by decide +kernel
theorem dX4_originOf_1 : decode cX4_originOf 1 = .ok (.iload_n 1, 1) := by decide +kernel
theorem dX4_originOf_2 : decode cX4_originOf 2 = .ok (.invokevirtual 112, 3) := by decide +kernel
theorem dX4_originOf_5 : decode cX4_originOf 5 = .ok (.aload_n 0, 1) := by decide +kernel
theorem dX4_originOf_6 : decode cX4_originOf 6 = .ok (.getfield 25, 3) := by decide +kernel
theorem dX4_originOf_9 : decode cX4_originOf 9 = .ok (.iload_n 1, 1) := by decide +kernel
theorem dX4_originOf_10 : decode cX4_originOf 10 = .ok (.aaload, 1) := by decide +kernel
theorem dX4_originOf_11 : decode cX4_originOf 11 = .ok (.getfield 138, 3) := by decide +kernel
theorem dX4_originOf_14 : decode cX4_originOf 14 = .ok (.ireturn, 1) := by decide +kernel
theorem dX4_reachOf_0 : decode cX4_reachOf 0 = .ok (.aload_n 0, 1) := by decide +kernel
theorem dX4_reachOf_1 : decode cX4_reachOf 1 = .ok (.iload_n 1, 1) := by decide +kernel
theorem dX4_reachOf_2 : decode cX4_reachOf 2 = .ok (.invokevirtual 112, 3) := by decide +kernel
theorem dX4_reachOf_5 : decode cX4_reachOf 5 = .ok (.aload_n 0, 1) := by decide +kernel
theorem dX4_reachOf_6 : decode cX4_reachOf 6 = .ok (.getfield 25, 3) := by decide +kernel
theorem dX4_reachOf_9 : decode cX4_reachOf 9 = .ok (.iload_n 1, 1) := by decide +kernel
theorem dX4_reachOf_10 : decode cX4_reachOf 10 = .ok (.aaload, 1) := by decide +kernel
theorem dX4_reachOf_11 : decode cX4_reachOf 11 = .ok (.getfield 141, 3) := by decide +kernel
theorem dX4_reachOf_14 : decode cX4_reachOf 14 = .ok (.ireturn, 1) := by decide +kernel
theorem dX4_stateOf_0 : decode cX4_stateOf 0 = .ok (.aload_n 0, 1) := by decide +kernel
theorem dX4_stateOf_1 : decode cX4_stateOf 1 = .ok (.iload_n 1, 1) := by decide +kernel
theorem dX4_stateOf_2 : decode cX4_stateOf 2 = .ok (.invokevirtual 112, 3) := by decide +kernel
theorem dX4_stateOf_5 : decode cX4_stateOf 5 = .ok (.aload_n 0, 1) := by decide +kernel
theorem dX4_stateOf_6 : decode cX4_stateOf 6 = .ok (.iload_n 2, 1) := by decide +kernel
theorem dX4_stateOf_7 : decode cX4_stateOf 7 = .ok (.invokevirtual 49, 3) := by decide +kernel
theorem dX4_stateOf_10 : decode cX4_stateOf 10 = .ok (.aload_n 0, 1) := by decide +kernel
theorem dX4_stateOf_11 : decode cX4_stateOf 11 = .ok (.getfield 25, 3) := by decide +kernel
theorem dX4_stateOf_14 : decode cX4_stateOf 14 = .ok (.iload_n 1, 1) := by decide +kernel
theorem dX4_stateOf_15 : decode cX4_stateOf 15 = .ok (.aaload, 1) := by decide +kernel
theorem dX4_stateOf_16 : decode cX4_stateOf 16 = .ok (.getfield 115, 3) := by decide +kernel
theorem dX4_stateOf_19 : decode cX4_stateOf 19 = .ok (.iload_n 2, 1) := by decide +kernel
theorem dX4_stateOf_20 : decode cX4_stateOf 20 = .ok (.iaload, 1) := by decide +kernel
theorem dX4_stateOf_21 : decode cX4_stateOf 21 = .ok (.ireturn, 1) := by decide +kernel
theorem dX4_heardAt_0 : decode cX4_heardAt 0 = .ok (.aload_n 0, 1) := by decide +kernel
theorem dX4_heardAt_1 : decode cX4_heardAt 1 = .ok (.iload_n 1, 1) := by decide +kernel
theorem dX4_heardAt_2 : decode cX4_heardAt 2 = .ok (.invokevirtual 112, 3) := by decide +kernel
theorem dX4_heardAt_5 : decode cX4_heardAt 5 = .ok (.aload_n 0, 1) := by decide +kernel
theorem dX4_heardAt_6 : decode cX4_heardAt 6 = .ok (.iload_n 2, 1) := by decide +kernel
theorem dX4_heardAt_7 : decode cX4_heardAt 7 = .ok (.invokevirtual 49, 3) := by decide +kernel
theorem dX4_heardAt_10 : decode cX4_heardAt 10 = .ok (.aload_n 0, 1) := by decide +kernel
theorem dX4_heardAt_11 : decode cX4_heardAt 11 = .ok (.getfield 25, 3) := by decide +kernel
theorem dX4_heardAt_14 : decode cX4_heardAt 14 = .ok (.iload_n 1, 1) := by decide +kernel
theorem dX4_heardAt_15 : decode cX4_heardAt 15 = .ok (.aaload, 1) := by decide +kernel
theorem dX4_heardAt_16 : decode cX4_heardAt 16 = .ok (.getfield 144, 3) := by decide +kernel
theorem dX4_heardAt_19 : decode cX4_heardAt 19 = .ok (.iload_n 2, 1) := by decide +kernel
theorem dX4_heardAt_20 : decode cX4_heardAt 20 = .ok (.iaload, 1) := by decide +kernel
theorem dX4_heardAt_21 : decode cX4_heardAt 21 = .ok (.ireturn, 1) := by decide +kernel
theorem dX4_deniedAt_0 : decode cX4_deniedAt 0 = .ok (.aload_n 0, 1) := by decide +kernel
theorem dX4_deniedAt_1 : decode cX4_deniedAt 1 = .ok (.iload_n 1, 1) := by decide +kernel
theorem dX4_deniedAt_2 : decode cX4_deniedAt 2 = .ok (.invokevirtual 112, 3) := by decide +kernel
theorem dX4_deniedAt_5 : decode cX4_deniedAt 5 = .ok (.aload_n 0, 1) := by decide +kernel
theorem dX4_deniedAt_6 : decode cX4_deniedAt 6 = .ok (.iload_n 2, 1) := by decide +kernel
theorem dX4_deniedAt_7 : decode cX4_deniedAt 7 = .ok (.invokevirtual 49, 3) := by decide +kernel
theorem dX4_deniedAt_10 : decode cX4_deniedAt 10 = .ok (.aload_n 0, 1) := by decide +kernel
theorem dX4_deniedAt_11 : decode cX4_deniedAt 11 = .ok (.getfield 25, 3) := by decide +kernel
theorem dX4_deniedAt_14 : decode cX4_deniedAt 14 = .ok (.iload_n 1, 1) := by decide +kernel
theorem dX4_deniedAt_15 : decode cX4_deniedAt 15 = .ok (.aaload, 1) := by decide +kernel
theorem dX4_deniedAt_16 : decode cX4_deniedAt 16 = .ok (.getfield 147, 3) := by decide +kernel
theorem dX4_deniedAt_19 : decode cX4_deniedAt 19 = .ok (.iload_n 2, 1) := by decide +kernel
theorem dX4_deniedAt_20 : decode cX4_deniedAt 20 = .ok (.iaload, 1) := by decide +kernel
theorem dX4_deniedAt_21 : decode cX4_deniedAt 21 = .ok (.ireturn, 1) := by decide +kernel
theorem dX4_pipesTo_0 : decode cX4_pipesTo 0 = .ok (.aload_n 0, 1) := by decide +kernel
theorem dX4_pipesTo_1 : decode cX4_pipesTo 1 = .ok (.iload_n 1, 1) := by decide +kernel
theorem dX4_pipesTo_2 : decode cX4_pipesTo 2 = .ok (.invokevirtual 112, 3) := by decide +kernel
theorem dX4_pipesTo_5 : decode cX4_pipesTo 5 = .ok (.aload_n 0, 1) := by decide +kernel
theorem dX4_pipesTo_6 : decode cX4_pipesTo 6 = .ok (.iload_n 2, 1) := by decide +kernel
theorem dX4_pipesTo_7 : decode cX4_pipesTo 7 = .ok (.invokevirtual 49, 3) := by decide +kernel
theorem dX4_pipesTo_10 : decode cX4_pipesTo 10 = .ok (.aload_n 0, 1) := by decide +kernel
theorem dX4_pipesTo_11 : decode cX4_pipesTo 11 = .ok (.getfield 25, 3) := by decide +kernel
theorem dX4_pipesTo_14 : decode cX4_pipesTo 14 = .ok (.iload_n 1, 1) := by decide +kernel
theorem dX4_pipesTo_15 : decode cX4_pipesTo 15 = .ok (.aaload, 1) := by decide +kernel
theorem dX4_pipesTo_16 : decode cX4_pipesTo 16 = .ok (.getfield 150, 3) := by decide +kernel
theorem dX4_pipesTo_19 : decode cX4_pipesTo 19 = .ok (.iload_n 2, 1) := by decide +kernel
theorem dX4_pipesTo_20 : decode cX4_pipesTo 20 = .ok (.iaload, 1) := by decide +kernel
theorem dX4_pipesTo_21 : decode cX4_pipesTo 21 = .ok (.ireturn, 1) := by decide +kernel
theorem dX4_believers_0 : decode cX4_believers 0 = .ok (.aload_n 0, 1) := by decide +kernel
theorem dX4_believers_1 : decode cX4_believers 1 = .ok (.iload_n 1, 1) := by decide +kernel
theorem dX4_believers_2 : decode cX4_believers 2 = .ok (.invokevirtual 112, 3) := by decide +kernel
theorem dX4_believers_5 : decode cX4_believers 5 = .ok (.aload_n 0, 1) := by decide +kernel
theorem dX4_believers_6 : decode cX4_believers 6 = .ok (.getfield 25, 3) := by decide +kernel
theorem dX4_believers_9 : decode cX4_believers 9 = .ok (.iload_n 1, 1) := by decide +kernel
theorem dX4_believers_10 : decode cX4_believers 10 = .ok (.aaload, 1) := by decide +kernel
theorem dX4_believers_11 : decode cX4_believers 11 = .ok (.aload_n 0, 1) := by decide +kernel
theorem dX4_believers_12 : decode cX4_believers 12 = .ok (.getfield 10, 3) := by decide +kernel
theorem dX4_believers_15 : decode cX4_believers 15 = .ok (.invokevirtual 153, 3) := by decide +kernel
theorem dX4_believers_18 : decode cX4_believers 18 = .ok (.ireturn, 1) := by decide +kernel
theorem dX4_reached_0 : decode cX4_reached 0 = .ok (.aload_n 0, 1) := by decide +kernel
theorem dX4_reached_1 : decode cX4_reached 1 = .ok (.iload_n 1, 1) := by decide +kernel
theorem dX4_reached_2 : decode cX4_reached 2 = .ok (.invokevirtual 112, 3) := by decide +kernel
theorem dX4_reached_5 : decode cX4_reached 5 = .ok (.iconst 0, 1) := by decide +kernel
theorem dX4_reached_6 : decode cX4_reached 6 = .ok (.istore_n 2, 1) := by decide +kernel
theorem dX4_reached_7 : decode cX4_reached 7 = .ok (.iconst 0, 1) := by decide +kernel
theorem dX4_reached_8 : decode cX4_reached 8 = .ok (.istore_n 3, 1) := by decide +kernel
theorem dX4_reached_9 : decode cX4_reached 9 = .ok (.iload_n 3, 1) := by decide +kernel
theorem dX4_reached_10 : decode cX4_reached 10 = .ok (.aload_n 0, 1) := by decide +kernel
theorem dX4_reached_11 : decode cX4_reached 11 = .ok (.getfield 10, 3) := by decide +kernel
theorem dX4_reached_14 : decode cX4_reached 14 = .ok (.getfield 128, 3) := by decide +kernel
theorem dX4_reached_17 : decode cX4_reached 17 = .ok (.if_icmp .ge 27, 3) := by decide +kernel
theorem dX4_reached_20 : decode cX4_reached 20 = .ok (.aload_n 0, 1) := by decide +kernel
theorem dX4_reached_21 : decode cX4_reached 21 = .ok (.getfield 25, 3) := by decide +kernel
theorem dX4_reached_24 : decode cX4_reached 24 = .ok (.iload_n 1, 1) := by decide +kernel
theorem dX4_reached_25 : decode cX4_reached 25 = .ok (.aaload, 1) := by decide +kernel
theorem dX4_reached_26 : decode cX4_reached 26 = .ok (.getfield 144, 3) := by decide +kernel
theorem dX4_reached_29 : decode cX4_reached 29 = .ok (.iload_n 3, 1) := by decide +kernel
theorem dX4_reached_30 : decode cX4_reached 30 = .ok (.iaload, 1) := by decide +kernel
theorem dX4_reached_31 : decode cX4_reached 31 = .ok (.iconst (-1), 1) := by decide +kernel
theorem dX4_reached_32 : decode cX4_reached 32 = .ok (.if_icmp .eq 6, 3) := by decide +kernel
theorem dX4_reached_35 : decode cX4_reached 35 = .ok (.iinc 2 1, 3) := by decide +kernel
theorem dX4_reached_38 : decode cX4_reached 38 = .ok (.iinc 3 1, 3) := by decide +kernel
theorem dX4_reached_41 : decode cX4_reached 41 = .ok (.goto (-32), 3) := by decide +kernel
theorem dX4_reached_44 : decode cX4_reached 44 = .ok (.iload_n 2, 1) := by decide +kernel
theorem dX4_reached_45 : decode cX4_reached 45 = .ok (.ireturn, 1) := by decide +kernel
theorem dX4_underWay_0 : decode cX4_underWay 0 = .ok (.aload_n 0, 1) := by decide +kernel
theorem dX4_underWay_1 : decode cX4_underWay 1 = .ok (.iload_n 1, 1) := by decide +kernel
theorem dX4_underWay_2 : decode cX4_underWay 2 = .ok (.invokevirtual 112, 3) := by decide +kernel
theorem dX4_underWay_5 : decode cX4_underWay 5 = .ok (.iconst 0, 1) := by decide +kernel
theorem dX4_underWay_6 : decode cX4_underWay 6 = .ok (.istore_n 2, 1) := by decide +kernel
theorem dX4_underWay_7 : decode cX4_underWay 7 = .ok (.iconst 0, 1) := by decide +kernel
theorem dX4_underWay_8 : decode cX4_underWay 8 = .ok (.istore_n 3, 1) := by decide +kernel
theorem dX4_underWay_9 : decode cX4_underWay 9 = .ok (.iload_n 3, 1) := by decide +kernel
theorem dX4_underWay_10 : decode cX4_underWay 10 = .ok (.aload_n 0, 1) := by decide +kernel
theorem dX4_underWay_11 : decode cX4_underWay 11 = .ok (.getfield 10, 3) := by decide +kernel
theorem dX4_underWay_14 : decode cX4_underWay 14 = .ok (.getfield 128, 3) := by decide +kernel
theorem dX4_underWay_17 : decode cX4_underWay 17 = .ok (.if_icmp .ge 25, 3) := by decide +kernel
theorem dX4_underWay_20 : decode cX4_underWay 20 = .ok (.aload_n 0, 1) := by decide +kernel
theorem dX4_underWay_21 : decode cX4_underWay 21 = .ok (.getfield 25, 3) := by decide +kernel
theorem dX4_underWay_24 : decode cX4_underWay 24 = .ok (.iload_n 1, 1) := by decide +kernel
theorem dX4_underWay_25 : decode cX4_underWay 25 = .ok (.aaload, 1) := by decide +kernel
theorem dX4_underWay_26 : decode cX4_underWay 26 = .ok (.iload_n 3, 1) := by decide +kernel
theorem dX4_underWay_27 : decode cX4_underWay 27 = .ok (.invokevirtual 157, 3) := by decide +kernel
theorem dX4_underWay_30 : decode cX4_underWay 30 = .ok (.ifCond .eq 6, 3) := by decide +kernel
theorem dX4_underWay_33 : decode cX4_underWay 33 = .ok (.iinc 2 1, 3) := by decide +kernel
theorem dX4_underWay_36 : decode cX4_underWay 36 = .ok (.iinc 3 1, 3) := by decide +kernel
theorem dX4_underWay_39 : decode cX4_underWay 39 = .ok (.goto (-30), 3) := by decide +kernel
theorem dX4_underWay_42 : decode cX4_underWay 42 = .ok (.iload_n 2, 1) := by decide +kernel
theorem dX4_underWay_43 : decode cX4_underWay 43 = .ok (.ireturn, 1) := by decide +kernel
theorem dX4_quickest_0 : decode cX4_quickest 0 = .ok (.aload_n 0, 1) := by decide +kernel
theorem dX4_quickest_1 : decode cX4_quickest 1 = .ok (.iload_n 1, 1) := by decide +kernel
theorem dX4_quickest_2 : decode cX4_quickest 2 = .ok (.invokevirtual 49, 3) := by decide +kernel
theorem dX4_quickest_5 : decode cX4_quickest 5 = .ok (.aload_n 0, 1) := by decide +kernel
theorem dX4_quickest_6 : decode cX4_quickest 6 = .ok (.iload_n 2, 1) := by decide +kernel
theorem dX4_quickest_7 : decode cX4_quickest 7 = .ok (.invokevirtual 49, 3) := by decide +kernel
theorem dX4_quickest_10 : decode cX4_quickest 10 = .ok (.aload_n 0, 1) := by decide +kernel
theorem dX4_quickest_11 : decode cX4_quickest 11 = .ok (.getfield 19, 3) := by decide +kernel
theorem dX4_quickest_14 : decode cX4_quickest 14 = .ok (.aload_n 0, 1) := by decide +kernel
theorem dX4_quickest_15 : decode cX4_quickest 15 = .ok (.getfield 10, 3) := by decide +kernel
theorem dX4_quickest_18 : decode cX4_quickest 18 = .ok (.iload_n 1, 1) := by decide +kernel
theorem dX4_quickest_19 : decode cX4_quickest 19 = .ok (.invokevirtual 161, 3) := by decide +kernel
theorem dX4_quickest_22 : decode cX4_quickest 22 = .ok (.aload_n 0, 1) := by decide +kernel
theorem dX4_quickest_23 : decode cX4_quickest 23 = .ok (.getfield 19, 3) := by decide +kernel
theorem dX4_quickest_26 : decode cX4_quickest 26 = .ok (.getfield 165, 3) := by decide +kernel
theorem dX4_quickest_29 : decode cX4_quickest 29 = .ok (.iload_n 2, 1) := by decide +kernel
theorem dX4_quickest_30 : decode cX4_quickest 30 = .ok (.iaload, 1) := by decide +kernel
theorem dX4_quickest_31 : decode cX4_quickest 31 = .ok (.ireturn, 1) := by decide +kernel
theorem dX4_pipesBetween_0 : decode cX4_pipesBetween 0 = .ok (.aload_n 0, 1) := by decide +kernel
theorem dX4_pipesBetween_1 : decode cX4_pipesBetween 1 = .ok (.iload_n 1, 1) := by decide +kernel
theorem dX4_pipesBetween_2 : decode cX4_pipesBetween 2 = .ok (.invokevirtual 49, 3) := by decide +kernel
theorem dX4_pipesBetween_5 : decode cX4_pipesBetween 5 = .ok (.aload_n 0, 1) := by decide +kernel
theorem dX4_pipesBetween_6 : decode cX4_pipesBetween 6 = .ok (.iload_n 2, 1) := by decide +kernel
theorem dX4_pipesBetween_7 : decode cX4_pipesBetween 7 = .ok (.invokevirtual 49, 3) := by decide +kernel
theorem dX4_pipesBetween_10 : decode cX4_pipesBetween 10 = .ok (.aload_n 0, 1) := by decide +kernel
theorem dX4_pipesBetween_11 : decode cX4_pipesBetween 11 = .ok (.getfield 19, 3) := by decide +kernel
theorem dX4_pipesBetween_14 : decode cX4_pipesBetween 14 = .ok (.aload_n 0, 1) := by decide +kernel
theorem dX4_pipesBetween_15 : decode cX4_pipesBetween 15 = .ok (.getfield 10, 3) := by decide +kernel
theorem dX4_pipesBetween_18 : decode cX4_pipesBetween 18 = .ok (.iload_n 1, 1) := by decide +kernel
theorem dX4_pipesBetween_19 : decode cX4_pipesBetween 19 = .ok (.invokevirtual 161, 3) := by decide +kernel
theorem dX4_pipesBetween_22 : decode cX4_pipesBetween 22 = .ok (.aload_n 0, 1) := by decide +kernel
theorem dX4_pipesBetween_23 : decode cX4_pipesBetween 23 = .ok (.getfield 19, 3) := by decide +kernel
theorem dX4_pipesBetween_26 : decode cX4_pipesBetween 26 = .ok (.getfield 168, 3) := by decide +kernel
theorem dX4_pipesBetween_29 : decode cX4_pipesBetween 29 = .ok (.iload_n 2, 1) := by decide +kernel
theorem dX4_pipesBetween_30 : decode cX4_pipesBetween 30 = .ok (.iaload, 1) := by decide +kernel
theorem dX4_pipesBetween_31 : decode cX4_pipesBetween 31 = .ok (.ireturn, 1) := by decide +kernel
theorem dX4_farthestFrom_0 : decode cX4_farthestFrom 0 = .ok (.aload_n 0, 1) := by decide +kernel
theorem dX4_farthestFrom_1 : decode cX4_farthestFrom 1 = .ok (.iload_n 1, 1) := by decide +kernel
theorem dX4_farthestFrom_2 : decode cX4_farthestFrom 2 = .ok (.invokevirtual 49, 3) := by decide +kernel
theorem dX4_farthestFrom_5 : decode cX4_farthestFrom 5 = .ok (.aload_n 0, 1) := by decide +kernel
theorem dX4_farthestFrom_6 : decode cX4_farthestFrom 6 = .ok (.getfield 19, 3) := by decide +kernel
theorem dX4_farthestFrom_9 : decode cX4_farthestFrom 9 = .ok (.aload_n 0, 1) := by decide +kernel
theorem dX4_farthestFrom_10 : decode cX4_farthestFrom 10 = .ok (.getfield 10, 3) := by decide +kernel
theorem dX4_farthestFrom_13 : decode cX4_farthestFrom 13 = .ok (.iload_n 1, 1) := by decide +kernel
theorem dX4_farthestFrom_14 : decode cX4_farthestFrom 14 = .ok (.invokevirtual 161, 3) := by decide +kernel
theorem dX4_farthestFrom_17 : decode cX4_farthestFrom 17 = .ok (.iload_n 1, 1) := by decide +kernel
theorem dX4_farthestFrom_18 : decode cX4_farthestFrom 18 = .ok (.istore_n 2, 1) := by decide +kernel
theorem dX4_farthestFrom_19 : decode cX4_farthestFrom 19 = .ok (.iconst 0, 1) := by decide +kernel
theorem dX4_farthestFrom_20 : decode cX4_farthestFrom 20 = .ok (.istore_n 3, 1) := by decide +kernel
theorem dX4_farthestFrom_21 : decode cX4_farthestFrom 21 = .ok (.iload_n 3, 1) := by decide +kernel
theorem dX4_farthestFrom_22 : decode cX4_farthestFrom 22 = .ok (.aload_n 0, 1) := by decide +kernel
theorem dX4_farthestFrom_23 : decode cX4_farthestFrom 23 = .ok (.getfield 10, 3) := by decide +kernel
theorem dX4_farthestFrom_26 : decode cX4_farthestFrom 26 = .ok (.getfield 128, 3) := by decide +kernel
theorem dX4_farthestFrom_29 : decode cX4_farthestFrom 29 = .ok (.if_icmp .ge 32, 3) := by decide +kernel
theorem dX4_farthestFrom_32 : decode cX4_farthestFrom 32 = .ok (.aload_n 0, 1) := by decide +kernel
theorem dX4_farthestFrom_33 : decode cX4_farthestFrom 33 = .ok (.getfield 19, 3) := by decide +kernel
theorem dX4_farthestFrom_36 : decode cX4_farthestFrom 36 = .ok (.getfield 165, 3) := by decide +kernel
theorem dX4_farthestFrom_39 : decode cX4_farthestFrom 39 = .ok (.iload_n 3, 1) := by decide +kernel
theorem dX4_farthestFrom_40 : decode cX4_farthestFrom 40 = .ok (.iaload, 1) := by decide +kernel
theorem dX4_farthestFrom_41 : decode cX4_farthestFrom 41 = .ok (.aload_n 0, 1) := by decide +kernel
theorem dX4_farthestFrom_42 : decode cX4_farthestFrom 42 = .ok (.getfield 19, 3) := by decide +kernel
theorem dX4_farthestFrom_45 : decode cX4_farthestFrom 45 = .ok (.getfield 165, 3) := by decide +kernel
theorem dX4_farthestFrom_48 : decode cX4_farthestFrom 48 = .ok (.iload_n 2, 1) := by decide +kernel
theorem dX4_farthestFrom_49 : decode cX4_farthestFrom 49 = .ok (.iaload, 1) := by decide +kernel
theorem dX4_farthestFrom_50 : decode cX4_farthestFrom 50 = .ok (.if_icmp .le 5, 3) := by decide +kernel
theorem dX4_farthestFrom_53 : decode cX4_farthestFrom 53 = .ok (.iload_n 3, 1) := by decide +kernel
theorem dX4_farthestFrom_54 : decode cX4_farthestFrom 54 = .ok (.istore_n 2, 1) := by decide +kernel
theorem dX4_farthestFrom_55 : decode cX4_farthestFrom 55 = .ok (.iinc 3 1, 3) := by decide +kernel
theorem dX4_farthestFrom_58 : decode cX4_farthestFrom 58 = .ok (.goto (-37), 3) := by decide +kernel
theorem dX4_farthestFrom_61 : decode cX4_farthestFrom 61 = .ok (.iload_n 2, 1) := by decide +kernel
theorem dX4_farthestFrom_62 : decode cX4_farthestFrom 62 = .ok (.ireturn, 1) := by decide +kernel
theorem dX4_centre_0 : decode cX4_centre 0 = .ok (.iconst (-1), 1) := by decide +kernel
theorem dX4_centre_1 : decode cX4_centre 1 = .ok (.istore_n 1, 1) := by decide +kernel
theorem dX4_centre_2 : decode cX4_centre 2 = .ok (.iconst 0, 1) := by decide +kernel
theorem dX4_centre_3 : decode cX4_centre 3 = .ok (.istore_n 2, 1) := by decide +kernel
theorem dX4_centre_4 : decode cX4_centre 4 = .ok (.iconst 0, 1) := by decide +kernel
theorem dX4_centre_5 : decode cX4_centre 5 = .ok (.istore_n 3, 1) := by decide +kernel
theorem dX4_centre_6 : decode cX4_centre 6 = .ok (.iload_n 3, 1) := by decide +kernel
theorem dX4_centre_7 : decode cX4_centre 7 = .ok (.aload_n 0, 1) := by decide +kernel
theorem dX4_centre_8 : decode cX4_centre 8 = .ok (.getfield 10, 3) := by decide +kernel
theorem dX4_centre_11 : decode cX4_centre 11 = .ok (.getfield 128, 3) := by decide +kernel
theorem dX4_centre_14 : decode cX4_centre 14 = .ok (.if_icmp .ge 59, 3) := by decide +kernel
theorem dX4_centre_17 : decode cX4_centre 17 = .ok (.aload_n 0, 1) := by decide +kernel
theorem dX4_centre_18 : decode cX4_centre 18 = .ok (.getfield 19, 3) := by decide +kernel
theorem dX4_centre_21 : decode cX4_centre 21 = .ok (.aload_n 0, 1) := by decide +kernel
theorem dX4_centre_22 : decode cX4_centre 22 = .ok (.getfield 10, 3) := by decide +kernel
theorem dX4_centre_25 : decode cX4_centre 25 = .ok (.iload_n 3, 1) := by decide +kernel
theorem dX4_centre_26 : decode cX4_centre 26 = .ok (.invokevirtual 161, 3) := by decide +kernel
theorem dX4_centre_29 : decode cX4_centre 29 = .ok (.aload_n 0, 1) := by decide +kernel
theorem dX4_centre_30 : decode cX4_centre 30 = .ok (.getfield 19, 3) := by decide +kernel
theorem dX4_centre_33 : decode cX4_centre 33 = .ok (.aload_n 0, 1) := by decide +kernel
theorem dX4_centre_34 : decode cX4_centre 34 = .ok (.getfield 10, 3) := by decide +kernel
theorem dX4_centre_37 : decode cX4_centre 37 = .ok (.getfield 128, 3) := by decide +kernel
theorem dX4_centre_40 : decode cX4_centre 40 = .ok (.invokevirtual 170, 3) := by decide +kernel
theorem dX4_centre_43 : decode cX4_centre 43 = .ok (.istore 4, 2) := by decide +kernel
theorem dX4_centre_45 : decode cX4_centre 45 = .ok (.iload 4, 2) := by decide +kernel
theorem dX4_centre_47 : decode cX4_centre 47 = .ok (.iconst (-1), 1) := by decide +kernel
theorem dX4_centre_48 : decode cX4_centre 48 = .ok (.if_icmp .eq 19, 3) := by decide +kernel
theorem dX4_centre_51 : decode cX4_centre 51 = .ok (.iload_n 1, 1) := by decide +kernel
theorem dX4_centre_52 : decode cX4_centre 52 = .ok (.iconst (-1), 1) := by decide +kernel
theorem dX4_centre_53 : decode cX4_centre 53 = .ok (.if_icmp .eq 9, 3) := by decide +kernel
theorem dX4_centre_56 : decode cX4_centre 56 = .ok (.iload 4, 2) := by decide +kernel
theorem dX4_centre_58 : decode cX4_centre 58 = .ok (.iload_n 2, 1) := by decide +kernel
theorem dX4_centre_59 : decode cX4_centre 59 = .ok (.if_icmp .ge 8, 3) := by decide +kernel
theorem dX4_centre_62 : decode cX4_centre 62 = .ok (.iload_n 3, 1) := by decide +kernel
theorem dX4_centre_63 : decode cX4_centre 63 = .ok (.istore_n 1, 1) := by decide +kernel
theorem dX4_centre_64 : decode cX4_centre 64 = .ok (.iload 4, 2) := by decide +kernel
theorem dX4_centre_66 : decode cX4_centre 66 = .ok (.istore_n 2, 1) := by decide +kernel
theorem dX4_centre_67 : decode cX4_centre 67 = .ok (.iinc 3 1, 3) := by decide +kernel
theorem dX4_centre_70 : decode cX4_centre 70 = .ok (.goto (-64), 3) := by decide +kernel
theorem dX4_centre_73 : decode cX4_centre 73 = .ok (.iload_n 1, 1) := by decide +kernel
theorem dX4_centre_74 : decode cX4_centre 74 = .ok (.iconst (-1), 1) := by decide +kernel
theorem dX4_centre_75 : decode cX4_centre 75 = .ok (.if_icmp .ne 7, 3) := by decide +kernel
theorem dX4_centre_78 : decode cX4_centre 78 = .ok (.iconst 0, 1) := by decide +kernel
theorem dX4_centre_79 : decode cX4_centre 79 = .ok (.goto 4, 3) := by decide +kernel
theorem dX4_centre_82 : decode cX4_centre 82 = .ok (.iload_n 1, 1) := by decide +kernel
theorem dX4_centre_83 : decode cX4_centre 83 = .ok (.ireturn, 1) := by decide +kernel
theorem dX4_parts_0 : decode cX4_parts 0 = .ok (.iconst 0, 1) := by decide +kernel
theorem dX4_parts_1 : decode cX4_parts 1 = .ok (.istore_n 1, 1) := by decide +kernel
theorem dX4_parts_2 : decode cX4_parts 2 = .ok (.iconst 0, 1) := by decide +kernel
theorem dX4_parts_3 : decode cX4_parts 3 = .ok (.istore_n 2, 1) := by decide +kernel
theorem dX4_parts_4 : decode cX4_parts 4 = .ok (.iload_n 2, 1) := by decide +kernel
theorem dX4_parts_5 : decode cX4_parts 5 = .ok (.aload_n 0, 1) := by decide +kernel
theorem dX4_parts_6 : decode cX4_parts 6 = .ok (.getfield 10, 3) := by decide +kernel
theorem dX4_parts_9 : decode cX4_parts 9 = .ok (.getfield 128, 3) := by decide +kernel
theorem dX4_parts_12 : decode cX4_parts 12 = .ok (.if_icmp .ge 35, 3) := by decide +kernel
theorem dX4_parts_15 : decode cX4_parts 15 = .ok (.aload_n 0, 1) := by decide +kernel
theorem dX4_parts_16 : decode cX4_parts 16 = .ok (.getfield 19, 3) := by decide +kernel
theorem dX4_parts_19 : decode cX4_parts 19 = .ok (.aload_n 0, 1) := by decide +kernel
theorem dX4_parts_20 : decode cX4_parts 20 = .ok (.getfield 10, 3) := by decide +kernel
theorem dX4_parts_23 : decode cX4_parts 23 = .ok (.iload_n 2, 1) := by decide +kernel
theorem dX4_parts_24 : decode cX4_parts 24 = .ok (.invokevirtual 161, 3) := by decide +kernel
theorem dX4_parts_27 : decode cX4_parts 27 = .ok (.aload_n 0, 1) := by decide +kernel
theorem dX4_parts_28 : decode cX4_parts 28 = .ok (.getfield 19, 3) := by decide +kernel
theorem dX4_parts_31 : decode cX4_parts 31 = .ok (.iload_n 2, 1) := by decide +kernel
theorem dX4_parts_32 : decode cX4_parts 32 = .ok (.invokevirtual 174, 3) := by decide +kernel
theorem dX4_parts_35 : decode cX4_parts 35 = .ok (.ifCond .ne 6, 3) := by decide +kernel
theorem dX4_parts_38 : decode cX4_parts 38 = .ok (.iinc 1 1, 3) := by decide +kernel
theorem dX4_parts_41 : decode cX4_parts 41 = .ok (.iinc 2 1, 3) := by decide +kernel
theorem dX4_parts_44 : decode cX4_parts 44 = .ok (.goto (-40), 3) := by decide +kernel
theorem dX4_parts_47 : decode cX4_parts 47 = .ok (.iload_n 1, 1) := by decide +kernel
theorem dX4_parts_48 : decode cX4_parts 48 = .ok (.ireturn, 1) := by decide +kernel
theorem dX4_gainBy_0 : decode cX4_gainBy 0 = .ok (.aload_n 0, 1) := by decide +kernel
theorem dX4_gainBy_1 : decode cX4_gainBy 1 = .ok (.iload_n 1, 1) := by decide +kernel
theorem dX4_gainBy_2 : decode cX4_gainBy 2 = .ok (.invokevirtual 90, 3) := by decide +kernel
theorem dX4_gainBy_5 : decode cX4_gainBy 5 = .ok (.aload_n 0, 1) := by decide +kernel
theorem dX4_gainBy_6 : decode cX4_gainBy 6 = .ok (.iload_n 2, 1) := by decide +kernel
theorem dX4_gainBy_7 : decode cX4_gainBy 7 = .ok (.invokevirtual 49, 3) := by decide +kernel
theorem dX4_gainBy_10 : decode cX4_gainBy 10 = .ok (.aload_n 0, 1) := by decide +kernel
theorem dX4_gainBy_11 : decode cX4_gainBy 11 = .ok (.iload_n 3, 1) := by decide +kernel
theorem dX4_gainBy_12 : decode cX4_gainBy 12 = .ok (.invokevirtual 49, 3) := by decide +kernel
theorem dX4_gainBy_15 : decode cX4_gainBy 15 = .ok (.aload_n 0, 1) := by decide +kernel
theorem dX4_gainBy_16 : decode cX4_gainBy 16 = .ok (.getfield 10, 3) := by decide +kernel
theorem dX4_gainBy_19 : decode cX4_gainBy 19 = .ok (.getfield 93, 3) := by decide +kernel
theorem dX4_gainBy_22 : decode cX4_gainBy 22 = .ok (.iload_n 1, 1) := by decide +kernel
theorem dX4_gainBy_23 : decode cX4_gainBy 23 = .ok (.aaload, 1) := by decide +kernel
theorem dX4_gainBy_24 : decode cX4_gainBy 24 = .ok (.getfield 97, 3) := by decide +kernel
theorem dX4_gainBy_27 : decode cX4_gainBy 27 = .ok (.istore 4, 2) := by decide +kernel
theorem dX4_gainBy_29 : decode cX4_gainBy 29 = .ok (.aload_n 0, 1) := by decide +kernel
theorem dX4_gainBy_30 : decode cX4_gainBy 30 = .ok (.getfield 10, 3) := by decide +kernel
theorem dX4_gainBy_33 : decode cX4_gainBy 33 = .ok (.iload_n 1, 1) := by decide +kernel
theorem dX4_gainBy_34 : decode cX4_gainBy 34 = .ok (.iconst 1, 1) := by decide +kernel
theorem dX4_gainBy_35 : decode cX4_gainBy 35 = .ok (.invokevirtual 103, 3) := by decide +kernel
theorem dX4_gainBy_38 : decode cX4_gainBy 38 = .ok (.aload_n 0, 1) := by decide +kernel
theorem dX4_gainBy_39 : decode cX4_gainBy 39 = .ok (.iload_n 2, 1) := by decide +kernel
theorem dX4_gainBy_40 : decode cX4_gainBy 40 = .ok (.iload_n 3, 1) := by decide +kernel
theorem dX4_gainBy_41 : decode cX4_gainBy 41 = .ok (.invokevirtual 177, 3) := by decide +kernel
theorem dX4_gainBy_44 : decode cX4_gainBy 44 = .ok (.istore 5, 2) := by decide +kernel
theorem dX4_gainBy_46 : decode cX4_gainBy 46 = .ok (.aload_n 0, 1) := by decide +kernel
theorem dX4_gainBy_47 : decode cX4_gainBy 47 = .ok (.getfield 10, 3) := by decide +kernel
theorem dX4_gainBy_50 : decode cX4_gainBy 50 = .ok (.iload_n 1, 1) := by decide +kernel
theorem dX4_gainBy_51 : decode cX4_gainBy 51 = .ok (.iconst 0, 1) := by decide +kernel
theorem dX4_gainBy_52 : decode cX4_gainBy 52 = .ok (.invokevirtual 103, 3) := by decide +kernel
theorem dX4_gainBy_55 : decode cX4_gainBy 55 = .ok (.aload_n 0, 1) := by decide +kernel
theorem dX4_gainBy_56 : decode cX4_gainBy 56 = .ok (.iload_n 2, 1) := by decide +kernel
theorem dX4_gainBy_57 : decode cX4_gainBy 57 = .ok (.iload_n 3, 1) := by decide +kernel
theorem dX4_gainBy_58 : decode cX4_gainBy 58 = .ok (.invokevirtual 177, 3) := by decide +kernel
theorem dX4_gainBy_61 : decode cX4_gainBy 61 = .ok (.istore 6, 2) := by decide +kernel
theorem dX4_gainBy_63 : decode cX4_gainBy 63 = .ok (.aload_n 0, 1) := by decide +kernel
theorem dX4_gainBy_64 : decode cX4_gainBy 64 = .ok (.getfield 10, 3) := by decide +kernel
theorem dX4_gainBy_67 : decode cX4_gainBy 67 = .ok (.iload_n 1, 1) := by decide +kernel
theorem dX4_gainBy_68 : decode cX4_gainBy 68 = .ok (.iload 4, 2) := by decide +kernel
theorem dX4_gainBy_70 : decode cX4_gainBy 70 = .ok (.invokevirtual 103, 3) := by decide +kernel
theorem dX4_gainBy_73 : decode cX4_gainBy 73 = .ok (.iload 5, 2) := by decide +kernel
theorem dX4_gainBy_75 : decode cX4_gainBy 75 = .ok (.iconst (-1), 1) := by decide +kernel
theorem dX4_gainBy_76 : decode cX4_gainBy 76 = .ok (.if_icmp .ne 5, 3) := by decide +kernel
theorem dX4_gainBy_79 : decode cX4_gainBy 79 = .ok (.iconst 0, 1) := by decide +kernel
theorem dX4_gainBy_80 : decode cX4_gainBy 80 = .ok (.ireturn, 1) := by decide +kernel
theorem dX4_gainBy_81 : decode cX4_gainBy 81 = .ok (.iload 6, 2) := by decide +kernel
theorem dX4_gainBy_83 : decode cX4_gainBy 83 = .ok (.iconst (-1), 1) := by decide +kernel
theorem dX4_gainBy_84 : decode cX4_gainBy 84 = .ok (.if_icmp .ne 7, 3) := by decide +kernel
theorem dX4_gainBy_87 : decode cX4_gainBy 87 = .ok (.iconst (-1), 1) := by decide +kernel
theorem dX4_gainBy_88 : decode cX4_gainBy 88 = .ok (.goto 8, 3) := by decide +kernel
theorem dX4_gainBy_91 : decode cX4_gainBy 91 = .ok (.iload 6, 2) := by decide +kernel
theorem dX4_gainBy_93 : decode cX4_gainBy 93 = .ok (.iload 5, 2) := by decide +kernel
theorem dX4_gainBy_95 : decode cX4_gainBy 95 = .ok (.isub, 1) := by decide +kernel
theorem dX4_gainBy_96 : decode cX4_gainBy 96 = .ok (.ireturn, 1) := by decide +kernel
theorem dX4_wouldHear_0 : decode cX4_wouldHear 0 = .ok (.aload_n 0, 1) := by decide +kernel
theorem dX4_wouldHear_1 : decode cX4_wouldHear 1 = .ok (.iload_n 1, 1) := by decide +kernel
theorem dX4_wouldHear_2 : decode cX4_wouldHear 2 = .ok (.invokevirtual 112, 3) := by decide +kernel
theorem dX4_wouldHear_5 : decode cX4_wouldHear 5 = .ok (.aload_n 0, 1) := by decide +kernel
theorem dX4_wouldHear_6 : decode cX4_wouldHear 6 = .ok (.iload_n 2, 1) := by decide +kernel
theorem dX4_wouldHear_7 : decode cX4_wouldHear 7 = .ok (.invokevirtual 49, 3) := by decide +kernel
theorem dX4_wouldHear_10 : decode cX4_wouldHear 10 = .ok (.aload_n 0, 1) := by decide +kernel
theorem dX4_wouldHear_11 : decode cX4_wouldHear 11 = .ok (.getfield 30, 3) := by decide +kernel
theorem dX4_wouldHear_14 : decode cX4_wouldHear 14 = .ok (.aload_n 0, 1) := by decide +kernel
theorem dX4_wouldHear_15 : decode cX4_wouldHear 15 = .ok (.getfield 25, 3) := by decide +kernel
theorem dX4_wouldHear_18 : decode cX4_wouldHear 18 = .ok (.iload_n 1, 1) := by decide +kernel
theorem dX4_wouldHear_19 : decode cX4_wouldHear 19 = .ok (.aaload, 1) := by decide +kernel
theorem dX4_wouldHear_20 : decode cX4_wouldHear 20 = .ok (.invokevirtual 181, 3) := by decide +kernel
theorem dX4_wouldHear_23 : decode cX4_wouldHear 23 = .ok (.aload_n 0, 1) := by decide +kernel
theorem dX4_wouldHear_24 : decode cX4_wouldHear 24 = .ok (.getfield 30, 3) := by decide +kernel
theorem dX4_wouldHear_27 : decode cX4_wouldHear 27 = .ok (.aload_n 0, 1) := by decide +kernel
theorem dX4_wouldHear_28 : decode cX4_wouldHear 28 = .ok (.getfield 10, 3) := by decide +kernel
theorem dX4_wouldHear_31 : decode cX4_wouldHear 31 = .ok (.aload_n 0, 1) := by decide +kernel
theorem dX4_wouldHear_32 : decode cX4_wouldHear 32 = .ok (.getfield 38, 3) := by decide +kernel
theorem dX4_wouldHear_35 : decode cX4_wouldHear 35 = .ok (.invokevirtual 185, 3) := by decide +kernel
theorem dX4_wouldHear_38 : decode cX4_wouldHear 38 = .ok (.pop, 1) := by decide +kernel
theorem dX4_wouldHear_39 : decode cX4_wouldHear 39 = .ok (.aload_n 0, 1) := by decide +kernel
theorem dX4_wouldHear_40 : decode cX4_wouldHear 40 = .ok (.getfield 30, 3) := by decide +kernel
theorem dX4_wouldHear_43 : decode cX4_wouldHear 43 = .ok (.getfield 144, 3) := by decide +kernel
theorem dX4_wouldHear_46 : decode cX4_wouldHear 46 = .ok (.iload_n 2, 1) := by decide +kernel
theorem dX4_wouldHear_47 : decode cX4_wouldHear 47 = .ok (.iaload, 1) := by decide +kernel
theorem dX4_wouldHear_48 : decode cX4_wouldHear 48 = .ok (.ireturn, 1) := by decide +kernel
theorem dX4_believersInTheEnd_0 : decode cX4_believersInTheEnd 0 = .ok (.aload_n 0, 1) := by decide +kernel
theorem dX4_believersInTheEnd_1 : decode cX4_believersInTheEnd 1 = .ok (.iload_n 1, 1) := by decide +kernel
theorem dX4_believersInTheEnd_2 : decode cX4_believersInTheEnd 2 = .ok (.invokevirtual 112, 3) := by decide +kernel
theorem dX4_believersInTheEnd_5 : decode cX4_believersInTheEnd 5 = .ok (.aload_n 0, 1) := by decide +kernel
theorem dX4_believersInTheEnd_6 : decode cX4_believersInTheEnd 6 = .ok (.getfield 30, 3) := by decide +kernel
theorem dX4_believersInTheEnd_9 : decode cX4_believersInTheEnd 9 = .ok (.aload_n 0, 1) := by decide +kernel
theorem dX4_believersInTheEnd_10 : decode cX4_believersInTheEnd 10 = .ok (.getfield 25, 3) := by decide +kernel
theorem dX4_believersInTheEnd_13 : decode cX4_believersInTheEnd 13 = .ok (.iload_n 1, 1) := by decide +kernel
theorem dX4_believersInTheEnd_14 : decode cX4_believersInTheEnd 14 = .ok (.aaload, 1) := by decide +kernel
theorem dX4_believersInTheEnd_15 : decode cX4_believersInTheEnd 15 = .ok (.invokevirtual 181, 3) := by decide +kernel
theorem dX4_believersInTheEnd_18 : decode cX4_believersInTheEnd 18 = .ok (.aload_n 0, 1) := by decide +kernel
theorem dX4_believersInTheEnd_19 : decode cX4_believersInTheEnd 19 = .ok (.getfield 30, 3) := by decide +kernel
theorem dX4_believersInTheEnd_22 : decode cX4_believersInTheEnd 22 = .ok (.aload_n 0, 1) := by decide +kernel
theorem dX4_believersInTheEnd_23 : decode cX4_believersInTheEnd 23 = .ok (.getfield 10, 3) := by decide +kernel
theorem dX4_believersInTheEnd_26 : decode cX4_believersInTheEnd 26 = .ok (.aload_n 0, 1) := by decide +kernel
theorem dX4_believersInTheEnd_27 : decode cX4_believersInTheEnd 27 = .ok (.getfield 38, 3) := by decide +kernel
theorem dX4_believersInTheEnd_30 : decode cX4_believersInTheEnd 30 = .ok (.invokevirtual 185, 3) := by decide +kernel
theorem dX4_believersInTheEnd_33 : decode cX4_believersInTheEnd 33 = .ok (.pop, 1) := by decide +kernel
theorem dX4_believersInTheEnd_34 : decode cX4_believersInTheEnd 34 = .ok (.aload_n 0, 1) := by decide +kernel
theorem dX4_believersInTheEnd_35 : decode cX4_believersInTheEnd 35 = .ok (.getfield 30, 3) := by decide +kernel
theorem dX4_believersInTheEnd_38 : decode cX4_believersInTheEnd 38 = .ok (.aload_n 0, 1) := by decide +kernel
theorem dX4_believersInTheEnd_39 : decode cX4_believersInTheEnd 39 = .ok (.getfield 10, 3) := by decide +kernel
theorem dX4_believersInTheEnd_42 : decode cX4_believersInTheEnd 42 = .ok (.invokevirtual 153, 3) := by decide +kernel
theorem dX4_believersInTheEnd_45 : decode cX4_believersInTheEnd 45 = .ok (.ireturn, 1) := by decide +kernel
theorem dX4_quietIn_0 : decode cX4_quietIn 0 = .ok (.aload_n 0, 1) := by decide +kernel
theorem dX4_quietIn_1 : decode cX4_quietIn 1 = .ok (.iload_n 1, 1) := by decide +kernel
theorem dX4_quietIn_2 : decode cX4_quietIn 2 = .ok (.invokevirtual 112, 3) := by decide +kernel
theorem dX4_quietIn_5 : decode cX4_quietIn 5 = .ok (.aload_n 0, 1) := by decide +kernel
theorem dX4_quietIn_6 : decode cX4_quietIn 6 = .ok (.getfield 30, 3) := by decide +kernel
theorem dX4_quietIn_9 : decode cX4_quietIn 9 = .ok (.aload_n 0, 1) := by decide +kernel
theorem dX4_quietIn_10 : decode cX4_quietIn 10 = .ok (.getfield 25, 3) := by decide +kernel
theorem dX4_quietIn_13 : decode cX4_quietIn 13 = .ok (.iload_n 1, 1) := by decide +kernel
theorem dX4_quietIn_14 : decode cX4_quietIn 14 = .ok (.aaload, 1) := by decide +kernel
theorem dX4_quietIn_15 : decode cX4_quietIn 15 = .ok (.invokevirtual 181, 3) := by decide +kernel
theorem dX4_quietIn_18 : decode cX4_quietIn 18 = .ok (.aload_n 0, 1) := by decide +kernel
theorem dX4_quietIn_19 : decode cX4_quietIn 19 = .ok (.getfield 30, 3) := by decide +kernel
theorem dX4_quietIn_22 : decode cX4_quietIn 22 = .ok (.aload_n 0, 1) := by decide +kernel
theorem dX4_quietIn_23 : decode cX4_quietIn 23 = .ok (.getfield 10, 3) := by decide +kernel
theorem dX4_quietIn_26 : decode cX4_quietIn 26 = .ok (.aload_n 0, 1) := by decide +kernel
theorem dX4_quietIn_27 : decode cX4_quietIn 27 = .ok (.getfield 38, 3) := by decide +kernel
theorem dX4_quietIn_30 : decode cX4_quietIn 30 = .ok (.invokevirtual 185, 3) := by decide +kernel
theorem dX4_quietIn_33 : decode cX4_quietIn 33 = .ok (.istore_n 2, 1) := by decide +kernel
theorem dX4_quietIn_34 : decode cX4_quietIn 34 = .ok (.aload_n 0, 1) := by decide +kernel
theorem dX4_quietIn_35 : decode cX4_quietIn 35 = .ok (.getfield 30, 3) := by decide +kernel
theorem dX4_quietIn_38 : decode cX4_quietIn 38 = .ok (.aload_n 0, 1) := by decide +kernel
theorem dX4_quietIn_39 : decode cX4_quietIn 39 = .ok (.getfield 10, 3) := by decide +kernel
theorem dX4_quietIn_42 : decode cX4_quietIn 42 = .ok (.getfield 128, 3) := by decide +kernel
theorem dX4_quietIn_45 : decode cX4_quietIn 45 = .ok (.invokevirtual 188, 3) := by decide +kernel
theorem dX4_quietIn_48 : decode cX4_quietIn 48 = .ok (.ifCond .eq 7, 3) := by decide +kernel
theorem dX4_quietIn_51 : decode cX4_quietIn 51 = .ok (.iload_n 2, 1) := by decide +kernel
theorem dX4_quietIn_52 : decode cX4_quietIn 52 = .ok (.goto 4, 3) := by decide +kernel
theorem dX4_quietIn_55 : decode cX4_quietIn 55 = .ok (.iconst (-1), 1) := by decide +kernel
theorem dX4_quietIn_56 : decode cX4_quietIn 56 = .ok (.ireturn, 1) := by decide +kernel
theorem dX4_believersWith_0 : decode cX4_believersWith 0 = .ok (.aload_n 0, 1) := by decide +kernel
theorem dX4_believersWith_1 : decode cX4_believersWith 1 = .ok (.iload_n 1, 1) := by decide +kernel
theorem dX4_believersWith_2 : decode cX4_believersWith 2 = .ok (.invokevirtual 112, 3) := by decide +kernel
theorem dX4_believersWith_5 : decode cX4_believersWith 5 = .ok (.aload_n 0, 1) := by decide +kernel
theorem dX4_believersWith_6 : decode cX4_believersWith 6 = .ok (.iload_n 2, 1) := by decide +kernel
theorem dX4_believersWith_7 : decode cX4_believersWith 7 = .ok (.invokevirtual 49, 3) := by decide +kernel
theorem dX4_believersWith_10 : decode cX4_believersWith 10 = .ok (.aload_n 0, 1) := by decide +kernel
theorem dX4_believersWith_11 : decode cX4_believersWith 11 = .ok (.getfield 30, 3) := by decide +kernel
theorem dX4_believersWith_14 : decode cX4_believersWith 14 = .ok (.aload_n 0, 1) := by decide +kernel
theorem dX4_believersWith_15 : decode cX4_believersWith 15 = .ok (.getfield 25, 3) := by decide +kernel
theorem dX4_believersWith_18 : decode cX4_believersWith 18 = .ok (.iload_n 1, 1) := by decide +kernel
theorem dX4_believersWith_19 : decode cX4_believersWith 19 = .ok (.aaload, 1) := by decide +kernel
theorem dX4_believersWith_20 : decode cX4_believersWith 20 = .ok (.invokevirtual 181, 3) := by decide +kernel
theorem dX4_believersWith_23 : decode cX4_believersWith 23 = .ok (.aload_n 0, 1) := by decide +kernel
theorem dX4_believersWith_24 : decode cX4_believersWith 24 = .ok (.getfield 30, 3) := by decide +kernel
theorem dX4_believersWith_27 : decode cX4_believersWith 27 = .ok (.aload_n 0, 1) := by decide +kernel
theorem dX4_believersWith_28 : decode cX4_believersWith 28 = .ok (.getfield 10, 3) := by decide +kernel
theorem dX4_believersWith_31 : decode cX4_believersWith 31 = .ok (.iload_n 2, 1) := by decide +kernel
theorem dX4_believersWith_32 : decode cX4_believersWith 32 = .ok (.aload_n 0, 1) := by decide +kernel
theorem dX4_believersWith_33 : decode cX4_believersWith 33 = .ok (.getfield 38, 3) := by decide +kernel
theorem dX4_believersWith_36 : decode cX4_believersWith 36 = .ok (.invokevirtual 120, 3) := by decide +kernel
theorem dX4_believersWith_39 : decode cX4_believersWith 39 = .ok (.aload_n 0, 1) := by decide +kernel
theorem dX4_believersWith_40 : decode cX4_believersWith 40 = .ok (.getfield 30, 3) := by decide +kernel
theorem dX4_believersWith_43 : decode cX4_believersWith 43 = .ok (.aload_n 0, 1) := by decide +kernel
theorem dX4_believersWith_44 : decode cX4_believersWith 44 = .ok (.getfield 10, 3) := by decide +kernel
theorem dX4_believersWith_47 : decode cX4_believersWith 47 = .ok (.aload_n 0, 1) := by decide +kernel
theorem dX4_believersWith_48 : decode cX4_believersWith 48 = .ok (.getfield 38, 3) := by decide +kernel
theorem dX4_believersWith_51 : decode cX4_believersWith 51 = .ok (.invokevirtual 185, 3) := by decide +kernel
theorem dX4_believersWith_54 : decode cX4_believersWith 54 = .ok (.pop, 1) := by decide +kernel
theorem dX4_believersWith_55 : decode cX4_believersWith 55 = .ok (.aload_n 0, 1) := by decide +kernel
theorem dX4_believersWith_56 : decode cX4_believersWith 56 = .ok (.getfield 30, 3) := by decide +kernel
theorem dX4_believersWith_59 : decode cX4_believersWith 59 = .ok (.aload_n 0, 1) := by decide +kernel
theorem dX4_believersWith_60 : decode cX4_believersWith 60 = .ok (.getfield 10, 3) := by decide +kernel
theorem dX4_believersWith_63 : decode cX4_believersWith 63 = .ok (.invokevirtual 153, 3) := by decide +kernel
theorem dX4_believersWith_66 : decode cX4_believersWith 66 = .ok (.ireturn, 1) := by decide +kernel
theorem dX4_bestDenial_0 : decode cX4_bestDenial 0 = .ok (.aload_n 0, 1) := by decide +kernel
theorem dX4_bestDenial_1 : decode cX4_bestDenial 1 = .ok (.iload_n 1, 1) := by decide +kernel
theorem dX4_bestDenial_2 : decode cX4_bestDenial 2 = .ok (.invokevirtual 112, 3) := by decide +kernel
theorem dX4_bestDenial_5 : decode cX4_bestDenial 5 = .ok (.iconst 0, 1) := by decide +kernel
theorem dX4_bestDenial_6 : decode cX4_bestDenial 6 = .ok (.istore_n 2, 1) := by decide +kernel
theorem dX4_bestDenial_7 : decode cX4_bestDenial 7 = .ok (.aload_n 0, 1) := by decide +kernel
theorem dX4_bestDenial_8 : decode cX4_bestDenial 8 = .ok (.iload_n 1, 1) := by decide +kernel
theorem dX4_bestDenial_9 : decode cX4_bestDenial 9 = .ok (.iconst 0, 1) := by decide +kernel
theorem dX4_bestDenial_10 : decode cX4_bestDenial 10 = .ok (.invokevirtual 191, 3) := by decide +kernel
theorem dX4_bestDenial_13 : decode cX4_bestDenial 13 = .ok (.istore_n 3, 1) := by decide +kernel
theorem dX4_bestDenial_14 : decode cX4_bestDenial 14 = .ok (.iconst 1, 1) := by decide +kernel
theorem dX4_bestDenial_15 : decode cX4_bestDenial 15 = .ok (.istore 4, 2) := by decide +kernel
theorem dX4_bestDenial_17 : decode cX4_bestDenial 17 = .ok (.iload 4, 2) := by decide +kernel
theorem dX4_bestDenial_19 : decode cX4_bestDenial 19 = .ok (.aload_n 0, 1) := by decide +kernel
theorem dX4_bestDenial_20 : decode cX4_bestDenial 20 = .ok (.getfield 10, 3) := by decide +kernel
theorem dX4_bestDenial_23 : decode cX4_bestDenial 23 = .ok (.getfield 128, 3) := by decide +kernel
theorem dX4_bestDenial_26 : decode cX4_bestDenial 26 = .ok (.if_icmp .ge 30, 3) := by decide +kernel
theorem dX4_bestDenial_29 : decode cX4_bestDenial 29 = .ok (.aload_n 0, 1) := by decide +kernel
theorem dX4_bestDenial_30 : decode cX4_bestDenial 30 = .ok (.iload_n 1, 1) := by decide +kernel
theorem dX4_bestDenial_31 : decode cX4_bestDenial 31 = .ok (.iload 4, 2) := by decide +kernel
theorem dX4_bestDenial_33 : decode cX4_bestDenial 33 = .ok (.invokevirtual 191, 3) := by decide +kernel
theorem dX4_bestDenial_36 : decode cX4_bestDenial 36 = .ok (.istore 5, 2) := by decide +kernel
theorem dX4_bestDenial_38 : decode cX4_bestDenial 38 = .ok (.iload 5, 2) := by decide +kernel
theorem dX4_bestDenial_40 : decode cX4_bestDenial 40 = .ok (.iload_n 3, 1) := by decide +kernel
theorem dX4_bestDenial_41 : decode cX4_bestDenial 41 = .ok (.if_icmp .ge 9, 3) := by decide +kernel
theorem dX4_bestDenial_44 : decode cX4_bestDenial 44 = .ok (.iload 4, 2) := by decide +kernel
theorem dX4_bestDenial_46 : decode cX4_bestDenial 46 = .ok (.istore_n 2, 1) := by decide +kernel
theorem dX4_bestDenial_47 : decode cX4_bestDenial 47 = .ok (.iload 5, 2) := by decide +kernel
theorem dX4_bestDenial_49 : decode cX4_bestDenial 49 = .ok (.istore_n 3, 1) := by decide +kernel
theorem dX4_bestDenial_50 : decode cX4_bestDenial 50 = .ok (.iinc 4 1, 3) := by decide +kernel
theorem dX4_bestDenial_53 : decode cX4_bestDenial 53 = .ok (.goto (-36), 3) := by decide +kernel
theorem dX4_bestDenial_56 : decode cX4_bestDenial 56 = .ok (.iload_n 2, 1) := by decide +kernel
theorem dX4_bestDenial_57 : decode cX4_bestDenial 57 = .ok (.ireturn, 1) := by decide +kernel
theorem dX4_bestStairsToShut_0 : decode cX4_bestStairsToShut 0 = .ok (.aload_n 0, 1) := by decide +kernel
theorem dX4_bestStairsToShut_1 : decode cX4_bestStairsToShut 1 = .ok (.iload_n 1, 1) := by decide +kernel
theorem dX4_bestStairsToShut_2 : decode cX4_bestStairsToShut 2 = .ok (.invokevirtual 112, 3) := by decide +kernel
theorem dX4_bestStairsToShut_5 : decode cX4_bestStairsToShut 5 = .ok (.iconst (-1), 1) := by decide +kernel
theorem dX4_bestStairsToShut_6 : decode cX4_bestStairsToShut 6 = .ok (.istore_n 2, 1) := by decide +kernel
theorem dX4_bestStairsToShut_7 : decode cX4_bestStairsToShut 7 = .ok (.aload_n 0, 1) := by decide +kernel
theorem dX4_bestStairsToShut_8 : decode cX4_bestStairsToShut 8 = .ok (.iload_n 1, 1) := by decide +kernel
theorem dX4_bestStairsToShut_9 : decode cX4_bestStairsToShut 9 = .ok (.invokevirtual 194, 3) := by decide +kernel
theorem dX4_bestStairsToShut_12 : decode cX4_bestStairsToShut 12 = .ok (.istore_n 3, 1) := by decide +kernel
theorem dX4_bestStairsToShut_13 : decode cX4_bestStairsToShut 13 = .ok (.iconst 0, 1) := by decide +kernel
theorem dX4_bestStairsToShut_14 : decode cX4_bestStairsToShut 14 = .ok (.istore 4, 2) := by decide +kernel
theorem dX4_bestStairsToShut_16 : decode cX4_bestStairsToShut 16 = .ok (.iload 4, 2) := by decide +kernel
theorem dX4_bestStairsToShut_18 : decode cX4_bestStairsToShut 18 = .ok (.aload_n 0, 1) := by decide +kernel
theorem dX4_bestStairsToShut_19 : decode cX4_bestStairsToShut 19 = .ok (.getfield 10, 3) := by decide +kernel
theorem dX4_bestStairsToShut_22 : decode cX4_bestStairsToShut 22 = .ok (.getfield 128, 3) := by decide +kernel
theorem dX4_bestStairsToShut_25 : decode cX4_bestStairsToShut 25 = .ok (.iconst 1, 1) := by decide +kernel
theorem dX4_bestStairsToShut_26 : decode cX4_bestStairsToShut 26 = .ok (.isub, 1) := by decide +kernel
theorem dX4_bestStairsToShut_27 : decode cX4_bestStairsToShut 27 = .ok (.if_icmp .ge 61, 3) := by decide +kernel
theorem dX4_bestStairsToShut_30 : decode cX4_bestStairsToShut 30 = .ok (.aload_n 0, 1) := by decide +kernel
theorem dX4_bestStairsToShut_31 : decode cX4_bestStairsToShut 31 = .ok (.getfield 10, 3) := by decide +kernel
theorem dX4_bestStairsToShut_34 : decode cX4_bestStairsToShut 34 = .ok (.getfield 68, 3) := by decide +kernel
theorem dX4_bestStairsToShut_37 : decode cX4_bestStairsToShut 37 = .ok (.iload 4, 2) := by decide +kernel
theorem dX4_bestStairsToShut_39 : decode cX4_bestStairsToShut 39 = .ok (.baload, 1) := by decide +kernel
theorem dX4_bestStairsToShut_40 : decode cX4_bestStairsToShut 40 = .ok (.ifCond .eq 42, 3) := by decide +kernel
theorem dX4_bestStairsToShut_43 : decode cX4_bestStairsToShut 43 = .ok (.aload_n 0, 1) := by decide +kernel
theorem dX4_bestStairsToShut_44 : decode cX4_bestStairsToShut 44 = .ok (.getfield 10, 3) := by decide +kernel
theorem dX4_bestStairsToShut_47 : decode cX4_bestStairsToShut 47 = .ok (.iload 4, 2) := by decide +kernel
theorem dX4_bestStairsToShut_49 : decode cX4_bestStairsToShut 49 = .ok (.iconst 0, 1) := by decide +kernel
theorem dX4_bestStairsToShut_50 : decode cX4_bestStairsToShut 50 = .ok (.invokevirtual 72, 3) := by decide +kernel
theorem dX4_bestStairsToShut_53 : decode cX4_bestStairsToShut 53 = .ok (.aload_n 0, 1) := by decide +kernel
theorem dX4_bestStairsToShut_54 : decode cX4_bestStairsToShut 54 = .ok (.iload_n 1, 1) := by decide +kernel
theorem dX4_bestStairsToShut_55 : decode cX4_bestStairsToShut 55 = .ok (.invokevirtual 194, 3) := by decide +kernel
theorem dX4_bestStairsToShut_58 : decode cX4_bestStairsToShut 58 = .ok (.istore 5, 2) := by decide +kernel
theorem dX4_bestStairsToShut_60 : decode cX4_bestStairsToShut 60 = .ok (.aload_n 0, 1) := by decide +kernel
theorem dX4_bestStairsToShut_61 : decode cX4_bestStairsToShut 61 = .ok (.getfield 10, 3) := by decide +kernel
theorem dX4_bestStairsToShut_64 : decode cX4_bestStairsToShut 64 = .ok (.iload 4, 2) := by decide +kernel
theorem dX4_bestStairsToShut_66 : decode cX4_bestStairsToShut 66 = .ok (.iconst 1, 1) := by decide +kernel
theorem dX4_bestStairsToShut_67 : decode cX4_bestStairsToShut 67 = .ok (.invokevirtual 72, 3) := by decide +kernel
theorem dX4_bestStairsToShut_70 : decode cX4_bestStairsToShut 70 = .ok (.iload 5, 2) := by decide +kernel
theorem dX4_bestStairsToShut_72 : decode cX4_bestStairsToShut 72 = .ok (.iload_n 3, 1) := by decide +kernel
theorem dX4_bestStairsToShut_73 : decode cX4_bestStairsToShut 73 = .ok (.if_icmp .ge 9, 3) := by decide +kernel
theorem dX4_bestStairsToShut_76 : decode cX4_bestStairsToShut 76 = .ok (.iload 4, 2) := by decide +kernel
theorem dX4_bestStairsToShut_78 : decode cX4_bestStairsToShut 78 = .ok (.istore_n 2, 1) := by decide +kernel
theorem dX4_bestStairsToShut_79 : decode cX4_bestStairsToShut 79 = .ok (.iload 5, 2) := by decide +kernel
theorem dX4_bestStairsToShut_81 : decode cX4_bestStairsToShut 81 = .ok (.istore_n 3, 1) := by decide +kernel
theorem dX4_bestStairsToShut_82 : decode cX4_bestStairsToShut 82 = .ok (.iinc 4 1, 3) := by decide +kernel
theorem dX4_bestStairsToShut_85 : decode cX4_bestStairsToShut 85 = .ok (.goto (-69), 3) := by decide +kernel
theorem dX4_bestStairsToShut_88 : decode cX4_bestStairsToShut 88 = .ok (.iload_n 2, 1) := by decide +kernel
theorem dX4_bestStairsToShut_89 : decode cX4_bestStairsToShut 89 = .ok (.ireturn, 1) := by decide +kernel
theorem dX4_meanHeads_0 : decode cX4_meanHeads 0 = .ok (.iconst 0, 1) := by decide +kernel
theorem dX4_meanHeads_1 : decode cX4_meanHeads 1 = .ok (.istore_n 1, 1) := by decide +kernel
theorem dX4_meanHeads_2 : decode cX4_meanHeads 2 = .ok (.iconst 0, 1) := by decide +kernel
theorem dX4_meanHeads_3 : decode cX4_meanHeads 3 = .ok (.istore_n 2, 1) := by decide +kernel
theorem dX4_meanHeads_4 : decode cX4_meanHeads 4 = .ok (.iload_n 2, 1) := by decide +kernel
theorem dX4_meanHeads_5 : decode cX4_meanHeads 5 = .ok (.aload_n 0, 1) := by decide +kernel
theorem dX4_meanHeads_6 : decode cX4_meanHeads 6 = .ok (.getfield 10, 3) := by decide +kernel
theorem dX4_meanHeads_9 : decode cX4_meanHeads 9 = .ok (.getfield 128, 3) := by decide +kernel
theorem dX4_meanHeads_12 : decode cX4_meanHeads 12 = .ok (.if_icmp .ge 21, 3) := by decide +kernel
theorem dX4_meanHeads_15 : decode cX4_meanHeads 15 = .ok (.iload_n 1, 1) := by decide +kernel
theorem dX4_meanHeads_16 : decode cX4_meanHeads 16 = .ok (.aload_n 0, 1) := by decide +kernel
theorem dX4_meanHeads_17 : decode cX4_meanHeads 17 = .ok (.getfield 10, 3) := by decide +kernel
theorem dX4_meanHeads_20 : decode cX4_meanHeads 20 = .ok (.getfield 56, 3) := by decide +kernel
theorem dX4_meanHeads_23 : decode cX4_meanHeads 23 = .ok (.iload_n 2, 1) := by decide +kernel
theorem dX4_meanHeads_24 : decode cX4_meanHeads 24 = .ok (.iaload, 1) := by decide +kernel
theorem dX4_meanHeads_25 : decode cX4_meanHeads 25 = .ok (.iadd, 1) := by decide +kernel
theorem dX4_meanHeads_26 : decode cX4_meanHeads 26 = .ok (.istore_n 1, 1) := by decide +kernel
theorem dX4_meanHeads_27 : decode cX4_meanHeads 27 = .ok (.iinc 2 1, 3) := by decide +kernel
theorem dX4_meanHeads_30 : decode cX4_meanHeads 30 = .ok (.goto (-26), 3) := by decide +kernel
theorem dX4_meanHeads_33 : decode cX4_meanHeads 33 = .ok (.aload_n 0, 1) := by decide +kernel
theorem dX4_meanHeads_34 : decode cX4_meanHeads 34 = .ok (.getfield 10, 3) := by decide +kernel
theorem dX4_meanHeads_37 : decode cX4_meanHeads 37 = .ok (.getfield 128, 3) := by decide +kernel
theorem dX4_meanHeads_40 : decode cX4_meanHeads 40 = .ok (.ifCond .le 17, 3) := by decide +kernel
theorem dX4_meanHeads_43 : decode cX4_meanHeads 43 = .ok (.iload_n 1, 1) := by decide +kernel
theorem dX4_meanHeads_44 : decode cX4_meanHeads 44 = .ok (.i2d, 1) := by decide +kernel
theorem dX4_meanHeads_45 : decode cX4_meanHeads 45 = .ok (.aload_n 0, 1) := by decide +kernel
theorem dX4_meanHeads_46 : decode cX4_meanHeads 46 = .ok (.getfield 10, 3) := by decide +kernel
theorem dX4_meanHeads_49 : decode cX4_meanHeads 49 = .ok (.getfield 128, 3) := by decide +kernel
theorem dX4_meanHeads_52 : decode cX4_meanHeads 52 = .ok (.i2d, 1) := by decide +kernel
theorem dX4_meanHeads_53 : decode cX4_meanHeads 53 = .ok (.ddiv, 1) := by decide +kernel
theorem dX4_meanHeads_54 : decode cX4_meanHeads 54 = .ok (.goto 4, 3) := by decide +kernel
theorem dX4_meanHeads_57 : decode cX4_meanHeads 57 = .ok (.dconst 0, 1) := by decide +kernel
theorem dX4_meanHeads_58 : decode cX4_meanHeads 58 = .ok (.dreturn, 1) := by decide +kernel
theorem dX4_digest_0 : decode cX4_digest 0 = .ok (.ldc2_w 197, 3) := by decide +kernel
theorem dX4_digest_3 : decode cX4_digest 3 = .ok (.lstore_n 1, 1) := by decide +kernel
theorem dX4_digest_4 : decode cX4_digest 4 = .ok (.lload_n 1, 1) := by decide +kernel
theorem dX4_digest_5 : decode cX4_digest 5 = .ok (.aload_n 0, 1) := by decide +kernel
theorem dX4_digest_6 : decode cX4_digest 6 = .ok (.invokevirtual 199, 3) := by decide +kernel
theorem dX4_digest_9 : decode cX4_digest 9 = .ok (.i2l, 1) := by decide +kernel
theorem dX4_digest_10 : decode cX4_digest 10 = .ok (.invokestatic 203, 3) := by decide +kernel
theorem dX4_digest_13 : decode cX4_digest 13 = .ok (.lstore_n 1, 1) := by decide +kernel
theorem dX4_digest_14 : decode cX4_digest 14 = .ok (.lload_n 1, 1) := by decide +kernel
theorem dX4_digest_15 : decode cX4_digest 15 = .ok (.aload_n 0, 1) := by decide +kernel
theorem dX4_digest_16 : decode cX4_digest 16 = .ok (.invokevirtual 207, 3) := by decide +kernel
theorem dX4_digest_19 : decode cX4_digest 19 = .ok (.i2l, 1) := by decide +kernel
theorem dX4_digest_20 : decode cX4_digest 20 = .ok (.invokestatic 203, 3) := by decide +kernel
theorem dX4_digest_23 : decode cX4_digest 23 = .ok (.lstore_n 1, 1) := by decide +kernel
theorem dX4_digest_24 : decode cX4_digest 24 = .ok (.lload_n 1, 1) := by decide +kernel
theorem dX4_digest_25 : decode cX4_digest 25 = .ok (.aload_n 0, 1) := by decide +kernel
theorem dX4_digest_26 : decode cX4_digest 26 = .ok (.invokevirtual 209, 3) := by decide +kernel
theorem dX4_digest_29 : decode cX4_digest 29 = .ok (.i2l, 1) := by decide +kernel
theorem dX4_digest_30 : decode cX4_digest 30 = .ok (.invokestatic 203, 3) := by decide +kernel
theorem dX4_digest_33 : decode cX4_digest 33 = .ok (.lstore_n 1, 1) := by decide +kernel
theorem dX4_digest_34 : decode cX4_digest 34 = .ok (.lload_n 1, 1) := by decide +kernel
theorem dX4_digest_35 : decode cX4_digest 35 = .ok (.aload_n 0, 1) := by decide +kernel
theorem dX4_digest_36 : decode cX4_digest 36 = .ok (.invokevirtual 211, 3) := by decide +kernel
theorem dX4_digest_39 : decode cX4_digest 39 = .ok (.i2l, 1) := by decide +kernel
theorem dX4_digest_40 : decode cX4_digest 40 = .ok (.invokestatic 203, 3) := by decide +kernel
theorem dX4_digest_43 : decode cX4_digest 43 = .ok (.lstore_n 1, 1) := by decide +kernel
theorem dX4_digest_44 : decode cX4_digest 44 = .ok (.lload_n 1, 1) := by decide +kernel
theorem dX4_digest_45 : decode cX4_digest 45 = .ok (.aload_n 0, 1) := by decide +kernel
theorem dX4_digest_46 : decode cX4_digest 46 = .ok (.invokevirtual 214, 3) := by decide +kernel
theorem dX4_digest_49 : decode cX4_digest 49 = .ok (.i2l, 1) := by decide +kernel
theorem dX4_digest_50 : decode cX4_digest 50 = .ok (.invokestatic 203, 3) := by decide +kernel
theorem dX4_digest_53 : decode cX4_digest 53 = .ok (.lstore_n 1, 1) := by decide +kernel
theorem dX4_digest_54 : decode cX4_digest 54 = .ok (.lload_n 1, 1) := by decide +kernel
theorem dX4_digest_55 : decode cX4_digest 55 = .ok (.aload_n 0, 1) := by decide +kernel
theorem dX4_digest_56 : decode cX4_digest 56 = .ok (.invokevirtual 217, 3) := by decide +kernel
theorem dX4_digest_59 : decode cX4_digest 59 = .ok (.i2l, 1) := by decide +kernel
theorem dX4_digest_60 : decode cX4_digest 60 = .ok (.invokestatic 203, 3) := by decide +kernel
theorem dX4_digest_63 : decode cX4_digest 63 = .ok (.lstore_n 1, 1) := by decide +kernel
theorem dX4_digest_64 : decode cX4_digest 64 = .ok (.iconst 0, 1) := by decide +kernel
theorem dX4_digest_65 : decode cX4_digest 65 = .ok (.istore_n 3, 1) := by decide +kernel
theorem dX4_digest_66 : decode cX4_digest 66 = .ok (.iload_n 3, 1) := by decide +kernel
theorem dX4_digest_67 : decode cX4_digest 67 = .ok (.aload_n 0, 1) := by decide +kernel
theorem dX4_digest_68 : decode cX4_digest 68 = .ok (.getfield 10, 3) := by decide +kernel
theorem dX4_digest_71 : decode cX4_digest 71 = .ok (.getfield 128, 3) := by decide +kernel
theorem dX4_digest_74 : decode cX4_digest 74 = .ok (.if_icmp .ge 65, 3) := by decide +kernel
theorem dX4_digest_77 : decode cX4_digest 77 = .ok (.lload_n 1, 1) := by decide +kernel
theorem dX4_digest_78 : decode cX4_digest 78 = .ok (.aload_n 0, 1) := by decide +kernel
theorem dX4_digest_79 : decode cX4_digest 79 = .ok (.iload_n 3, 1) := by decide +kernel
theorem dX4_digest_80 : decode cX4_digest 80 = .ok (.invokevirtual 220, 3) := by decide +kernel
theorem dX4_digest_83 : decode cX4_digest 83 = .ok (.i2l, 1) := by decide +kernel
theorem dX4_digest_84 : decode cX4_digest 84 = .ok (.invokestatic 203, 3) := by decide +kernel
theorem dX4_digest_87 : decode cX4_digest 87 = .ok (.lstore_n 1, 1) := by decide +kernel
theorem dX4_digest_88 : decode cX4_digest 88 = .ok (.lload_n 1, 1) := by decide +kernel
theorem dX4_digest_89 : decode cX4_digest 89 = .ok (.aload_n 0, 1) := by decide +kernel
theorem dX4_digest_90 : decode cX4_digest 90 = .ok (.iload_n 3, 1) := by decide +kernel
theorem dX4_digest_91 : decode cX4_digest 91 = .ok (.invokevirtual 223, 3) := by decide +kernel
theorem dX4_digest_94 : decode cX4_digest 94 = .ok (.i2l, 1) := by decide +kernel
theorem dX4_digest_95 : decode cX4_digest 95 = .ok (.invokestatic 203, 3) := by decide +kernel
theorem dX4_digest_98 : decode cX4_digest 98 = .ok (.lstore_n 1, 1) := by decide +kernel
theorem dX4_digest_99 : decode cX4_digest 99 = .ok (.lload_n 1, 1) := by decide +kernel
theorem dX4_digest_100 : decode cX4_digest 100 = .ok (.aload_n 0, 1) := by decide +kernel
theorem dX4_digest_101 : decode cX4_digest 101 = .ok (.iload_n 3, 1) := by decide +kernel
theorem dX4_digest_102 : decode cX4_digest 102 = .ok (.invokevirtual 226, 3) := by decide +kernel
theorem dX4_digest_105 : decode cX4_digest 105 = .ok (.i2l, 1) := by decide +kernel
theorem dX4_digest_106 : decode cX4_digest 106 = .ok (.invokestatic 203, 3) := by decide +kernel
theorem dX4_digest_109 : decode cX4_digest 109 = .ok (.lstore_n 1, 1) := by decide +kernel
theorem dX4_digest_110 : decode cX4_digest 110 = .ok (.lload_n 1, 1) := by decide +kernel
theorem dX4_digest_111 : decode cX4_digest 111 = .ok (.aload_n 0, 1) := by decide +kernel
theorem dX4_digest_112 : decode cX4_digest 112 = .ok (.iload_n 3, 1) := by decide +kernel
theorem dX4_digest_113 : decode cX4_digest 113 = .ok (.invokevirtual 229, 3) := by decide +kernel
theorem dX4_digest_116 : decode cX4_digest 116 = .ok (.i2l, 1) := by decide +kernel
theorem dX4_digest_117 : decode cX4_digest 117 = .ok (.invokestatic 203, 3) := by decide +kernel
theorem dX4_digest_120 : decode cX4_digest 120 = .ok (.lstore_n 1, 1) := by decide +kernel
theorem dX4_digest_121 : decode cX4_digest 121 = .ok (.lload_n 1, 1) := by decide +kernel
theorem dX4_digest_122 : decode cX4_digest 122 = .ok (.aload_n 0, 1) := by decide +kernel
theorem dX4_digest_123 : decode cX4_digest 123 = .ok (.iconst 0, 1) := by decide +kernel
theorem dX4_digest_124 : decode cX4_digest 124 = .ok (.iload_n 3, 1) := by decide +kernel
theorem dX4_digest_125 : decode cX4_digest 125 = .ok (.invokevirtual 177, 3) := by decide +kernel
theorem dX4_digest_128 : decode cX4_digest 128 = .ok (.i2l, 1) := by decide +kernel
theorem dX4_digest_129 : decode cX4_digest 129 = .ok (.invokestatic 203, 3) := by decide +kernel
theorem dX4_digest_132 : decode cX4_digest 132 = .ok (.lstore_n 1, 1) := by decide +kernel
theorem dX4_digest_133 : decode cX4_digest 133 = .ok (.iinc 3 1, 3) := by decide +kernel
theorem dX4_digest_136 : decode cX4_digest 136 = .ok (.goto (-70), 3) := by decide +kernel
theorem dX4_digest_139 : decode cX4_digest 139 = .ok (.iconst 0, 1) := by decide +kernel
theorem dX4_digest_140 : decode cX4_digest 140 = .ok (.istore_n 3, 1) := by decide +kernel
theorem dX4_digest_141 : decode cX4_digest 141 = .ok (.iload_n 3, 1) := by decide +kernel
theorem dX4_digest_142 : decode cX4_digest 142 = .ok (.aload_n 0, 1) := by decide +kernel
theorem dX4_digest_143 : decode cX4_digest 143 = .ok (.getfield 10, 3) := by decide +kernel
theorem dX4_digest_146 : decode cX4_digest 146 = .ok (.getfield 128, 3) := by decide +kernel
theorem dX4_digest_149 : decode cX4_digest 149 = .ok (.iconst 1, 1) := by decide +kernel
theorem dX4_digest_150 : decode cX4_digest 150 = .ok (.isub, 1) := by decide +kernel
theorem dX4_digest_151 : decode cX4_digest 151 = .ok (.if_icmp .ge 38, 3) := by decide +kernel
theorem dX4_digest_154 : decode cX4_digest 154 = .ok (.lload_n 1, 1) := by decide +kernel
theorem dX4_digest_155 : decode cX4_digest 155 = .ok (.aload_n 0, 1) := by decide +kernel
theorem dX4_digest_156 : decode cX4_digest 156 = .ok (.iload_n 3, 1) := by decide +kernel
theorem dX4_digest_157 : decode cX4_digest 157 = .ok (.invokevirtual 232, 3) := by decide +kernel
theorem dX4_digest_160 : decode cX4_digest 160 = .ok (.i2l, 1) := by decide +kernel
theorem dX4_digest_161 : decode cX4_digest 161 = .ok (.invokestatic 203, 3) := by decide +kernel
theorem dX4_digest_164 : decode cX4_digest 164 = .ok (.lstore_n 1, 1) := by decide +kernel
theorem dX4_digest_165 : decode cX4_digest 165 = .ok (.lload_n 1, 1) := by decide +kernel
theorem dX4_digest_166 : decode cX4_digest 166 = .ok (.aload_n 0, 1) := by decide +kernel
theorem dX4_digest_167 : decode cX4_digest 167 = .ok (.iload_n 3, 1) := by decide +kernel
theorem dX4_digest_168 : decode cX4_digest 168 = .ok (.invokevirtual 235, 3) := by decide +kernel
theorem dX4_digest_171 : decode cX4_digest 171 = .ok (.ifCond .eq 7, 3) := by decide +kernel
theorem dX4_digest_174 : decode cX4_digest 174 = .ok (.lconst 1, 1) := by decide +kernel
theorem dX4_digest_175 : decode cX4_digest 175 = .ok (.goto 4, 3) := by decide +kernel
theorem dX4_digest_178 : decode cX4_digest 178 = .ok (.lconst 0, 1) := by decide +kernel
theorem dX4_digest_179 : decode cX4_digest 179 = .ok (.invokestatic 203, 3) := by decide +kernel
theorem dX4_digest_182 : decode cX4_digest 182 = .ok (.lstore_n 1, 1) := by decide +kernel
theorem dX4_digest_183 : decode cX4_digest 183 = .ok (.iinc 3 1, 3) := by decide +kernel
theorem dX4_digest_186 : decode cX4_digest 186 = .ok (.goto (-45), 3) := by decide +kernel
theorem dX4_digest_189 : decode cX4_digest 189 = .ok (.iconst 0, 1) := by decide +kernel
theorem dX4_digest_190 : decode cX4_digest 190 = .ok (.istore_n 3, 1) := by decide +kernel
theorem dX4_digest_191 : decode cX4_digest 191 = .ok (.iload_n 3, 1) := by decide +kernel
theorem dX4_digest_192 : decode cX4_digest 192 = .ok (.aload_n 0, 1) := by decide +kernel
theorem dX4_digest_193 : decode cX4_digest 193 = .ok (.getfield 10, 3) := by decide +kernel
theorem dX4_digest_196 : decode cX4_digest 196 = .ok (.getfield 76, 3) := by decide +kernel
theorem dX4_digest_199 : decode cX4_digest 199 = .ok (.if_icmp .ge 27, 3) := by decide +kernel
theorem dX4_digest_202 : decode cX4_digest 202 = .ok (.lload_n 1, 1) := by decide +kernel
theorem dX4_digest_203 : decode cX4_digest 203 = .ok (.aload_n 0, 1) := by decide +kernel
theorem dX4_digest_204 : decode cX4_digest 204 = .ok (.iload_n 3, 1) := by decide +kernel
theorem dX4_digest_205 : decode cX4_digest 205 = .ok (.invokevirtual 238, 3) := by decide +kernel
theorem dX4_digest_208 : decode cX4_digest 208 = .ok (.ifCond .eq 7, 3) := by decide +kernel
theorem dX4_digest_211 : decode cX4_digest 211 = .ok (.lconst 1, 1) := by decide +kernel
theorem dX4_digest_212 : decode cX4_digest 212 = .ok (.goto 4, 3) := by decide +kernel
theorem dX4_digest_215 : decode cX4_digest 215 = .ok (.lconst 0, 1) := by decide +kernel
theorem dX4_digest_216 : decode cX4_digest 216 = .ok (.invokestatic 203, 3) := by decide +kernel
theorem dX4_digest_219 : decode cX4_digest 219 = .ok (.lstore_n 1, 1) := by decide +kernel
theorem dX4_digest_220 : decode cX4_digest 220 = .ok (.iinc 3 1, 3) := by decide +kernel
theorem dX4_digest_223 : decode cX4_digest 223 = .ok (.goto (-32), 3) := by decide +kernel
theorem dX4_digest_226 : decode cX4_digest 226 = .ok (.iconst 0, 1) := by decide +kernel
theorem dX4_digest_227 : decode cX4_digest 227 = .ok (.istore_n 3, 1) := by decide +kernel
theorem dX4_digest_228 : decode cX4_digest 228 = .ok (.iload_n 3, 1) := by decide +kernel
theorem dX4_digest_229 : decode cX4_digest 229 = .ok (.aload_n 0, 1) := by decide +kernel
theorem dX4_digest_230 : decode cX4_digest 230 = .ok (.getfield 34, 3) := by decide +kernel
theorem dX4_digest_233 : decode cX4_digest 233 = .ok (.if_icmp .ge 16, 3) := by decide +kernel
theorem dX4_digest_236 : decode cX4_digest 236 = .ok (.aload_n 0, 1) := by decide +kernel
theorem dX4_digest_237 : decode cX4_digest 237 = .ok (.lload_n 1, 1) := by decide +kernel
theorem dX4_digest_238 : decode cX4_digest 238 = .ok (.iload_n 3, 1) := by decide +kernel
theorem dX4_digest_239 : decode cX4_digest 239 = .ok (.invokevirtual 241, 3) := by decide +kernel
theorem dX4_digest_242 : decode cX4_digest 242 = .ok (.lstore_n 1, 1) := by decide +kernel
theorem dX4_digest_243 : decode cX4_digest 243 = .ok (.iinc 3 1, 3) := by decide +kernel
theorem dX4_digest_246 : decode cX4_digest 246 = .ok (.goto (-18), 3) := by decide +kernel
theorem dX4_digest_249 : decode cX4_digest 249 = .ok (.lload_n 1, 1) := by decide +kernel
theorem dX4_digest_250 : decode cX4_digest 250 = .ok (.lreturn, 1) := by decide +kernel
theorem dX4_withRumour_0 : decode cX4_withRumour 0 = .ok (.lload_n 1, 1) := by decide +kernel
theorem dX4_withRumour_1 : decode cX4_withRumour 1 = .ok (.lstore 4, 2) := by decide +kernel
theorem dX4_withRumour_3 : decode cX4_withRumour 3 = .ok (.lload 4, 2) := by decide +kernel
theorem dX4_withRumour_5 : decode cX4_withRumour 5 = .ok (.aload_n 0, 1) := by decide +kernel
theorem dX4_withRumour_6 : decode cX4_withRumour 6 = .ok (.iload_n 3, 1) := by decide +kernel
theorem dX4_withRumour_7 : decode cX4_withRumour 7 = .ok (.invokevirtual 245, 3) := by decide +kernel
theorem dX4_withRumour_10 : decode cX4_withRumour 10 = .ok (.i2l, 1) := by decide +kernel
theorem dX4_withRumour_11 : decode cX4_withRumour 11 = .ok (.invokestatic 203, 3) := by decide +kernel
theorem dX4_withRumour_14 : decode cX4_withRumour 14 = .ok (.lstore 4, 2) := by decide +kernel
theorem dX4_withRumour_16 : decode cX4_withRumour 16 = .ok (.lload 4, 2) := by decide +kernel
theorem dX4_withRumour_18 : decode cX4_withRumour 18 = .ok (.aload_n 0, 1) := by decide +kernel
theorem dX4_withRumour_19 : decode cX4_withRumour 19 = .ok (.iload_n 3, 1) := by decide +kernel
theorem dX4_withRumour_20 : decode cX4_withRumour 20 = .ok (.invokevirtual 248, 3) := by decide +kernel
theorem dX4_withRumour_23 : decode cX4_withRumour 23 = .ok (.i2l, 1) := by decide +kernel
theorem dX4_withRumour_24 : decode cX4_withRumour 24 = .ok (.invokestatic 203, 3) := by decide +kernel
theorem dX4_withRumour_27 : decode cX4_withRumour 27 = .ok (.lstore 4, 2) := by decide +kernel
theorem dX4_withRumour_29 : decode cX4_withRumour 29 = .ok (.lload 4, 2) := by decide +kernel
theorem dX4_withRumour_31 : decode cX4_withRumour 31 = .ok (.aload_n 0, 1) := by decide +kernel
theorem dX4_withRumour_32 : decode cX4_withRumour 32 = .ok (.iload_n 3, 1) := by decide +kernel
theorem dX4_withRumour_33 : decode cX4_withRumour 33 = .ok (.invokevirtual 251, 3) := by decide +kernel
theorem dX4_withRumour_36 : decode cX4_withRumour 36 = .ok (.i2l, 1) := by decide +kernel
theorem dX4_withRumour_37 : decode cX4_withRumour 37 = .ok (.invokestatic 203, 3) := by decide +kernel
theorem dX4_withRumour_40 : decode cX4_withRumour 40 = .ok (.lstore 4, 2) := by decide +kernel
theorem dX4_withRumour_42 : decode cX4_withRumour 42 = .ok (.lload 4, 2) := by decide +kernel
theorem dX4_withRumour_44 : decode cX4_withRumour 44 = .ok (.aload_n 0, 1) := by decide +kernel
theorem dX4_withRumour_45 : decode cX4_withRumour 45 = .ok (.iload_n 3, 1) := by decide +kernel
theorem dX4_withRumour_46 : decode cX4_withRumour 46 = .ok (.invokevirtual 254, 3) := by decide +kernel
theorem dX4_withRumour_49 : decode cX4_withRumour 49 = .ok (.i2l, 1) := by decide +kernel
theorem dX4_withRumour_50 : decode cX4_withRumour 50 = .ok (.invokestatic 203, 3) := by decide +kernel
theorem dX4_withRumour_53 : decode cX4_withRumour 53 = .ok (.lstore 4, 2) := by decide +kernel
theorem dX4_withRumour_55 : decode cX4_withRumour 55 = .ok (.lload 4, 2) := by decide +kernel
theorem dX4_withRumour_57 : decode cX4_withRumour 57 = .ok (.aload_n 0, 1) := by decide +kernel
theorem dX4_withRumour_58 : decode cX4_withRumour 58 = .ok (.iload_n 3, 1) := by decide +kernel
theorem dX4_withRumour_59 : decode cX4_withRumour 59 = .ok (.invokevirtual 257, 3) := by decide +kernel
theorem dX4_withRumour_62 : decode cX4_withRumour 62 = .ok (.i2l, 1) := by decide +kernel
theorem dX4_withRumour_63 : decode cX4_withRumour 63 = .ok (.invokestatic 203, 3) := by decide +kernel
theorem dX4_withRumour_66 : decode cX4_withRumour 66 = .ok (.lstore 4, 2) := by decide +kernel
theorem dX4_withRumour_68 : decode cX4_withRumour 68 = .ok (.lload 4, 2) := by decide +kernel
theorem dX4_withRumour_70 : decode cX4_withRumour 70 = .ok (.aload_n 0, 1) := by decide +kernel
theorem dX4_withRumour_71 : decode cX4_withRumour 71 = .ok (.iload_n 3, 1) := by decide +kernel
theorem dX4_withRumour_72 : decode cX4_withRumour 72 = .ok (.invokevirtual 260, 3) := by decide +kernel
theorem dX4_withRumour_75 : decode cX4_withRumour 75 = .ok (.i2l, 1) := by decide +kernel
theorem dX4_withRumour_76 : decode cX4_withRumour 76 = .ok (.invokestatic 203, 3) := by decide +kernel
theorem dX4_withRumour_79 : decode cX4_withRumour 79 = .ok (.lstore 4, 2) := by decide +kernel
theorem dX4_withRumour_81 : decode cX4_withRumour 81 = .ok (.lload 4, 2) := by decide +kernel
theorem dX4_withRumour_83 : decode cX4_withRumour 83 = .ok (.aload_n 0, 1) := by decide +kernel
theorem dX4_withRumour_84 : decode cX4_withRumour 84 = .ok (.iload_n 3, 1) := by decide +kernel
theorem dX4_withRumour_85 : decode cX4_withRumour 85 = .ok (.invokevirtual 194, 3) := by decide +kernel
theorem dX4_withRumour_88 : decode cX4_withRumour 88 = .ok (.i2l, 1) := by decide +kernel
theorem dX4_withRumour_89 : decode cX4_withRumour 89 = .ok (.invokestatic 203, 3) := by decide +kernel
theorem dX4_withRumour_92 : decode cX4_withRumour 92 = .ok (.lstore 4, 2) := by decide +kernel
theorem dX4_withRumour_94 : decode cX4_withRumour 94 = .ok (.lload 4, 2) := by decide +kernel
theorem dX4_withRumour_96 : decode cX4_withRumour 96 = .ok (.aload_n 0, 1) := by decide +kernel
theorem dX4_withRumour_97 : decode cX4_withRumour 97 = .ok (.iload_n 3, 1) := by decide +kernel
theorem dX4_withRumour_98 : decode cX4_withRumour 98 = .ok (.invokevirtual 263, 3) := by decide +kernel
theorem dX4_withRumour_101 : decode cX4_withRumour 101 = .ok (.i2l, 1) := by decide +kernel
theorem dX4_withRumour_102 : decode cX4_withRumour 102 = .ok (.invokestatic 203, 3) := by decide +kernel
theorem dX4_withRumour_105 : decode cX4_withRumour 105 = .ok (.lstore 4, 2) := by decide +kernel
theorem dX4_withRumour_107 : decode cX4_withRumour 107 = .ok (.lload 4, 2) := by decide +kernel
theorem dX4_withRumour_109 : decode cX4_withRumour 109 = .ok (.aload_n 0, 1) := by decide +kernel
theorem dX4_withRumour_110 : decode cX4_withRumour 110 = .ok (.iload_n 3, 1) := by decide +kernel
theorem dX4_withRumour_111 : decode cX4_withRumour 111 = .ok (.invokevirtual 266, 3) := by decide +kernel
theorem dX4_withRumour_114 : decode cX4_withRumour 114 = .ok (.i2l, 1) := by decide +kernel
theorem dX4_withRumour_115 : decode cX4_withRumour 115 = .ok (.invokestatic 203, 3) := by decide +kernel
theorem dX4_withRumour_118 : decode cX4_withRumour 118 = .ok (.lstore 4, 2) := by decide +kernel
theorem dX4_withRumour_120 : decode cX4_withRumour 120 = .ok (.iconst 0, 1) := by decide +kernel
theorem dX4_withRumour_121 : decode cX4_withRumour 121 = .ok (.istore 6, 2) := by decide +kernel
theorem dX4_withRumour_123 : decode cX4_withRumour 123 = .ok (.iload 6, 2) := by decide +kernel
theorem dX4_withRumour_125 : decode cX4_withRumour 125 = .ok (.aload_n 0, 1) := by decide +kernel
theorem dX4_withRumour_126 : decode cX4_withRumour 126 = .ok (.getfield 10, 3) := by decide +kernel
theorem dX4_withRumour_129 : decode cX4_withRumour 129 = .ok (.getfield 128, 3) := by decide +kernel
theorem dX4_withRumour_132 : decode cX4_withRumour 132 = .ok (.if_icmp .ge 69, 3) := by decide +kernel
theorem dX4_withRumour_135 : decode cX4_withRumour 135 = .ok (.lload 4, 2) := by decide +kernel
theorem dX4_withRumour_137 : decode cX4_withRumour 137 = .ok (.aload_n 0, 1) := by decide +kernel
theorem dX4_withRumour_138 : decode cX4_withRumour 138 = .ok (.iload_n 3, 1) := by decide +kernel
theorem dX4_withRumour_139 : decode cX4_withRumour 139 = .ok (.iload 6, 2) := by decide +kernel
theorem dX4_withRumour_141 : decode cX4_withRumour 141 = .ok (.invokevirtual 269, 3) := by decide +kernel
theorem dX4_withRumour_144 : decode cX4_withRumour 144 = .ok (.i2l, 1) := by decide +kernel
theorem dX4_withRumour_145 : decode cX4_withRumour 145 = .ok (.invokestatic 203, 3) := by decide +kernel
theorem dX4_withRumour_148 : decode cX4_withRumour 148 = .ok (.lstore 4, 2) := by decide +kernel
theorem dX4_withRumour_150 : decode cX4_withRumour 150 = .ok (.lload 4, 2) := by decide +kernel
theorem dX4_withRumour_152 : decode cX4_withRumour 152 = .ok (.aload_n 0, 1) := by decide +kernel
theorem dX4_withRumour_153 : decode cX4_withRumour 153 = .ok (.iload_n 3, 1) := by decide +kernel
theorem dX4_withRumour_154 : decode cX4_withRumour 154 = .ok (.iload 6, 2) := by decide +kernel
theorem dX4_withRumour_156 : decode cX4_withRumour 156 = .ok (.invokevirtual 272, 3) := by decide +kernel
theorem dX4_withRumour_159 : decode cX4_withRumour 159 = .ok (.i2l, 1) := by decide +kernel
theorem dX4_withRumour_160 : decode cX4_withRumour 160 = .ok (.invokestatic 203, 3) := by decide +kernel
theorem dX4_withRumour_163 : decode cX4_withRumour 163 = .ok (.lstore 4, 2) := by decide +kernel
theorem dX4_withRumour_165 : decode cX4_withRumour 165 = .ok (.lload 4, 2) := by decide +kernel
theorem dX4_withRumour_167 : decode cX4_withRumour 167 = .ok (.aload_n 0, 1) := by decide +kernel
theorem dX4_withRumour_168 : decode cX4_withRumour 168 = .ok (.iload_n 3, 1) := by decide +kernel
theorem dX4_withRumour_169 : decode cX4_withRumour 169 = .ok (.iload 6, 2) := by decide +kernel
theorem dX4_withRumour_171 : decode cX4_withRumour 171 = .ok (.invokevirtual 275, 3) := by decide +kernel
theorem dX4_withRumour_174 : decode cX4_withRumour 174 = .ok (.i2l, 1) := by decide +kernel
theorem dX4_withRumour_175 : decode cX4_withRumour 175 = .ok (.invokestatic 203, 3) := by decide +kernel
theorem dX4_withRumour_178 : decode cX4_withRumour 178 = .ok (.lstore 4, 2) := by decide +kernel
theorem dX4_withRumour_180 : decode cX4_withRumour 180 = .ok (.lload 4, 2) := by decide +kernel
theorem dX4_withRumour_182 : decode cX4_withRumour 182 = .ok (.aload_n 0, 1) := by decide +kernel
theorem dX4_withRumour_183 : decode cX4_withRumour 183 = .ok (.iload_n 3, 1) := by decide +kernel
theorem dX4_withRumour_184 : decode cX4_withRumour 184 = .ok (.iload 6, 2) := by decide +kernel
theorem dX4_withRumour_186 : decode cX4_withRumour 186 = .ok (.invokevirtual 278, 3) := by decide +kernel
theorem dX4_withRumour_189 : decode cX4_withRumour 189 = .ok (.i2l, 1) := by decide +kernel
theorem dX4_withRumour_190 : decode cX4_withRumour 190 = .ok (.invokestatic 203, 3) := by decide +kernel
theorem dX4_withRumour_193 : decode cX4_withRumour 193 = .ok (.lstore 4, 2) := by decide +kernel
theorem dX4_withRumour_195 : decode cX4_withRumour 195 = .ok (.iinc 6 1, 3) := by decide +kernel
theorem dX4_withRumour_198 : decode cX4_withRumour 198 = .ok (.goto (-75), 3) := by decide +kernel
theorem dX4_withRumour_201 : decode cX4_withRumour 201 = .ok (.lload 4, 2) := by decide +kernel
theorem dX4_withRumour_203 : decode cX4_withRumour 203 = .ok (.lreturn, 1) := by decide +kernel
theorem dX4_mixed_0 : decode cX4_mixed 0 = .ok (.lload_n 0, 1) := by decide +kernel
theorem dX4_mixed_1 : decode cX4_mixed 1 = .ok (.ldc2_w 281, 3) := by decide +kernel
theorem dX4_mixed_4 : decode cX4_mixed 4 = .ok (.lmul, 1) := by decide +kernel
theorem dX4_mixed_5 : decode cX4_mixed 5 = .ok (.lload_n 2, 1) := by decide +kernel
theorem dX4_mixed_6 : decode cX4_mixed 6 = .ok (.ladd, 1) := by decide +kernel
theorem dX4_mixed_7 : decode cX4_mixed 7 = .ok (.lreturn, 1) := by decide +kernel
theorem dX4_needFloor_0 : decode cX4_needFloor 0 = .ok (.iload_n 1, 1) := by decide +kernel
theorem dX4_needFloor_1 : decode cX4_needFloor 1 = .ok (.ifCond .lt 14, 3) := by decide +kernel
theorem dX4_needFloor_4 : decode cX4_needFloor 4 = .ok (.iload_n 1, 1) := by decide +kernel
theorem dX4_needFloor_5 : decode cX4_needFloor 5 = .ok (.aload_n 0, 1) := by decide +kernel
theorem dX4_needFloor_6 : decode cX4_needFloor 6 = .ok (.getfield 10, 3) := by decide +kernel
theorem dX4_needFloor_9 : decode cX4_needFloor 9 = .ok (.getfield 128, 3) := by decide +kernel
theorem dX4_needFloor_12 : decode cX4_needFloor 12 = .ok (.if_icmp .lt 14, 3) := by decide +kernel
theorem dX4_needFloor_15 : decode cX4_needFloor 15 = .ok (.new 283, 3) := by decide +kernel
theorem dX4_needFloor_18 : decode cX4_needFloor 18 = .ok (.dup, 1) := by decide +kernel
theorem dX4_needFloor_19 : decode cX4_needFloor 19 = .ok (.ldc_w 285, 3) := by decide +kernel
theorem dX4_needFloor_22 : decode cX4_needFloor 22 = .ok (.invokespecial 287, 3) := by decide +kernel
theorem dX4_needFloor_25 : decode cX4_needFloor 25 = .ok (.athrow, 1) := by decide +kernel
theorem dX4_needFloor_26 : decode cX4_needFloor 26 = .ok (.return_, 1) := by decide +kernel
theorem dX4_needStairs_0 : decode cX4_needStairs 0 = .ok (.iload_n 1, 1) := by decide +kernel
theorem dX4_needStairs_1 : decode cX4_needStairs 1 = .ok (.ifCond .lt 16, 3) := by decide +kernel
theorem dX4_needStairs_4 : decode cX4_needStairs 4 = .ok (.iload_n 1, 1) := by decide +kernel
theorem dX4_needStairs_5 : decode cX4_needStairs 5 = .ok (.aload_n 0, 1) := by decide +kernel
theorem dX4_needStairs_6 : decode cX4_needStairs 6 = .ok (.getfield 10, 3) := by decide +kernel
theorem dX4_needStairs_9 : decode cX4_needStairs 9 = .ok (.getfield 128, 3) := by decide +kernel
theorem dX4_needStairs_12 : decode cX4_needStairs 12 = .ok (.iconst 1, 1) := by decide +kernel
theorem dX4_needStairs_13 : decode cX4_needStairs 13 = .ok (.isub, 1) := by decide +kernel
theorem dX4_needStairs_14 : decode cX4_needStairs 14 = .ok (.if_icmp .lt 14, 3) := by decide +kernel
theorem dX4_needStairs_17 : decode cX4_needStairs 17 = .ok (.new 283, 3) := by decide +kernel
theorem dX4_needStairs_20 : decode cX4_needStairs 20 = .ok (.dup, 1) := by decide +kernel
theorem dX4_needStairs_21 : decode cX4_needStairs 21 = .ok (.ldc_w 288, 3) := by decide +kernel
theorem dX4_needStairs_24 : decode cX4_needStairs 24 = .ok (.invokespecial 287, 3) := by decide +kernel
theorem dX4_needStairs_27 : decode cX4_needStairs 27 = .ok (.athrow, 1) := by decide +kernel
theorem dX4_needStairs_28 : decode cX4_needStairs 28 = .ok (.return_, 1) := by decide +kernel
theorem dX4_needLift_0 : decode cX4_needLift 0 = .ok (.iload_n 1, 1) := by decide +kernel
theorem dX4_needLift_1 : decode cX4_needLift 1 = .ok (.ifCond .lt 14, 3) := by decide +kernel
theorem dX4_needLift_4 : decode cX4_needLift 4 = .ok (.iload_n 1, 1) := by decide +kernel
theorem dX4_needLift_5 : decode cX4_needLift 5 = .ok (.aload_n 0, 1) := by decide +kernel
theorem dX4_needLift_6 : decode cX4_needLift 6 = .ok (.getfield 10, 3) := by decide +kernel
theorem dX4_needLift_9 : decode cX4_needLift 9 = .ok (.getfield 76, 3) := by decide +kernel
theorem dX4_needLift_12 : decode cX4_needLift 12 = .ok (.if_icmp .lt 14, 3) := by decide +kernel
theorem dX4_needLift_15 : decode cX4_needLift 15 = .ok (.new 283, 3) := by decide +kernel
theorem dX4_needLift_18 : decode cX4_needLift 18 = .ok (.dup, 1) := by decide +kernel
theorem dX4_needLift_19 : decode cX4_needLift 19 = .ok (.ldc_w 290, 3) := by decide +kernel
theorem dX4_needLift_22 : decode cX4_needLift 22 = .ok (.invokespecial 287, 3) := by decide +kernel
theorem dX4_needLift_25 : decode cX4_needLift 25 = .ok (.athrow, 1) := by decide +kernel
theorem dX4_needLift_26 : decode cX4_needLift 26 = .ok (.return_, 1) := by decide +kernel
theorem dX4_needRumour_0 : decode cX4_needRumour 0 = .ok (.iload_n 1, 1) := by decide +kernel
theorem dX4_needRumour_1 : decode cX4_needRumour 1 = .ok (.ifCond .lt 11, 3) := by decide +kernel
theorem dX4_needRumour_4 : decode cX4_needRumour 4 = .ok (.iload_n 1, 1) := by decide +kernel
theorem dX4_needRumour_5 : decode cX4_needRumour 5 = .ok (.aload_n 0, 1) := by decide +kernel
theorem dX4_needRumour_6 : decode cX4_needRumour 6 = .ok (.getfield 34, 3) := by decide +kernel
theorem dX4_needRumour_9 : decode cX4_needRumour 9 = .ok (.if_icmp .lt 14, 3) := by decide +kernel
theorem dX4_needRumour_12 : decode cX4_needRumour 12 = .ok (.new 283, 3) := by decide +kernel
theorem dX4_needRumour_15 : decode cX4_needRumour 15 = .ok (.dup, 1) := by decide +kernel
theorem dX4_needRumour_16 : decode cX4_needRumour 16 = .ok (.ldc_w 292, 3) := by decide +kernel
theorem dX4_needRumour_19 : decode cX4_needRumour 19 = .ok (.invokespecial 287, 3) := by decide +kernel
theorem dX4_needRumour_22 : decode cX4_needRumour 22 = .ok (.athrow, 1) := by decide +kernel
theorem dX4_needRumour_23 : decode cX4_needRumour 23 = .ok (.return_, 1) := by decide +kernel
theorem dX4_needArgument_0 : decode cX4_needArgument 0 = .ok (.iload_n 0, 1) := by decide +kernel
theorem dX4_needArgument_1 : decode cX4_needArgument 1 = .ok (.iload_n 1, 1) := by decide +kernel
theorem dX4_needArgument_2 : decode cX4_needArgument 2 = .ok (.if_icmp .lt 8, 3) := by decide +kernel
theorem dX4_needArgument_5 : decode cX4_needArgument 5 = .ok (.iload_n 0, 1) := by decide +kernel
theorem dX4_needArgument_6 : decode cX4_needArgument 6 = .ok (.iload_n 2, 1) := by decide +kernel
theorem dX4_needArgument_7 : decode cX4_needArgument 7 = .ok (.if_icmp .le 14, 3) := by decide +kernel
theorem dX4_needArgument_10 : decode cX4_needArgument 10 = .ok (.new 294, 3) := by decide +kernel
theorem dX4_needArgument_13 : decode cX4_needArgument 13 = .ok (.dup, 1) := by decide +kernel
theorem dX4_needArgument_14 : decode cX4_needArgument 14 = .ok (.ldc_w 296, 3) := by decide +kernel
theorem dX4_needArgument_17 : decode cX4_needArgument 17 = .ok (.invokespecial 298, 3) := by decide +kernel
theorem dX4_needArgument_20 : decode cX4_needArgument 20 = .ok (.athrow, 1) := by decide +kernel
theorem dX4_needArgument_21 : decode cX4_needArgument 21 = .ok (.return_, 1) := by decide +kernel
theorem dX5_init_0 : decode cX5_init 0 = .ok (.aload_n 0, 1) := by decide +kernel
theorem dX5_init_1 : decode cX5_init 1 = .ok (.invokespecial 3, 3) := by decide +kernel
theorem dX5_init_4 : decode cX5_init 4 = .ok (.aload_n 0, 1) := by decide +kernel
theorem dX5_init_5 : decode cX5_init 5 = .ok (.bipush 12, 2) := by decide +kernel
theorem dX5_init_7 : decode cX5_init 7 = .ok (.newarray .int, 2) := by decide +kernel
theorem dX5_init_9 : decode cX5_init 9 = .ok (.putfield 9, 3) := by decide +kernel
theorem dX5_init_12 : decode cX5_init 12 = .ok (.aload_n 0, 1) := by decide +kernel
theorem dX5_init_13 : decode cX5_init 13 = .ok (.bipush 12, 2) := by decide +kernel
theorem dX5_init_15 : decode cX5_init 15 = .ok (.newarray .int, 2) := by decide +kernel
theorem dX5_init_17 : decode cX5_init 17 = .ok (.putfield 13, 3) := by decide +kernel
theorem dX5_init_20 : decode cX5_init 20 = .ok (.aload_n 0, 1) := by decide +kernel
theorem dX5_init_21 : decode cX5_init 21 = .ok (.bipush 12, 2) := by decide +kernel
theorem dX5_init_23 : decode cX5_init 23 = .ok (.newarray .int, 2) := by decide +kernel
theorem dX5_init_25 : decode cX5_init 25 = .ok (.putfield 16, 3) := by decide +kernel
theorem dX5_init_28 : decode cX5_init 28 = .ok (.aload_n 0, 1) := by decide +kernel
theorem dX5_init_29 : decode cX5_init 29 = .ok (.bipush 12, 2) := by decide +kernel
theorem dX5_init_31 : decode cX5_init 31 = .ok (.newarray .boolean, 2) := by decide +kernel
theorem dX5_init_33 : decode cX5_init 33 = .ok (.putfield 19, 3) := by decide +kernel
theorem dX5_init_36 : decode cX5_init 36 = .ok (.aload_n 0, 1) := by decide +kernel
theorem dX5_init_37 : decode cX5_init 37 = .ok (.iconst 4, 1) := by decide +kernel
theorem dX5_init_38 : decode cX5_init 38 = .ok (.newarray .int, 2) := by decide +kernel
theorem dX5_init_40 : decode cX5_init 40 = .ok (.putfield 23, 3) := by decide +kernel
theorem dX5_init_43 : decode cX5_init 43 = .ok (.aload_n 0, 1) := by decide +kernel
theorem dX5_init_44 : decode cX5_init 44 = .ok (.iconst 4, 1) := by decide +kernel
theorem dX5_init_45 : decode cX5_init 45 = .ok (.newarray .int, 2) := by decide +kernel
theorem dX5_init_47 : decode cX5_init 47 = .ok (.putfield 26, 3) := by decide +kernel
theorem dX5_init_50 : decode cX5_init 50 = .ok (.aload_n 0, 1) := by decide +kernel
theorem dX5_init_51 : decode cX5_init 51 = .ok (.iconst 4, 1) := by decide +kernel
theorem dX5_init_52 : decode cX5_init 52 = .ok (.newarray .int, 2) := by decide +kernel
theorem dX5_init_54 : decode cX5_init 54 = .ok (.putfield 29, 3) := by decide +kernel
theorem dX5_init_57 : decode cX5_init 57 = .ok (.aload_n 0, 1) := by decide +kernel
theorem dX5_init_58 : decode cX5_init 58 = .ok (.iconst 4, 1) := by decide +kernel
theorem dX5_init_59 : decode cX5_init 59 = .ok (.newarray .int, 2) := by decide +kernel
theorem dX5_init_61 : decode cX5_init 61 = .ok (.putfield 32, 3) := by decide +kernel
theorem dX5_init_64 : decode cX5_init 64 = .ok (.aload_n 0, 1) := by decide +kernel
theorem dX5_init_65 : decode cX5_init 65 = .ok (.iconst 4, 1) := by decide +kernel
theorem dX5_init_66 : decode cX5_init 66 = .ok (.newarray .boolean, 2) := by decide +kernel
theorem dX5_init_68 : decode cX5_init 68 = .ok (.putfield 35, 3) := by decide +kernel
theorem dX5_init_71 : decode cX5_init 71 = .ok (.aload_n 0, 1) := by decide +kernel
theorem dX5_init_72 : decode cX5_init 72 = .ok (.bipush 8, 2) := by decide +kernel
theorem dX5_init_74 : decode cX5_init 74 = .ok (.newarray .int, 2) := by decide +kernel
theorem dX5_init_76 : decode cX5_init 76 = .ok (.putfield 38, 3) := by decide +kernel
theorem dX5_init_79 : decode cX5_init 79 = .ok (.aload_n 0, 1) := by decide +kernel
theorem dX5_init_80 : decode cX5_init 80 = .ok (.bipush 8, 2) := by decide +kernel
theorem dX5_init_82 : decode cX5_init 82 = .ok (.newarray .int, 2) := by decide +kernel
theorem dX5_init_84 : decode cX5_init 84 = .ok (.putfield 41, 3) := by decide +kernel
theorem dX5_init_87 : decode cX5_init 87 = .ok (.aload_n 0, 1) := by decide +kernel
theorem dX5_init_88 : decode cX5_init 88 = .ok (.sipush 865, 3) := by decide +kernel
theorem dX5_init_91 : decode cX5_init 91 = .ok (.newarray .int, 2) := by decide +kernel
theorem dX5_init_93 : decode cX5_init 93 = .ok (.putfield 44, 3) := by decide +kernel
theorem dX5_init_96 : decode cX5_init 96 = .ok (.aload_n 0, 1) := by decide +kernel
theorem dX5_init_97 : decode cX5_init 97 = .ok (.sipush 865, 3) := by decide +kernel
theorem dX5_init_100 : decode cX5_init 100 = .ok (.newarray .int, 2) := by decide +kernel
theorem dX5_init_102 : decode cX5_init 102 = .ok (.putfield 47, 3) := by decide +kernel
theorem dX5_init_105 : decode cX5_init 105 = .ok (.aload_n 0, 1) := by decide +kernel
theorem dX5_init_106 : decode cX5_init 106 = .ok (.bipush 12, 2) := by decide +kernel
theorem dX5_init_108 : decode cX5_init 108 = .ok (.newarray .int, 2) := by decide +kernel
theorem dX5_init_110 : decode cX5_init 110 = .ok (.putfield 50, 3) := by decide +kernel
theorem dX5_init_113 : decode cX5_init 113 = .ok (.aload_n 0, 1) := by decide +kernel
theorem dX5_init_114 : decode cX5_init 114 = .ok (.bipush 12, 2) := by decide +kernel
theorem dX5_init_116 : decode cX5_init 116 = .ok (.newarray .int, 2) := by decide +kernel
theorem dX5_init_118 : decode cX5_init 118 = .ok (.putfield 53, 3) := by decide +kernel
theorem dX5_init_121 : decode cX5_init 121 = .ok (.aload_n 0, 1) := by decide +kernel
theorem dX5_init_122 : decode cX5_init 122 = .ok (.bipush 12, 2) := by decide +kernel
theorem dX5_init_124 : decode cX5_init 124 = .ok (.newarray .boolean, 2) := by decide +kernel
theorem dX5_init_126 : decode cX5_init 126 = .ok (.putfield 56, 3) := by decide +kernel
theorem dX5_init_129 : decode cX5_init 129 = .ok (.aload_n 0, 1) := by decide +kernel
theorem dX5_init_130 : decode cX5_init 130 = .ok (.bipush 6, 2) := by decide +kernel
theorem dX5_init_132 : decode cX5_init 132 = .ok (.invokevirtual 59, 3) := by decide +kernel
theorem dX5_init_135 : decode cX5_init 135 = .ok (.return_, 1) := by decide +kernel
theorem dX5_thrown_0 : decode cX5_thrown 0 = .ok (.aload_n 0, 1) := by decide +kernel
theorem dX5_thrown_1 : decode cX5_thrown 1 = .ok (.getfield 63, 3) := by decide +kernel
theorem dX5_thrown_4 : decode cX5_thrown 4 = .ok (.ireturn, 1) := by decide +kernel
theorem dX5_no_0 : decode cX5_no 0 = .ok (.aload_n 0, 1) := by decide +kernel
theorem dX5_no_1 : decode cX5_no 1 = .ok (.iload_n 1, 1) := by decide +kernel
theorem dX5_no_2 : decode cX5_no 2 = .ok (.putfield 63, 3) := by decide +kernel
theorem dX5_no_5 : decode cX5_no 5 = .ok (.iconst 0, 1) := by decide +kernel
theorem dX5_no_6 : decode cX5_no 6 = .ok (.ireturn, 1) := by decide +kernel
theorem dX5_isNot_0 : decode cX5_isNot 0 = .ok (.aload_n 0, 1) := by decide +kernel
theorem dX5_isNot_1 : decode cX5_isNot 1 = .ok (.iload_n 1, 1) := by decide +kernel
theorem dX5_isNot_2 : decode cX5_isNot 2 = .ok (.putfield 63, 3) := by decide +kernel
theorem dX5_isNot_5 : decode cX5_isNot 5 = .ok (.iconst 0, 1) := by decide +kernel
theorem dX5_isNot_6 : decode cX5_isNot 6 = .ok (.ireturn, 1) := by decide +kernel
theorem dX5_ok_0 : decode cX5_ok 0 = .ok (.aload_n 0, 1) := by decide +kernel
theorem dX5_ok_1 : decode cX5_ok 1 = .ok (.iconst 0, 1) := by decide +kernel
theorem dX5_ok_2 : decode cX5_ok 2 = .ok (.putfield 63, 3) := by decide +kernel
theorem dX5_ok_5 : decode cX5_ok 5 = .ok (.iload_n 1, 1) := by decide +kernel
theorem dX5_ok_6 : decode cX5_ok 6 = .ok (.ireturn, 1) := by decide +kernel
theorem dX5_isIn_0 : decode cX5_isIn 0 = .ok (.iload_n 0, 1) := by decide +kernel
theorem dX5_isIn_1 : decode cX5_isIn 1 = .ok (.iload_n 1, 1) := by decide +kernel
theorem dX5_isIn_2 : decode cX5_isIn 2 = .ok (.if_icmp .lt 12, 3) := by decide +kernel
theorem dX5_isIn_5 : decode cX5_isIn 5 = .ok (.iload_n 0, 1) := by decide +kernel
theorem dX5_isIn_6 : decode cX5_isIn 6 = .ok (.iload_n 2, 1) := by decide +kernel
theorem dX5_isIn_7 : decode cX5_isIn 7 = .ok (.if_icmp .gt 7, 3) := by decide +kernel
theorem dX5_isIn_10 : decode cX5_isIn 10 = .ok (.iconst 1, 1) := by decide +kernel
theorem dX5_isIn_11 : decode cX5_isIn 11 = .ok (.goto 4, 3) := by decide +kernel
theorem dX5_isIn_14 : decode cX5_isIn 14 = .ok (.iconst 0, 1) := by decide +kernel
theorem dX5_isIn_15 : decode cX5_isIn 15 = .ok (.ireturn, 1) := by decide +kernel
theorem dX5_isFloor_0 : decode cX5_isFloor 0 = .ok (.iload_n 1, 1) := by decide +kernel
theorem dX5_isFloor_1 : decode cX5_isFloor 1 = .ok (.iconst 0, 1) := by decide +kernel
theorem dX5_isFloor_2 : decode cX5_isFloor 2 = .ok (.aload_n 0, 1) := by decide +kernel
theorem dX5_isFloor_3 : decode cX5_isFloor 3 = .ok (.getfield 67, 3) := by decide +kernel
theorem dX5_isFloor_6 : decode cX5_isFloor 6 = .ok (.iconst 1, 1) := by decide +kernel
theorem dX5_isFloor_7 : decode cX5_isFloor 7 = .ok (.isub, 1) := by decide +kernel
theorem dX5_isFloor_8 : decode cX5_isFloor 8 = .ok (.invokestatic 70, 3) := by decide +kernel
theorem dX5_isFloor_11 : decode cX5_isFloor 11 = .ok (.ireturn, 1) := by decide +kernel
theorem dX5_isStairs_0 : decode cX5_isStairs 0 = .ok (.iload_n 1, 1) := by decide +kernel
theorem dX5_isStairs_1 : decode cX5_isStairs 1 = .ok (.iconst 0, 1) := by decide +kernel
theorem dX5_isStairs_2 : decode cX5_isStairs 2 = .ok (.aload_n 0, 1) := by decide +kernel
theorem dX5_isStairs_3 : decode cX5_isStairs 3 = .ok (.getfield 67, 3) := by decide +kernel
theorem dX5_isStairs_6 : decode cX5_isStairs 6 = .ok (.iconst 2, 1) := by decide +kernel
theorem dX5_isStairs_7 : decode cX5_isStairs 7 = .ok (.isub, 1) := by decide +kernel
theorem dX5_isStairs_8 : decode cX5_isStairs 8 = .ok (.invokestatic 70, 3) := by decide +kernel
theorem dX5_isStairs_11 : decode cX5_isStairs 11 = .ok (.ireturn, 1) := by decide +kernel
theorem dX5_isLift_0 : decode cX5_isLift 0 = .ok (.iload_n 1, 1) := by decide +kernel
theorem dX5_isLift_1 : decode cX5_isLift 1 = .ok (.iconst 0, 1) := by decide +kernel
theorem dX5_isLift_2 : decode cX5_isLift 2 = .ok (.aload_n 0, 1) := by decide +kernel
theorem dX5_isLift_3 : decode cX5_isLift 3 = .ok (.getfield 74, 3) := by decide +kernel
theorem dX5_isLift_6 : decode cX5_isLift 6 = .ok (.iconst 1, 1) := by decide +kernel
theorem dX5_isLift_7 : decode cX5_isLift 7 = .ok (.isub, 1) := by decide +kernel
theorem dX5_isLift_8 : decode cX5_isLift 8 = .ok (.invokestatic 70, 3) := by decide +kernel
theorem dX5_isLift_11 : decode cX5_isLift 11 = .ok (.ireturn, 1) := by decide +kernel
theorem dX5_isRumour_0 : decode cX5_isRumour 0 = .ok (.iload_n 1, 1) := by decide +kernel
theorem dX5_isRumour_1 : decode cX5_isRumour 1 = .ok (.iconst 0, 1) := by decide +kernel
theorem dX5_isRumour_2 : decode cX5_isRumour 2 = .ok (.aload_n 0, 1) := by decide +kernel
theorem dX5_isRumour_3 : decode cX5_isRumour 3 = .ok (.getfield 77, 3) := by decide +kernel
theorem dX5_isRumour_6 : decode cX5_isRumour 6 = .ok (.iconst 1, 1) := by decide +kernel
theorem dX5_isRumour_7 : decode cX5_isRumour 7 = .ok (.isub, 1) := by decide +kernel
theorem dX5_isRumour_8 : decode cX5_isRumour 8 = .ok (.invokestatic 70, 3) := by decide +kernel
theorem dX5_isRumour_11 : decode cX5_isRumour 11 = .ok (.ireturn, 1) := by decide +kernel
theorem dX5_anew_0 : decode cX5_anew 0 = .ok (.aload_n 0, 1) := by decide +kernel
theorem dX5_anew_1 : decode cX5_anew 1 = .ok (.iload_n 1, 1) := by decide +kernel
theorem dX5_anew_2 : decode cX5_anew 2 = .ok (.putfield 67, 3) := by decide +kernel
theorem dX5_anew_5 : decode cX5_anew 5 = .ok (.aload_n 0, 1) := by decide +kernel
theorem dX5_anew_6 : decode cX5_anew 6 = .ok (.iconst 0, 1) := by decide +kernel
theorem dX5_anew_7 : decode cX5_anew 7 = .ok (.putfield 74, 3) := by decide +kernel
theorem dX5_anew_10 : decode cX5_anew 10 = .ok (.aload_n 0, 1) := by decide +kernel
theorem dX5_anew_11 : decode cX5_anew 11 = .ok (.iconst 0, 1) := by decide +kernel
theorem dX5_anew_12 : decode cX5_anew 12 = .ok (.putfield 77, 3) := by decide +kernel
theorem dX5_anew_15 : decode cX5_anew 15 = .ok (.iconst 0, 1) := by decide +kernel
theorem dX5_anew_16 : decode cX5_anew 16 = .ok (.istore_n 2, 1) := by decide +kernel
theorem dX5_anew_17 : decode cX5_anew 17 = .ok (.iload_n 2, 1) := by decide +kernel
theorem dX5_anew_18 : decode cX5_anew 18 = .ok (.bipush 12, 2) := by decide +kernel
theorem dX5_anew_20 : decode cX5_anew 20 = .ok (.if_icmp .ge 38, 3) := by decide +kernel
theorem dX5_anew_23 : decode cX5_anew 23 = .ok (.aload_n 0, 1) := by decide +kernel
theorem dX5_anew_24 : decode cX5_anew 24 = .ok (.getfield 9, 3) := by decide +kernel
theorem dX5_anew_27 : decode cX5_anew 27 = .ok (.iload_n 2, 1) := by decide +kernel
theorem dX5_anew_28 : decode cX5_anew 28 = .ok (.bipush 10, 2) := by decide +kernel
theorem dX5_anew_30 : decode cX5_anew 30 = .ok (.iastore, 1) := by decide +kernel
theorem dX5_anew_31 : decode cX5_anew 31 = .ok (.aload_n 0, 1) := by decide +kernel
theorem dX5_anew_32 : decode cX5_anew 32 = .ok (.getfield 13, 3) := by decide +kernel
theorem dX5_anew_35 : decode cX5_anew 35 = .ok (.iload_n 2, 1) := by decide +kernel
theorem dX5_anew_36 : decode cX5_anew 36 = .ok (.iconst 2, 1) := by decide +kernel
theorem dX5_anew_37 : decode cX5_anew 37 = .ok (.iastore, 1) := by decide +kernel
theorem dX5_anew_38 : decode cX5_anew 38 = .ok (.aload_n 0, 1) := by decide +kernel
theorem dX5_anew_39 : decode cX5_anew 39 = .ok (.getfield 16, 3) := by decide +kernel
theorem dX5_anew_42 : decode cX5_anew 42 = .ok (.iload_n 2, 1) := by decide +kernel
theorem dX5_anew_43 : decode cX5_anew 43 = .ok (.iconst 3, 1) := by decide +kernel
theorem dX5_anew_44 : decode cX5_anew 44 = .ok (.iastore, 1) := by decide +kernel
theorem dX5_anew_45 : decode cX5_anew 45 = .ok (.aload_n 0, 1) := by decide +kernel
theorem dX5_anew_46 : decode cX5_anew 46 = .ok (.getfield 19, 3) := by decide +kernel
theorem dX5_anew_49 : decode cX5_anew 49 = .ok (.iload_n 2, 1) := by decide +kernel
theorem dX5_anew_50 : decode cX5_anew 50 = .ok (.iconst 1, 1) := by decide +kernel
theorem dX5_anew_51 : decode cX5_anew 51 = .ok (.bastore, 1) := by decide +kernel
theorem dX5_anew_52 : decode cX5_anew 52 = .ok (.iinc 2 1, 3) := by decide +kernel
theorem dX5_anew_55 : decode cX5_anew 55 = .ok (.goto (-38), 3) := by decide +kernel
theorem dX5_anew_58 : decode cX5_anew 58 = .ok (.return_, 1) := by decide +kernel
theorem dX5_keep_0 : decode cX5_keep 0 = .ok (.aload_n 0, 1) := by decide +kernel
theorem dX5_keep_1 : decode cX5_keep 1 = .ok (.getfield 44, 3) := by decide +kernel
theorem dX5_keep_4 : decode cX5_keep 4 = .ok (.iconst 0, 1) := by decide +kernel
theorem dX5_keep_5 : decode cX5_keep 5 = .ok (.aload_n 0, 1) := by decide +kernel
theorem dX5_keep_6 : decode cX5_keep 6 = .ok (.getfield 47, 3) := by decide +kernel
theorem dX5_keep_9 : decode cX5_keep 9 = .ok (.iconst 0, 1) := by decide +kernel
theorem dX5_keep_10 : decode cX5_keep 10 = .ok (.sipush 865, 3) := by decide +kernel
theorem dX5_keep_13 : decode cX5_keep 13 = .ok (.invokestatic 80, 3) := by decide +kernel
theorem dX5_keep_16 : decode cX5_keep 16 = .ok (.return_, 1) := by decide +kernel
theorem dX5_bringBack_0 : decode cX5_bringBack 0 = .ok (.aload_n 0, 1) := by decide +kernel
theorem dX5_bringBack_1 : decode cX5_bringBack 1 = .ok (.getfield 47, 3) := by decide +kernel
theorem dX5_bringBack_4 : decode cX5_bringBack 4 = .ok (.iconst 0, 1) := by decide +kernel
theorem dX5_bringBack_5 : decode cX5_bringBack 5 = .ok (.aload_n 0, 1) := by decide +kernel
theorem dX5_bringBack_6 : decode cX5_bringBack 6 = .ok (.getfield 44, 3) := by decide +kernel
theorem dX5_bringBack_9 : decode cX5_bringBack 9 = .ok (.iconst 0, 1) := by decide +kernel
theorem dX5_bringBack_10 : decode cX5_bringBack 10 = .ok (.sipush 865, 3) := by decide +kernel
theorem dX5_bringBack_13 : decode cX5_bringBack 13 = .ok (.invokestatic 80, 3) := by decide +kernel
theorem dX5_bringBack_16 : decode cX5_bringBack 16 = .ok (.return_, 1) := by decide +kernel
theorem dX5_isServed_0 : decode cX5_isServed 0 = .ok (.iload_n 2, 1) := by decide +kernel
theorem dX5_isServed_1 : decode cX5_isServed 1 = .ok (.aload_n 0, 1) := by decide +kernel
theorem dX5_isServed_2 : decode cX5_isServed 2 = .ok (.getfield 23, 3) := by decide +kernel
theorem dX5_isServed_5 : decode cX5_isServed 5 = .ok (.iload_n 1, 1) := by decide +kernel
theorem dX5_isServed_6 : decode cX5_isServed 6 = .ok (.iaload, 1) := by decide +kernel
theorem dX5_isServed_7 : decode cX5_isServed 7 = .ok (.aload_n 0, 1) := by decide +kernel
theorem dX5_isServed_8 : decode cX5_isServed 8 = .ok (.getfield 26, 3) := by decide +kernel
theorem dX5_isServed_11 : decode cX5_isServed 11 = .ok (.iload_n 1, 1) := by decide +kernel
theorem dX5_isServed_12 : decode cX5_isServed 12 = .ok (.iaload, 1) := by decide +kernel
theorem dX5_isServed_13 : decode cX5_isServed 13 = .ok (.invokestatic 70, 3) := by decide +kernel
theorem dX5_isServed_16 : decode cX5_isServed 16 = .ok (.ifCond .eq 25, 3) := by decide +kernel
theorem dX5_isServed_19 : decode cX5_isServed 19 = .ok (.iload_n 2, 1) := by decide +kernel
theorem dX5_isServed_20 : decode cX5_isServed 20 = .ok (.aload_n 0, 1) := by decide +kernel
theorem dX5_isServed_21 : decode cX5_isServed 21 = .ok (.getfield 23, 3) := by decide +kernel
theorem dX5_isServed_24 : decode cX5_isServed 24 = .ok (.iload_n 1, 1) := by decide +kernel
theorem dX5_isServed_25 : decode cX5_isServed 25 = .ok (.iaload, 1) := by decide +kernel
theorem dX5_isServed_26 : decode cX5_isServed 26 = .ok (.isub, 1) := by decide +kernel
theorem dX5_isServed_27 : decode cX5_isServed 27 = .ok (.aload_n 0, 1) := by decide +kernel
theorem dX5_isServed_28 : decode cX5_isServed 28 = .ok (.getfield 29, 3) := by decide +kernel
theorem dX5_isServed_31 : decode cX5_isServed 31 = .ok (.iload_n 1, 1) := by decide +kernel
theorem dX5_isServed_32 : decode cX5_isServed 32 = .ok (.iaload, 1) := by decide +kernel
theorem dX5_isServed_33 : decode cX5_isServed 33 = .ok (.irem, 1) := by decide +kernel
theorem dX5_isServed_34 : decode cX5_isServed 34 = .ok (.ifCond .ne 7, 3) := by decide +kernel
theorem dX5_isServed_37 : decode cX5_isServed 37 = .ok (.iconst 1, 1) := by decide +kernel
theorem dX5_isServed_38 : decode cX5_isServed 38 = .ok (.goto 4, 3) := by decide +kernel
theorem dX5_isServed_41 : decode cX5_isServed 41 = .ok (.iconst 0, 1) := by decide +kernel
theorem dX5_isServed_42 : decode cX5_isServed 42 = .ok (.ireturn, 1) := by decide +kernel
theorem dX5_hoursOf_0 : decode cX5_hoursOf 0 = .ok (.iload_n 1, 1) := by decide +kernel
theorem dX5_hoursOf_1 : decode cX5_hoursOf 1 = .ok (.iload_n 2, 1) := by decide +kernel
theorem dX5_hoursOf_2 : decode cX5_hoursOf 2 = .ok (.if_icmp .ne 5, 3) := by decide +kernel
theorem dX5_hoursOf_5 : decode cX5_hoursOf 5 = .ok (.iconst (-1), 1) := by decide +kernel
theorem dX5_hoursOf_6 : decode cX5_hoursOf 6 = .ok (.ireturn, 1) := by decide +kernel
theorem dX5_hoursOf_7 : decode cX5_hoursOf 7 = .ok (.iload_n 1, 1) := by decide +kernel
theorem dX5_hoursOf_8 : decode cX5_hoursOf 8 = .ok (.iload_n 2, 1) := by decide +kernel
theorem dX5_hoursOf_9 : decode cX5_hoursOf 9 = .ok (.invokestatic 86, 3) := by decide +kernel
theorem dX5_hoursOf_12 : decode cX5_hoursOf 12 = .ok (.istore_n 3, 1) := by decide +kernel
theorem dX5_hoursOf_13 : decode cX5_hoursOf 13 = .ok (.iload_n 1, 1) := by decide +kernel
theorem dX5_hoursOf_14 : decode cX5_hoursOf 14 = .ok (.iload_n 2, 1) := by decide +kernel
theorem dX5_hoursOf_15 : decode cX5_hoursOf 15 = .ok (.invokestatic 92, 3) := by decide +kernel
theorem dX5_hoursOf_18 : decode cX5_hoursOf 18 = .ok (.iload_n 3, 1) := by decide +kernel
theorem dX5_hoursOf_19 : decode cX5_hoursOf 19 = .ok (.isub, 1) := by decide +kernel
theorem dX5_hoursOf_20 : decode cX5_hoursOf 20 = .ok (.istore 4, 2) := by decide +kernel
theorem dX5_hoursOf_22 : decode cX5_hoursOf 22 = .ok (.iload 4, 2) := by decide +kernel
theorem dX5_hoursOf_24 : decode cX5_hoursOf 24 = .ok (.iconst 1, 1) := by decide +kernel
theorem dX5_hoursOf_25 : decode cX5_hoursOf 25 = .ok (.if_icmp .ne 21, 3) := by decide +kernel
theorem dX5_hoursOf_28 : decode cX5_hoursOf 28 = .ok (.aload_n 0, 1) := by decide +kernel
theorem dX5_hoursOf_29 : decode cX5_hoursOf 29 = .ok (.getfield 19, 3) := by decide +kernel
theorem dX5_hoursOf_32 : decode cX5_hoursOf 32 = .ok (.iload_n 3, 1) := by decide +kernel
theorem dX5_hoursOf_33 : decode cX5_hoursOf 33 = .ok (.baload, 1) := by decide +kernel
theorem dX5_hoursOf_34 : decode cX5_hoursOf 34 = .ok (.ifCond .eq 12, 3) := by decide +kernel
theorem dX5_hoursOf_37 : decode cX5_hoursOf 37 = .ok (.aload_n 0, 1) := by decide +kernel
theorem dX5_hoursOf_38 : decode cX5_hoursOf 38 = .ok (.getfield 16, 3) := by decide +kernel
theorem dX5_hoursOf_41 : decode cX5_hoursOf 41 = .ok (.iload_n 3, 1) := by decide +kernel
theorem dX5_hoursOf_42 : decode cX5_hoursOf 42 = .ok (.iaload, 1) := by decide +kernel
theorem dX5_hoursOf_43 : decode cX5_hoursOf 43 = .ok (.goto 4, 3) := by decide +kernel
theorem dX5_hoursOf_46 : decode cX5_hoursOf 46 = .ok (.iconst (-1), 1) := by decide +kernel
theorem dX5_hoursOf_47 : decode cX5_hoursOf 47 = .ok (.istore 5, 2) := by decide +kernel
theorem dX5_hoursOf_49 : decode cX5_hoursOf 49 = .ok (.iconst 0, 1) := by decide +kernel
theorem dX5_hoursOf_50 : decode cX5_hoursOf 50 = .ok (.istore 6, 2) := by decide +kernel
theorem dX5_hoursOf_52 : decode cX5_hoursOf 52 = .ok (.iload 6, 2) := by decide +kernel
theorem dX5_hoursOf_54 : decode cX5_hoursOf 54 = .ok (.aload_n 0, 1) := by decide +kernel
theorem dX5_hoursOf_55 : decode cX5_hoursOf 55 = .ok (.getfield 74, 3) := by decide +kernel
theorem dX5_hoursOf_58 : decode cX5_hoursOf 58 = .ok (.if_icmp .ge 76, 3) := by decide +kernel
theorem dX5_hoursOf_61 : decode cX5_hoursOf 61 = .ok (.aload_n 0, 1) := by decide +kernel
theorem dX5_hoursOf_62 : decode cX5_hoursOf 62 = .ok (.getfield 35, 3) := by decide +kernel
theorem dX5_hoursOf_65 : decode cX5_hoursOf 65 = .ok (.iload 6, 2) := by decide +kernel
theorem dX5_hoursOf_67 : decode cX5_hoursOf 67 = .ok (.baload, 1) := by decide +kernel
theorem dX5_hoursOf_68 : decode cX5_hoursOf 68 = .ok (.ifCond .eq 60, 3) := by decide +kernel
theorem dX5_hoursOf_71 : decode cX5_hoursOf 71 = .ok (.aload_n 0, 1) := by decide +kernel
theorem dX5_hoursOf_72 : decode cX5_hoursOf 72 = .ok (.iload 6, 2) := by decide +kernel
theorem dX5_hoursOf_74 : decode cX5_hoursOf 74 = .ok (.iload_n 1, 1) := by decide +kernel
theorem dX5_hoursOf_75 : decode cX5_hoursOf 75 = .ok (.invokevirtual 95, 3) := by decide +kernel
theorem dX5_hoursOf_78 : decode cX5_hoursOf 78 = .ok (.ifCond .eq 50, 3) := by decide +kernel
theorem dX5_hoursOf_81 : decode cX5_hoursOf 81 = .ok (.aload_n 0, 1) := by decide +kernel
theorem dX5_hoursOf_82 : decode cX5_hoursOf 82 = .ok (.iload 6, 2) := by decide +kernel
theorem dX5_hoursOf_84 : decode cX5_hoursOf 84 = .ok (.iload_n 2, 1) := by decide +kernel
theorem dX5_hoursOf_85 : decode cX5_hoursOf 85 = .ok (.invokevirtual 95, 3) := by decide +kernel
theorem dX5_hoursOf_88 : decode cX5_hoursOf 88 = .ok (.ifCond .ne 6, 3) := by decide +kernel
theorem dX5_hoursOf_91 : decode cX5_hoursOf 91 = .ok (.goto 37, 3) := by decide +kernel
theorem dX5_hoursOf_94 : decode cX5_hoursOf 94 = .ok (.aload_n 0, 1) := by decide +kernel
theorem dX5_hoursOf_95 : decode cX5_hoursOf 95 = .ok (.getfield 32, 3) := by decide +kernel
theorem dX5_hoursOf_98 : decode cX5_hoursOf 98 = .ok (.iload 6, 2) := by decide +kernel
theorem dX5_hoursOf_100 : decode cX5_hoursOf 100 = .ok (.iaload, 1) := by decide +kernel
theorem dX5_hoursOf_101 : decode cX5_hoursOf 101 = .ok (.iload 4, 2) := by decide +kernel
theorem dX5_hoursOf_103 : decode cX5_hoursOf 103 = .ok (.iconst 2, 1) := by decide +kernel
theorem dX5_hoursOf_104 : decode cX5_hoursOf 104 = .ok (.idiv, 1) := by decide +kernel
theorem dX5_hoursOf_105 : decode cX5_hoursOf 105 = .ok (.iadd, 1) := by decide +kernel
theorem dX5_hoursOf_106 : decode cX5_hoursOf 106 = .ok (.istore 7, 2) := by decide +kernel
theorem dX5_hoursOf_108 : decode cX5_hoursOf 108 = .ok (.iload 5, 2) := by decide +kernel
theorem dX5_hoursOf_110 : decode cX5_hoursOf 110 = .ok (.iconst (-1), 1) := by decide +kernel
theorem dX5_hoursOf_111 : decode cX5_hoursOf 111 = .ok (.if_icmp .ne 8, 3) := by decide +kernel
theorem dX5_hoursOf_114 : decode cX5_hoursOf 114 = .ok (.iload 7, 2) := by decide +kernel
theorem dX5_hoursOf_116 : decode cX5_hoursOf 116 = .ok (.goto 10, 3) := by decide +kernel
theorem dX5_hoursOf_119 : decode cX5_hoursOf 119 = .ok (.iload 5, 2) := by decide +kernel
theorem dX5_hoursOf_121 : decode cX5_hoursOf 121 = .ok (.iload 7, 2) := by decide +kernel
theorem dX5_hoursOf_123 : decode cX5_hoursOf 123 = .ok (.invokestatic 86, 3) := by decide +kernel
theorem dX5_hoursOf_126 : decode cX5_hoursOf 126 = .ok (.istore 5, 2) := by decide +kernel
theorem dX5_hoursOf_128 : decode cX5_hoursOf 128 = .ok (.iinc 6 1, 3) := by decide +kernel
theorem dX5_hoursOf_131 : decode cX5_hoursOf 131 = .ok (.goto (-79), 3) := by decide +kernel
theorem dX5_hoursOf_134 : decode cX5_hoursOf 134 = .ok (.iload 5, 2) := by decide +kernel
theorem dX5_hoursOf_136 : decode cX5_hoursOf 136 = .ok (.ireturn, 1) := by decide +kernel
theorem dX5_isBetter_0 : decode cX5_isBetter 0 = .ok (.aload_n 0, 1) := by decide +kernel
theorem dX5_isBetter_1 : decode cX5_isBetter 1 = .ok (.getfield 50, 3) := by decide +kernel
theorem dX5_isBetter_4 : decode cX5_isBetter 4 = .ok (.iload_n 3, 1) := by decide +kernel
theorem dX5_isBetter_5 : decode cX5_isBetter 5 = .ok (.iaload, 1) := by decide +kernel
theorem dX5_isBetter_6 : decode cX5_isBetter 6 = .ok (.iconst (-1), 1) := by decide +kernel
theorem dX5_isBetter_7 : decode cX5_isBetter 7 = .ok (.if_icmp .eq 33, 3) := by decide +kernel
theorem dX5_isBetter_10 : decode cX5_isBetter 10 = .ok (.iload_n 1, 1) := by decide +kernel
theorem dX5_isBetter_11 : decode cX5_isBetter 11 = .ok (.aload_n 0, 1) := by decide +kernel
theorem dX5_isBetter_12 : decode cX5_isBetter 12 = .ok (.getfield 50, 3) := by decide +kernel
theorem dX5_isBetter_15 : decode cX5_isBetter 15 = .ok (.iload_n 3, 1) := by decide +kernel
theorem dX5_isBetter_16 : decode cX5_isBetter 16 = .ok (.iaload, 1) := by decide +kernel
theorem dX5_isBetter_17 : decode cX5_isBetter 17 = .ok (.if_icmp .lt 23, 3) := by decide +kernel
theorem dX5_isBetter_20 : decode cX5_isBetter 20 = .ok (.iload_n 1, 1) := by decide +kernel
theorem dX5_isBetter_21 : decode cX5_isBetter 21 = .ok (.aload_n 0, 1) := by decide +kernel
theorem dX5_isBetter_22 : decode cX5_isBetter 22 = .ok (.getfield 50, 3) := by decide +kernel
theorem dX5_isBetter_25 : decode cX5_isBetter 25 = .ok (.iload_n 3, 1) := by decide +kernel
theorem dX5_isBetter_26 : decode cX5_isBetter 26 = .ok (.iaload, 1) := by decide +kernel
theorem dX5_isBetter_27 : decode cX5_isBetter 27 = .ok (.if_icmp .ne 17, 3) := by decide +kernel
theorem dX5_isBetter_30 : decode cX5_isBetter 30 = .ok (.iload_n 2, 1) := by decide +kernel
theorem dX5_isBetter_31 : decode cX5_isBetter 31 = .ok (.aload_n 0, 1) := by decide +kernel
theorem dX5_isBetter_32 : decode cX5_isBetter 32 = .ok (.getfield 53, 3) := by decide +kernel
theorem dX5_isBetter_35 : decode cX5_isBetter 35 = .ok (.iload_n 3, 1) := by decide +kernel
theorem dX5_isBetter_36 : decode cX5_isBetter 36 = .ok (.iaload, 1) := by decide +kernel
theorem dX5_isBetter_37 : decode cX5_isBetter 37 = .ok (.if_icmp .ge 7, 3) := by decide +kernel
theorem dX5_isBetter_40 : decode cX5_isBetter 40 = .ok (.iconst 1, 1) := by decide +kernel
theorem dX5_isBetter_41 : decode cX5_isBetter 41 = .ok (.goto 4, 3) := by decide +kernel
theorem dX5_isBetter_44 : decode cX5_isBetter 44 = .ok (.iconst 0, 1) := by decide +kernel
theorem dX5_isBetter_45 : decode cX5_isBetter 45 = .ok (.ireturn, 1) := by decide +kernel
theorem dX5_ways_0 : decode cX5_ways 0 = .ok (.iconst 0, 1) := by decide +kernel
theorem dX5_ways_1 : decode cX5_ways 1 = .ok (.istore_n 2, 1) := by decide +kernel
theorem dX5_ways_2 : decode cX5_ways 2 = .ok (.iload_n 2, 1) := by decide +kernel
theorem dX5_ways_3 : decode cX5_ways 3 = .ok (.aload_n 0, 1) := by decide +kernel
theorem dX5_ways_4 : decode cX5_ways 4 = .ok (.getfield 67, 3) := by decide +kernel
theorem dX5_ways_7 : decode cX5_ways 7 = .ok (.if_icmp .ge 23, 3) := by decide +kernel
theorem dX5_ways_10 : decode cX5_ways 10 = .ok (.aload_n 0, 1) := by decide +kernel
theorem dX5_ways_11 : decode cX5_ways 11 = .ok (.getfield 50, 3) := by decide +kernel
theorem dX5_ways_14 : decode cX5_ways 14 = .ok (.iload_n 2, 1) := by decide +kernel
theorem dX5_ways_15 : decode cX5_ways 15 = .ok (.iconst (-1), 1) := by decide +kernel
theorem dX5_ways_16 : decode cX5_ways 16 = .ok (.iastore, 1) := by decide +kernel
theorem dX5_ways_17 : decode cX5_ways 17 = .ok (.aload_n 0, 1) := by decide +kernel
theorem dX5_ways_18 : decode cX5_ways 18 = .ok (.getfield 56, 3) := by decide +kernel
theorem dX5_ways_21 : decode cX5_ways 21 = .ok (.iload_n 2, 1) := by decide +kernel
theorem dX5_ways_22 : decode cX5_ways 22 = .ok (.iconst 0, 1) := by decide +kernel
theorem dX5_ways_23 : decode cX5_ways 23 = .ok (.bastore, 1) := by decide +kernel
theorem dX5_ways_24 : decode cX5_ways 24 = .ok (.iinc 2 1, 3) := by decide +kernel
theorem dX5_ways_27 : decode cX5_ways 27 = .ok (.goto (-25), 3) := by decide +kernel
theorem dX5_ways_30 : decode cX5_ways 30 = .ok (.aload_n 0, 1) := by decide +kernel
theorem dX5_ways_31 : decode cX5_ways 31 = .ok (.getfield 50, 3) := by decide +kernel
theorem dX5_ways_34 : decode cX5_ways 34 = .ok (.iload_n 1, 1) := by decide +kernel
theorem dX5_ways_35 : decode cX5_ways 35 = .ok (.iconst 0, 1) := by decide +kernel
theorem dX5_ways_36 : decode cX5_ways 36 = .ok (.iastore, 1) := by decide +kernel
theorem dX5_ways_37 : decode cX5_ways 37 = .ok (.aload_n 0, 1) := by decide +kernel
theorem dX5_ways_38 : decode cX5_ways 38 = .ok (.getfield 53, 3) := by decide +kernel
theorem dX5_ways_41 : decode cX5_ways 41 = .ok (.iload_n 1, 1) := by decide +kernel
theorem dX5_ways_42 : decode cX5_ways 42 = .ok (.iconst 0, 1) := by decide +kernel
theorem dX5_ways_43 : decode cX5_ways 43 = .ok (.iastore, 1) := by decide +kernel
theorem dX5_ways_44 : decode cX5_ways 44 = .ok (.iconst 0, 1) := by decide +kernel
theorem dX5_ways_45 : decode cX5_ways 45 = .ok (.istore_n 2, 1) := by decide +kernel
theorem dX5_ways_46 : decode cX5_ways 46 = .ok (.iload_n 2, 1) := by decide +kernel
theorem dX5_ways_47 : decode cX5_ways 47 = .ok (.aload_n 0, 1) := by decide +kernel
theorem dX5_ways_48 : decode cX5_ways 48 = .ok (.getfield 67, 3) := by decide +kernel
theorem dX5_ways_51 : decode cX5_ways 51 = .ok (.if_icmp .ge 236, 3) := by decide +kernel
theorem dX5_ways_54 : decode cX5_ways 54 = .ok (.iconst (-1), 1) := by decide +kernel
theorem dX5_ways_55 : decode cX5_ways 55 = .ok (.istore_n 3, 1) := by decide +kernel
theorem dX5_ways_56 : decode cX5_ways 56 = .ok (.iconst 0, 1) := by decide +kernel
theorem dX5_ways_57 : decode cX5_ways 57 = .ok (.istore 4, 2) := by decide +kernel
theorem dX5_ways_59 : decode cX5_ways 59 = .ok (.iload 4, 2) := by decide +kernel
theorem dX5_ways_61 : decode cX5_ways 61 = .ok (.aload_n 0, 1) := by decide +kernel
theorem dX5_ways_62 : decode cX5_ways 62 = .ok (.getfield 67, 3) := by decide +kernel
theorem dX5_ways_65 : decode cX5_ways 65 = .ok (.if_icmp .ge 86, 3) := by decide +kernel
theorem dX5_ways_68 : decode cX5_ways 68 = .ok (.aload_n 0, 1) := by decide +kernel
theorem dX5_ways_69 : decode cX5_ways 69 = .ok (.getfield 56, 3) := by decide +kernel
theorem dX5_ways_72 : decode cX5_ways 72 = .ok (.iload 4, 2) := by decide +kernel
theorem dX5_ways_74 : decode cX5_ways 74 = .ok (.baload, 1) := by decide +kernel
theorem dX5_ways_75 : decode cX5_ways 75 = .ok (.ifCond .ne 70, 3) := by decide +kernel
theorem dX5_ways_78 : decode cX5_ways 78 = .ok (.aload_n 0, 1) := by decide +kernel
theorem dX5_ways_79 : decode cX5_ways 79 = .ok (.getfield 50, 3) := by decide +kernel
theorem dX5_ways_82 : decode cX5_ways 82 = .ok (.iload 4, 2) := by decide +kernel
theorem dX5_ways_84 : decode cX5_ways 84 = .ok (.iaload, 1) := by decide +kernel
theorem dX5_ways_85 : decode cX5_ways 85 = .ok (.iconst (-1), 1) := by decide +kernel
theorem dX5_ways_86 : decode cX5_ways 86 = .ok (.if_icmp .eq 59, 3) := by decide +kernel
theorem dX5_ways_89 : decode cX5_ways 89 = .ok (.iload_n 3, 1) := by decide +kernel
theorem dX5_ways_90 : decode cX5_ways 90 = .ok (.iconst (-1), 1) := by decide +kernel
theorem dX5_ways_91 : decode cX5_ways 91 = .ok (.if_icmp .eq 51, 3) := by decide +kernel
theorem dX5_ways_94 : decode cX5_ways 94 = .ok (.aload_n 0, 1) := by decide +kernel
theorem dX5_ways_95 : decode cX5_ways 95 = .ok (.getfield 50, 3) := by decide +kernel
theorem dX5_ways_98 : decode cX5_ways 98 = .ok (.iload 4, 2) := by decide +kernel
theorem dX5_ways_100 : decode cX5_ways 100 = .ok (.iaload, 1) := by decide +kernel
theorem dX5_ways_101 : decode cX5_ways 101 = .ok (.aload_n 0, 1) := by decide +kernel
theorem dX5_ways_102 : decode cX5_ways 102 = .ok (.getfield 50, 3) := by decide +kernel
theorem dX5_ways_105 : decode cX5_ways 105 = .ok (.iload_n 3, 1) := by decide +kernel
theorem dX5_ways_106 : decode cX5_ways 106 = .ok (.iaload, 1) := by decide +kernel
theorem dX5_ways_107 : decode cX5_ways 107 = .ok (.if_icmp .lt 35, 3) := by decide +kernel
theorem dX5_ways_110 : decode cX5_ways 110 = .ok (.aload_n 0, 1) := by decide +kernel
theorem dX5_ways_111 : decode cX5_ways 111 = .ok (.getfield 50, 3) := by decide +kernel
theorem dX5_ways_114 : decode cX5_ways 114 = .ok (.iload 4, 2) := by decide +kernel
theorem dX5_ways_116 : decode cX5_ways 116 = .ok (.iaload, 1) := by decide +kernel
theorem dX5_ways_117 : decode cX5_ways 117 = .ok (.aload_n 0, 1) := by decide +kernel
theorem dX5_ways_118 : decode cX5_ways 118 = .ok (.getfield 50, 3) := by decide +kernel
theorem dX5_ways_121 : decode cX5_ways 121 = .ok (.iload_n 3, 1) := by decide +kernel
theorem dX5_ways_122 : decode cX5_ways 122 = .ok (.iaload, 1) := by decide +kernel
theorem dX5_ways_123 : decode cX5_ways 123 = .ok (.if_icmp .ne 22, 3) := by decide +kernel
theorem dX5_ways_126 : decode cX5_ways 126 = .ok (.aload_n 0, 1) := by decide +kernel
theorem dX5_ways_127 : decode cX5_ways 127 = .ok (.getfield 53, 3) := by decide +kernel
theorem dX5_ways_130 : decode cX5_ways 130 = .ok (.iload 4, 2) := by decide +kernel
theorem dX5_ways_132 : decode cX5_ways 132 = .ok (.iaload, 1) := by decide +kernel
theorem dX5_ways_133 : decode cX5_ways 133 = .ok (.aload_n 0, 1) := by decide +kernel
theorem dX5_ways_134 : decode cX5_ways 134 = .ok (.getfield 53, 3) := by decide +kernel
theorem dX5_ways_137 : decode cX5_ways 137 = .ok (.iload_n 3, 1) := by decide +kernel
theorem dX5_ways_138 : decode cX5_ways 138 = .ok (.iaload, 1) := by decide +kernel
theorem dX5_ways_139 : decode cX5_ways 139 = .ok (.if_icmp .ge 6, 3) := by decide +kernel
theorem dX5_ways_142 : decode cX5_ways 142 = .ok (.iload 4, 2) := by decide +kernel
theorem dX5_ways_144 : decode cX5_ways 144 = .ok (.istore_n 3, 1) := by decide +kernel
theorem dX5_ways_145 : decode cX5_ways 145 = .ok (.iinc 4 1, 3) := by decide +kernel
theorem dX5_ways_148 : decode cX5_ways 148 = .ok (.goto (-89), 3) := by decide +kernel
theorem dX5_ways_151 : decode cX5_ways 151 = .ok (.iload_n 3, 1) := by decide +kernel
theorem dX5_ways_152 : decode cX5_ways 152 = .ok (.iconst (-1), 1) := by decide +kernel
theorem dX5_ways_153 : decode cX5_ways 153 = .ok (.if_icmp .ne 4, 3) := by decide +kernel
theorem dX5_ways_156 : decode cX5_ways 156 = .ok (.return_, 1) := by decide +kernel
theorem dX5_ways_157 : decode cX5_ways 157 = .ok (.aload_n 0, 1) := by decide +kernel
theorem dX5_ways_158 : decode cX5_ways 158 = .ok (.getfield 56, 3) := by decide +kernel
theorem dX5_ways_161 : decode cX5_ways 161 = .ok (.iload_n 3, 1) := by decide +kernel
theorem dX5_ways_162 : decode cX5_ways 162 = .ok (.iconst 1, 1) := by decide +kernel
theorem dX5_ways_163 : decode cX5_ways 163 = .ok (.bastore, 1) := by decide +kernel
theorem dX5_ways_164 : decode cX5_ways 164 = .ok (.iconst 0, 1) := by decide +kernel
theorem dX5_ways_165 : decode cX5_ways 165 = .ok (.istore 4, 2) := by decide +kernel
theorem dX5_ways_167 : decode cX5_ways 167 = .ok (.iload 4, 2) := by decide +kernel
theorem dX5_ways_169 : decode cX5_ways 169 = .ok (.aload_n 0, 1) := by decide +kernel
theorem dX5_ways_170 : decode cX5_ways 170 = .ok (.getfield 67, 3) := by decide +kernel
theorem dX5_ways_173 : decode cX5_ways 173 = .ok (.if_icmp .ge 108, 3) := by decide +kernel
theorem dX5_ways_176 : decode cX5_ways 176 = .ok (.aload_n 0, 1) := by decide +kernel
theorem dX5_ways_177 : decode cX5_ways 177 = .ok (.iload_n 3, 1) := by decide +kernel
theorem dX5_ways_178 : decode cX5_ways 178 = .ok (.iload 4, 2) := by decide +kernel
theorem dX5_ways_180 : decode cX5_ways 180 = .ok (.invokevirtual 99, 3) := by decide +kernel
theorem dX5_ways_183 : decode cX5_ways 183 = .ok (.istore 5, 2) := by decide +kernel
theorem dX5_ways_185 : decode cX5_ways 185 = .ok (.iload 5, 2) := by decide +kernel
theorem dX5_ways_187 : decode cX5_ways 187 = .ok (.iconst (-1), 1) := by decide +kernel
theorem dX5_ways_188 : decode cX5_ways 188 = .ok (.if_icmp .eq 87, 3) := by decide +kernel
theorem dX5_ways_191 : decode cX5_ways 191 = .ok (.aload_n 0, 1) := by decide +kernel
theorem dX5_ways_192 : decode cX5_ways 192 = .ok (.getfield 56, 3) := by decide +kernel
theorem dX5_ways_195 : decode cX5_ways 195 = .ok (.iload 4, 2) := by decide +kernel
theorem dX5_ways_197 : decode cX5_ways 197 = .ok (.baload, 1) := by decide +kernel
theorem dX5_ways_198 : decode cX5_ways 198 = .ok (.ifCond .ne 77, 3) := by decide +kernel
theorem dX5_ways_201 : decode cX5_ways 201 = .ok (.aload_n 0, 1) := by decide +kernel
theorem dX5_ways_202 : decode cX5_ways 202 = .ok (.aload_n 0, 1) := by decide +kernel
theorem dX5_ways_203 : decode cX5_ways 203 = .ok (.getfield 50, 3) := by decide +kernel
theorem dX5_ways_206 : decode cX5_ways 206 = .ok (.iload_n 3, 1) := by decide +kernel
theorem dX5_ways_207 : decode cX5_ways 207 = .ok (.iaload, 1) := by decide +kernel
theorem dX5_ways_208 : decode cX5_ways 208 = .ok (.aload_n 0, 1) := by decide +kernel
theorem dX5_ways_209 : decode cX5_ways 209 = .ok (.getfield 13, 3) := by decide +kernel
theorem dX5_ways_212 : decode cX5_ways 212 = .ok (.iload_n 3, 1) := by decide +kernel
theorem dX5_ways_213 : decode cX5_ways 213 = .ok (.iaload, 1) := by decide +kernel
theorem dX5_ways_214 : decode cX5_ways 214 = .ok (.iadd, 1) := by decide +kernel
theorem dX5_ways_215 : decode cX5_ways 215 = .ok (.iload 5, 2) := by decide +kernel
theorem dX5_ways_217 : decode cX5_ways 217 = .ok (.iadd, 1) := by decide +kernel
theorem dX5_ways_218 : decode cX5_ways 218 = .ok (.aload_n 0, 1) := by decide +kernel
theorem dX5_ways_219 : decode cX5_ways 219 = .ok (.getfield 53, 3) := by decide +kernel
theorem dX5_ways_222 : decode cX5_ways 222 = .ok (.iload_n 3, 1) := by decide +kernel
theorem dX5_ways_223 : decode cX5_ways 223 = .ok (.iaload, 1) := by decide +kernel
theorem dX5_ways_224 : decode cX5_ways 224 = .ok (.iconst 1, 1) := by decide +kernel
theorem dX5_ways_225 : decode cX5_ways 225 = .ok (.iadd, 1) := by decide +kernel
theorem dX5_ways_226 : decode cX5_ways 226 = .ok (.iload 4, 2) := by decide +kernel
theorem dX5_ways_228 : decode cX5_ways 228 = .ok (.invokevirtual 102, 3) := by decide +kernel
theorem dX5_ways_231 : decode cX5_ways 231 = .ok (.ifCond .ne 6, 3) := by decide +kernel
theorem dX5_ways_234 : decode cX5_ways 234 = .ok (.goto 41, 3) := by decide +kernel
theorem dX5_ways_237 : decode cX5_ways 237 = .ok (.aload_n 0, 1) := by decide +kernel
theorem dX5_ways_238 : decode cX5_ways 238 = .ok (.getfield 50, 3) := by decide +kernel
theorem dX5_ways_241 : decode cX5_ways 241 = .ok (.iload 4, 2) := by decide +kernel
theorem dX5_ways_243 : decode cX5_ways 243 = .ok (.aload_n 0, 1) := by decide +kernel
theorem dX5_ways_244 : decode cX5_ways 244 = .ok (.getfield 50, 3) := by decide +kernel
theorem dX5_ways_247 : decode cX5_ways 247 = .ok (.iload_n 3, 1) := by decide +kernel
theorem dX5_ways_248 : decode cX5_ways 248 = .ok (.iaload, 1) := by decide +kernel
theorem dX5_ways_249 : decode cX5_ways 249 = .ok (.aload_n 0, 1) := by decide +kernel
theorem dX5_ways_250 : decode cX5_ways 250 = .ok (.getfield 13, 3) := by decide +kernel
theorem dX5_ways_253 : decode cX5_ways 253 = .ok (.iload_n 3, 1) := by decide +kernel
theorem dX5_ways_254 : decode cX5_ways 254 = .ok (.iaload, 1) := by decide +kernel
theorem dX5_ways_255 : decode cX5_ways 255 = .ok (.iadd, 1) := by decide +kernel
theorem dX5_ways_256 : decode cX5_ways 256 = .ok (.iload 5, 2) := by decide +kernel
theorem dX5_ways_258 : decode cX5_ways 258 = .ok (.iadd, 1) := by decide +kernel
theorem dX5_ways_259 : decode cX5_ways 259 = .ok (.iastore, 1) := by decide +kernel
theorem dX5_ways_260 : decode cX5_ways 260 = .ok (.aload_n 0, 1) := by decide +kernel
theorem dX5_ways_261 : decode cX5_ways 261 = .ok (.getfield 53, 3) := by decide +kernel
theorem dX5_ways_264 : decode cX5_ways 264 = .ok (.iload 4, 2) := by decide +kernel
theorem dX5_ways_266 : decode cX5_ways 266 = .ok (.aload_n 0, 1) := by decide +kernel
theorem dX5_ways_267 : decode cX5_ways 267 = .ok (.getfield 53, 3) := by decide +kernel
theorem dX5_ways_270 : decode cX5_ways 270 = .ok (.iload_n 3, 1) := by decide +kernel
theorem dX5_ways_271 : decode cX5_ways 271 = .ok (.iaload, 1) := by decide +kernel
theorem dX5_ways_272 : decode cX5_ways 272 = .ok (.iconst 1, 1) := by decide +kernel
theorem dX5_ways_273 : decode cX5_ways 273 = .ok (.iadd, 1) := by decide +kernel
theorem dX5_ways_274 : decode cX5_ways 274 = .ok (.iastore, 1) := by decide +kernel
theorem dX5_ways_275 : decode cX5_ways 275 = .ok (.iinc 4 1, 3) := by decide +kernel
theorem dX5_ways_278 : decode cX5_ways 278 = .ok (.goto (-111), 3) := by decide +kernel
theorem dX5_ways_281 : decode cX5_ways 281 = .ok (.iinc 2 1, 3) := by decide +kernel
theorem dX5_ways_284 : decode cX5_ways 284 = .ok (.goto (-238), 3) := by decide +kernel
theorem dX5_ways_287 : decode cX5_ways 287 = .ok (.return_, 1) := by decide +kernel
theorem dX5_way_0 : decode cX5_way 0 = .ok (.aload_n 0, 1) := by decide +kernel
theorem dX5_way_1 : decode cX5_way 1 = .ok (.iload_n 1, 1) := by decide +kernel
theorem dX5_way_2 : decode cX5_way 2 = .ok (.invokevirtual 105, 3) := by decide +kernel
theorem dX5_way_5 : decode cX5_way 5 = .ok (.aload_n 0, 1) := by decide +kernel
theorem dX5_way_6 : decode cX5_way 6 = .ok (.getfield 50, 3) := by decide +kernel
theorem dX5_way_9 : decode cX5_way 9 = .ok (.iload_n 2, 1) := by decide +kernel
theorem dX5_way_10 : decode cX5_way 10 = .ok (.iaload, 1) := by decide +kernel
theorem dX5_way_11 : decode cX5_way 11 = .ok (.ireturn, 1) := by decide +kernel
theorem dX5_farthest_0 : decode cX5_farthest 0 = .ok (.aload_n 0, 1) := by decide +kernel
theorem dX5_farthest_1 : decode cX5_farthest 1 = .ok (.iload_n 1, 1) := by decide +kernel
theorem dX5_farthest_2 : decode cX5_farthest 2 = .ok (.invokevirtual 105, 3) := by decide +kernel
theorem dX5_farthest_5 : decode cX5_farthest 5 = .ok (.iload_n 1, 1) := by decide +kernel
theorem dX5_farthest_6 : decode cX5_farthest 6 = .ok (.istore_n 2, 1) := by decide +kernel
theorem dX5_farthest_7 : decode cX5_farthest 7 = .ok (.iconst 0, 1) := by decide +kernel
theorem dX5_farthest_8 : decode cX5_farthest 8 = .ok (.istore_n 3, 1) := by decide +kernel
theorem dX5_farthest_9 : decode cX5_farthest 9 = .ok (.iload_n 3, 1) := by decide +kernel
theorem dX5_farthest_10 : decode cX5_farthest 10 = .ok (.aload_n 0, 1) := by decide +kernel
theorem dX5_farthest_11 : decode cX5_farthest 11 = .ok (.getfield 67, 3) := by decide +kernel
theorem dX5_farthest_14 : decode cX5_farthest 14 = .ok (.if_icmp .ge 55, 3) := by decide +kernel
theorem dX5_farthest_17 : decode cX5_farthest 17 = .ok (.aload_n 0, 1) := by decide +kernel
theorem dX5_farthest_18 : decode cX5_farthest 18 = .ok (.getfield 50, 3) := by decide +kernel
theorem dX5_farthest_21 : decode cX5_farthest 21 = .ok (.iload_n 3, 1) := by decide +kernel
theorem dX5_farthest_22 : decode cX5_farthest 22 = .ok (.iaload, 1) := by decide +kernel
theorem dX5_farthest_23 : decode cX5_farthest 23 = .ok (.aload_n 0, 1) := by decide +kernel
theorem dX5_farthest_24 : decode cX5_farthest 24 = .ok (.getfield 50, 3) := by decide +kernel
theorem dX5_farthest_27 : decode cX5_farthest 27 = .ok (.iload_n 2, 1) := by decide +kernel
theorem dX5_farthest_28 : decode cX5_farthest 28 = .ok (.iaload, 1) := by decide +kernel
theorem dX5_farthest_29 : decode cX5_farthest 29 = .ok (.if_icmp .gt 32, 3) := by decide +kernel
theorem dX5_farthest_32 : decode cX5_farthest 32 = .ok (.aload_n 0, 1) := by decide +kernel
theorem dX5_farthest_33 : decode cX5_farthest 33 = .ok (.getfield 50, 3) := by decide +kernel
theorem dX5_farthest_36 : decode cX5_farthest 36 = .ok (.iload_n 3, 1) := by decide +kernel
theorem dX5_farthest_37 : decode cX5_farthest 37 = .ok (.iaload, 1) := by decide +kernel
theorem dX5_farthest_38 : decode cX5_farthest 38 = .ok (.aload_n 0, 1) := by decide +kernel
theorem dX5_farthest_39 : decode cX5_farthest 39 = .ok (.getfield 50, 3) := by decide +kernel
theorem dX5_farthest_42 : decode cX5_farthest 42 = .ok (.iload_n 2, 1) := by decide +kernel
theorem dX5_farthest_43 : decode cX5_farthest 43 = .ok (.iaload, 1) := by decide +kernel
theorem dX5_farthest_44 : decode cX5_farthest 44 = .ok (.if_icmp .ne 19, 3) := by decide +kernel
theorem dX5_farthest_47 : decode cX5_farthest 47 = .ok (.iload_n 3, 1) := by decide +kernel
theorem dX5_farthest_48 : decode cX5_farthest 48 = .ok (.iload_n 2, 1) := by decide +kernel
theorem dX5_farthest_49 : decode cX5_farthest 49 = .ok (.if_icmp .ge 14, 3) := by decide +kernel
theorem dX5_farthest_52 : decode cX5_farthest 52 = .ok (.aload_n 0, 1) := by decide +kernel
theorem dX5_farthest_53 : decode cX5_farthest 53 = .ok (.getfield 50, 3) := by decide +kernel
theorem dX5_farthest_56 : decode cX5_farthest 56 = .ok (.iload_n 3, 1) := by decide +kernel
theorem dX5_farthest_57 : decode cX5_farthest 57 = .ok (.iaload, 1) := by decide +kernel
theorem dX5_farthest_58 : decode cX5_farthest 58 = .ok (.ifCond .le 5, 3) := by decide +kernel
theorem dX5_farthest_61 : decode cX5_farthest 61 = .ok (.iload_n 3, 1) := by decide +kernel
theorem dX5_farthest_62 : decode cX5_farthest 62 = .ok (.istore_n 2, 1) := by decide +kernel
theorem dX5_farthest_63 : decode cX5_farthest 63 = .ok (.iinc 3 1, 3) := by decide +kernel
theorem dX5_farthest_66 : decode cX5_farthest 66 = .ok (.goto (-57), 3) := by decide +kernel
theorem dX5_farthest_69 : decode cX5_farthest 69 = .ok (.iload_n 2, 1) := by decide +kernel
theorem dX5_farthest_70 : decode cX5_farthest 70 = .ok (.ireturn, 1) := by decide +kernel
theorem dX5_isAllAround_0 : decode cX5_isAllAround 0 = .ok (.iconst 0, 1) := by decide +kernel
theorem dX5_isAllAround_1 : decode cX5_isAllAround 1 = .ok (.istore_n 1, 1) := by decide +kernel
theorem dX5_isAllAround_2 : decode cX5_isAllAround 2 = .ok (.iload_n 1, 1) := by decide +kernel
theorem dX5_isAllAround_3 : decode cX5_isAllAround 3 = .ok (.aload_n 0, 1) := by decide +kernel
theorem dX5_isAllAround_4 : decode cX5_isAllAround 4 = .ok (.getfield 67, 3) := by decide +kernel
theorem dX5_isAllAround_7 : decode cX5_isAllAround 7 = .ok (.if_icmp .ge 21, 3) := by decide +kernel
theorem dX5_isAllAround_10 : decode cX5_isAllAround 10 = .ok (.aload_n 0, 1) := by decide +kernel
theorem dX5_isAllAround_11 : decode cX5_isAllAround 11 = .ok (.getfield 50, 3) := by decide +kernel
theorem dX5_isAllAround_14 : decode cX5_isAllAround 14 = .ok (.iload_n 1, 1) := by decide +kernel
theorem dX5_isAllAround_15 : decode cX5_isAllAround 15 = .ok (.iaload, 1) := by decide +kernel
theorem dX5_isAllAround_16 : decode cX5_isAllAround 16 = .ok (.iconst (-1), 1) := by decide +kernel
theorem dX5_isAllAround_17 : decode cX5_isAllAround 17 = .ok (.if_icmp .ne 5, 3) := by decide +kernel
theorem dX5_isAllAround_20 : decode cX5_isAllAround 20 = .ok (.iconst 0, 1) := by decide +kernel
theorem dX5_isAllAround_21 : decode cX5_isAllAround 21 = .ok (.ireturn, 1) := by decide +kernel
theorem dX5_isAllAround_22 : decode cX5_isAllAround 22 = .ok (.iinc 1 1, 3) := by decide +kernel
theorem dX5_isAllAround_25 : decode cX5_isAllAround 25 = .ok (.goto (-23), 3) := by decide +kernel
theorem dX5_isAllAround_28 : decode cX5_isAllAround 28 = .ok (.iconst 1, 1) := by decide +kernel
theorem dX5_isAllAround_29 : decode cX5_isAllAround 29 = .ok (.ireturn, 1) := by decide +kernel
theorem dX5_middle_0 : decode cX5_middle 0 = .ok (.iconst (-1), 1) := by decide +kernel
theorem dX5_middle_1 : decode cX5_middle 1 = .ok (.istore_n 1, 1) := by decide +kernel
theorem dX5_middle_2 : decode cX5_middle 2 = .ok (.iconst 0, 1) := by decide +kernel
theorem dX5_middle_3 : decode cX5_middle 3 = .ok (.istore_n 2, 1) := by decide +kernel
theorem dX5_middle_4 : decode cX5_middle 4 = .ok (.iconst 0, 1) := by decide +kernel
theorem dX5_middle_5 : decode cX5_middle 5 = .ok (.istore_n 3, 1) := by decide +kernel
theorem dX5_middle_6 : decode cX5_middle 6 = .ok (.iload_n 3, 1) := by decide +kernel
theorem dX5_middle_7 : decode cX5_middle 7 = .ok (.aload_n 0, 1) := by decide +kernel
theorem dX5_middle_8 : decode cX5_middle 8 = .ok (.getfield 67, 3) := by decide +kernel
theorem dX5_middle_11 : decode cX5_middle 11 = .ok (.if_icmp .ge 47, 3) := by decide +kernel
theorem dX5_middle_14 : decode cX5_middle 14 = .ok (.aload_n 0, 1) := by decide +kernel
theorem dX5_middle_15 : decode cX5_middle 15 = .ok (.getfield 50, 3) := by decide +kernel
theorem dX5_middle_18 : decode cX5_middle 18 = .ok (.aload_n 0, 1) := by decide +kernel
theorem dX5_middle_19 : decode cX5_middle 19 = .ok (.iload_n 3, 1) := by decide +kernel
theorem dX5_middle_20 : decode cX5_middle 20 = .ok (.invokevirtual 108, 3) := by decide +kernel
theorem dX5_middle_23 : decode cX5_middle 23 = .ok (.iaload, 1) := by decide +kernel
theorem dX5_middle_24 : decode cX5_middle 24 = .ok (.istore 4, 2) := by decide +kernel
theorem dX5_middle_26 : decode cX5_middle 26 = .ok (.aload_n 0, 1) := by decide +kernel
theorem dX5_middle_27 : decode cX5_middle 27 = .ok (.invokevirtual 112, 3) := by decide +kernel
theorem dX5_middle_30 : decode cX5_middle 30 = .ok (.ifCond .eq 22, 3) := by decide +kernel
theorem dX5_middle_33 : decode cX5_middle 33 = .ok (.iload_n 1, 1) := by decide +kernel
theorem dX5_middle_34 : decode cX5_middle 34 = .ok (.iconst (-1), 1) := by decide +kernel
theorem dX5_middle_35 : decode cX5_middle 35 = .ok (.if_icmp .eq 12, 3) := by decide +kernel
theorem dX5_middle_38 : decode cX5_middle 38 = .ok (.iload 4, 2) := by decide +kernel
theorem dX5_middle_40 : decode cX5_middle 40 = .ok (.iload_n 2, 1) := by decide +kernel
theorem dX5_middle_41 : decode cX5_middle 41 = .ok (.if_icmp .lt 6, 3) := by decide +kernel
theorem dX5_middle_44 : decode cX5_middle 44 = .ok (.goto 8, 3) := by decide +kernel
theorem dX5_middle_47 : decode cX5_middle 47 = .ok (.iload_n 3, 1) := by decide +kernel
theorem dX5_middle_48 : decode cX5_middle 48 = .ok (.istore_n 1, 1) := by decide +kernel
theorem dX5_middle_49 : decode cX5_middle 49 = .ok (.iload 4, 2) := by decide +kernel
theorem dX5_middle_51 : decode cX5_middle 51 = .ok (.istore_n 2, 1) := by decide +kernel
theorem dX5_middle_52 : decode cX5_middle 52 = .ok (.iinc 3 1, 3) := by decide +kernel
theorem dX5_middle_55 : decode cX5_middle 55 = .ok (.goto (-49), 3) := by decide +kernel
theorem dX5_middle_58 : decode cX5_middle 58 = .ok (.iconst 0, 1) := by decide +kernel
theorem dX5_middle_59 : decode cX5_middle 59 = .ok (.iload_n 1, 1) := by decide +kernel
theorem dX5_middle_60 : decode cX5_middle 60 = .ok (.invokestatic 92, 3) := by decide +kernel
theorem dX5_middle_63 : decode cX5_middle 63 = .ok (.ireturn, 1) := by decide +kernel
theorem dX5_partsNow_0 : decode cX5_partsNow 0 = .ok (.iconst 0, 1) := by decide +kernel
theorem dX5_partsNow_1 : decode cX5_partsNow 1 = .ok (.istore_n 1, 1) := by decide +kernel
theorem dX5_partsNow_2 : decode cX5_partsNow 2 = .ok (.iconst 0, 1) := by decide +kernel
theorem dX5_partsNow_3 : decode cX5_partsNow 3 = .ok (.istore_n 2, 1) := by decide +kernel
theorem dX5_partsNow_4 : decode cX5_partsNow 4 = .ok (.iload_n 2, 1) := by decide +kernel
theorem dX5_partsNow_5 : decode cX5_partsNow 5 = .ok (.aload_n 0, 1) := by decide +kernel
theorem dX5_partsNow_6 : decode cX5_partsNow 6 = .ok (.getfield 67, 3) := by decide +kernel
theorem dX5_partsNow_9 : decode cX5_partsNow 9 = .ok (.if_icmp .ge 45, 3) := by decide +kernel
theorem dX5_partsNow_12 : decode cX5_partsNow 12 = .ok (.aload_n 0, 1) := by decide +kernel
theorem dX5_partsNow_13 : decode cX5_partsNow 13 = .ok (.iload_n 2, 1) := by decide +kernel
theorem dX5_partsNow_14 : decode cX5_partsNow 14 = .ok (.invokevirtual 105, 3) := by decide +kernel
theorem dX5_partsNow_17 : decode cX5_partsNow 17 = .ok (.iconst 0, 1) := by decide +kernel
theorem dX5_partsNow_18 : decode cX5_partsNow 18 = .ok (.istore_n 3, 1) := by decide +kernel
theorem dX5_partsNow_19 : decode cX5_partsNow 19 = .ok (.aload_n 0, 1) := by decide +kernel
theorem dX5_partsNow_20 : decode cX5_partsNow 20 = .ok (.getfield 50, 3) := by decide +kernel
theorem dX5_partsNow_23 : decode cX5_partsNow 23 = .ok (.iload_n 3, 1) := by decide +kernel
theorem dX5_partsNow_24 : decode cX5_partsNow 24 = .ok (.iaload, 1) := by decide +kernel
theorem dX5_partsNow_25 : decode cX5_partsNow 25 = .ok (.iconst (-1), 1) := by decide +kernel
theorem dX5_partsNow_26 : decode cX5_partsNow 26 = .ok (.if_icmp .ne 9, 3) := by decide +kernel
theorem dX5_partsNow_29 : decode cX5_partsNow 29 = .ok (.iinc 3 1, 3) := by decide +kernel
theorem dX5_partsNow_32 : decode cX5_partsNow 32 = .ok (.goto (-13), 3) := by decide +kernel
theorem dX5_partsNow_35 : decode cX5_partsNow 35 = .ok (.iload_n 1, 1) := by decide +kernel
theorem dX5_partsNow_36 : decode cX5_partsNow 36 = .ok (.iload_n 3, 1) := by decide +kernel
theorem dX5_partsNow_37 : decode cX5_partsNow 37 = .ok (.iload_n 2, 1) := by decide +kernel
theorem dX5_partsNow_38 : decode cX5_partsNow 38 = .ok (.if_icmp .ne 7, 3) := by decide +kernel
theorem dX5_partsNow_41 : decode cX5_partsNow 41 = .ok (.iconst 1, 1) := by decide +kernel
theorem dX5_partsNow_42 : decode cX5_partsNow 42 = .ok (.goto 4, 3) := by decide +kernel
theorem dX5_partsNow_45 : decode cX5_partsNow 45 = .ok (.iconst 0, 1) := by decide +kernel
theorem dX5_partsNow_46 : decode cX5_partsNow 46 = .ok (.iadd, 1) := by decide +kernel
theorem dX5_partsNow_47 : decode cX5_partsNow 47 = .ok (.istore_n 1, 1) := by decide +kernel
theorem dX5_partsNow_48 : decode cX5_partsNow 48 = .ok (.iinc 2 1, 3) := by decide +kernel
theorem dX5_partsNow_51 : decode cX5_partsNow 51 = .ok (.goto (-47), 3) := by decide +kernel
theorem dX5_partsNow_54 : decode cX5_partsNow 54 = .ok (.iload_n 1, 1) := by decide +kernel
theorem dX5_partsNow_55 : decode cX5_partsNow 55 = .ok (.ireturn, 1) := by decide +kernel
theorem dX5_around_0 : decode cX5_around 0 = .ok (.iconst 0, 1) := by decide +kernel
theorem dX5_around_1 : decode cX5_around 1 = .ok (.istore_n 2, 1) := by decide +kernel
theorem dX5_around_2 : decode cX5_around 2 = .ok (.iconst 0, 1) := by decide +kernel
theorem dX5_around_3 : decode cX5_around 3 = .ok (.istore_n 3, 1) := by decide +kernel
theorem dX5_around_4 : decode cX5_around 4 = .ok (.iload_n 3, 1) := by decide +kernel
theorem dX5_around_5 : decode cX5_around 5 = .ok (.aload_n 0, 1) := by decide +kernel
theorem dX5_around_6 : decode cX5_around 6 = .ok (.getfield 67, 3) := by decide +kernel
theorem dX5_around_9 : decode cX5_around 9 = .ok (.if_icmp .ge 27, 3) := by decide +kernel
theorem dX5_around_12 : decode cX5_around 12 = .ok (.iload_n 2, 1) := by decide +kernel
theorem dX5_around_13 : decode cX5_around 13 = .ok (.aload_n 0, 1) := by decide +kernel
theorem dX5_around_14 : decode cX5_around 14 = .ok (.iload_n 1, 1) := by decide +kernel
theorem dX5_around_15 : decode cX5_around 15 = .ok (.iload_n 3, 1) := by decide +kernel
theorem dX5_around_16 : decode cX5_around 16 = .ok (.invokevirtual 99, 3) := by decide +kernel
theorem dX5_around_19 : decode cX5_around 19 = .ok (.iconst (-1), 1) := by decide +kernel
theorem dX5_around_20 : decode cX5_around 20 = .ok (.if_icmp .ne 7, 3) := by decide +kernel
theorem dX5_around_23 : decode cX5_around 23 = .ok (.iconst 0, 1) := by decide +kernel
theorem dX5_around_24 : decode cX5_around 24 = .ok (.goto 4, 3) := by decide +kernel
theorem dX5_around_27 : decode cX5_around 27 = .ok (.iconst 1, 1) := by decide +kernel
theorem dX5_around_28 : decode cX5_around 28 = .ok (.iadd, 1) := by decide +kernel
theorem dX5_around_29 : decode cX5_around 29 = .ok (.istore_n 2, 1) := by decide +kernel
theorem dX5_around_30 : decode cX5_around 30 = .ok (.iinc 3 1, 3) := by decide +kernel
theorem dX5_around_33 : decode cX5_around 33 = .ok (.goto (-29), 3) := by decide +kernel
theorem dX5_around_36 : decode cX5_around 36 = .ok (.iload_n 2, 1) := by decide +kernel
theorem dX5_around_37 : decode cX5_around 37 = .ok (.ireturn, 1) := by decide +kernel
theorem dX5_hear_0 : decode cX5_hear 0 = .ok (.aload_n 0, 1) := by decide +kernel
theorem dX5_hear_1 : decode cX5_hear 1 = .ok (.getfield 44, 3) := by decide +kernel
theorem dX5_hear_4 : decode cX5_hear 4 = .ok (.iconst 0, 1) := by decide +kernel
theorem dX5_hear_5 : decode cX5_hear 5 = .ok (.iload_n 1, 1) := by decide +kernel
theorem dX5_hear_6 : decode cX5_hear 6 = .ok (.iadd, 1) := by decide +kernel
theorem dX5_hear_7 : decode cX5_hear 7 = .ok (.iaload, 1) := by decide +kernel
theorem dX5_hear_8 : decode cX5_hear 8 = .ok (.ifCond .eq 4, 3) := by decide +kernel
theorem dX5_hear_11 : decode cX5_hear 11 = .ok (.return_, 1) := by decide +kernel
theorem dX5_hear_12 : decode cX5_hear 12 = .ok (.aload_n 0, 1) := by decide +kernel
theorem dX5_hear_13 : decode cX5_hear 13 = .ok (.getfield 44, 3) := by decide +kernel
theorem dX5_hear_16 : decode cX5_hear 16 = .ok (.iconst 0, 1) := by decide +kernel
theorem dX5_hear_17 : decode cX5_hear 17 = .ok (.iload_n 1, 1) := by decide +kernel
theorem dX5_hear_18 : decode cX5_hear 18 = .ok (.iadd, 1) := by decide +kernel
theorem dX5_hear_19 : decode cX5_hear 19 = .ok (.iconst 1, 1) := by decide +kernel
theorem dX5_hear_20 : decode cX5_hear 20 = .ok (.iastore, 1) := by decide +kernel
theorem dX5_hear_21 : decode cX5_hear 21 = .ok (.aload_n 0, 1) := by decide +kernel
theorem dX5_hear_22 : decode cX5_hear 22 = .ok (.getfield 44, 3) := by decide +kernel
theorem dX5_hear_25 : decode cX5_hear 25 = .ok (.bipush 96, 2) := by decide +kernel
theorem dX5_hear_27 : decode cX5_hear 27 = .ok (.iload_n 1, 1) := by decide +kernel
theorem dX5_hear_28 : decode cX5_hear 28 = .ok (.iadd, 1) := by decide +kernel
theorem dX5_hear_29 : decode cX5_hear 29 = .ok (.aload_n 0, 1) := by decide +kernel
theorem dX5_hear_30 : decode cX5_hear 30 = .ok (.getfield 44, 3) := by decide +kernel
theorem dX5_hear_33 : decode cX5_hear 33 = .ok (.sipush 864, 3) := by decide +kernel
theorem dX5_hear_36 : decode cX5_hear 36 = .ok (.iaload, 1) := by decide +kernel
theorem dX5_hear_37 : decode cX5_hear 37 = .ok (.iastore, 1) := by decide +kernel
theorem dX5_hear_38 : decode cX5_hear 38 = .ok (.aload_n 0, 1) := by decide +kernel
theorem dX5_hear_39 : decode cX5_hear 39 = .ok (.getfield 44, 3) := by decide +kernel
theorem dX5_hear_42 : decode cX5_hear 42 = .ok (.sipush 192, 3) := by decide +kernel
theorem dX5_hear_45 : decode cX5_hear 45 = .ok (.iload_n 1, 1) := by decide +kernel
theorem dX5_hear_46 : decode cX5_hear 46 = .ok (.iadd, 1) := by decide +kernel
theorem dX5_hear_47 : decode cX5_hear 47 = .ok (.iload_n 2, 1) := by decide +kernel
theorem dX5_hear_48 : decode cX5_hear 48 = .ok (.iastore, 1) := by decide +kernel
theorem dX5_hear_49 : decode cX5_hear 49 = .ok (.aload_n 0, 1) := by decide +kernel
theorem dX5_hear_50 : decode cX5_hear 50 = .ok (.getfield 44, 3) := by decide +kernel
theorem dX5_hear_53 : decode cX5_hear 53 = .ok (.sipush 384, 3) := by decide +kernel
theorem dX5_hear_56 : decode cX5_hear 56 = .ok (.iload_n 1, 1) := by decide +kernel
theorem dX5_hear_57 : decode cX5_hear 57 = .ok (.iadd, 1) := by decide +kernel
theorem dX5_hear_58 : decode cX5_hear 58 = .ok (.aload_n 0, 1) := by decide +kernel
theorem dX5_hear_59 : decode cX5_hear 59 = .ok (.getfield 44, 3) := by decide +kernel
theorem dX5_hear_62 : decode cX5_hear 62 = .ok (.sipush 864, 3) := by decide +kernel
theorem dX5_hear_65 : decode cX5_hear 65 = .ok (.iaload, 1) := by decide +kernel
theorem dX5_hear_66 : decode cX5_hear 66 = .ok (.aload_n 0, 1) := by decide +kernel
theorem dX5_hear_67 : decode cX5_hear 67 = .ok (.getfield 13, 3) := by decide +kernel
theorem dX5_hear_70 : decode cX5_hear 70 = .ok (.iload_n 1, 1) := by decide +kernel
theorem dX5_hear_71 : decode cX5_hear 71 = .ok (.bipush 12, 2) := by decide +kernel
theorem dX5_hear_73 : decode cX5_hear 73 = .ok (.irem, 1) := by decide +kernel
theorem dX5_hear_74 : decode cX5_hear 74 = .ok (.iaload, 1) := by decide +kernel
theorem dX5_hear_75 : decode cX5_hear 75 = .ok (.iadd, 1) := by decide +kernel
theorem dX5_hear_76 : decode cX5_hear 76 = .ok (.iastore, 1) := by decide +kernel
theorem dX5_hear_77 : decode cX5_hear 77 = .ok (.return_, 1) := by decide +kernel
theorem dX5_deny_0 : decode cX5_deny 0 = .ok (.aload_n 0, 1) := by decide +kernel
theorem dX5_deny_1 : decode cX5_deny 1 = .ok (.getfield 44, 3) := by decide +kernel
theorem dX5_deny_4 : decode cX5_deny 4 = .ok (.iconst 0, 1) := by decide +kernel
theorem dX5_deny_5 : decode cX5_deny 5 = .ok (.iload_n 1, 1) := by decide +kernel
theorem dX5_deny_6 : decode cX5_deny 6 = .ok (.iadd, 1) := by decide +kernel
theorem dX5_deny_7 : decode cX5_deny 7 = .ok (.iaload, 1) := by decide +kernel
theorem dX5_deny_8 : decode cX5_deny 8 = .ok (.iconst 2, 1) := by decide +kernel
theorem dX5_deny_9 : decode cX5_deny 9 = .ok (.if_icmp .ne 4, 3) := by decide +kernel
theorem dX5_deny_12 : decode cX5_deny 12 = .ok (.return_, 1) := by decide +kernel
theorem dX5_deny_13 : decode cX5_deny 13 = .ok (.aload_n 0, 1) := by decide +kernel
theorem dX5_deny_14 : decode cX5_deny 14 = .ok (.getfield 44, 3) := by decide +kernel
theorem dX5_deny_17 : decode cX5_deny 17 = .ok (.iconst 0, 1) := by decide +kernel
theorem dX5_deny_18 : decode cX5_deny 18 = .ok (.iload_n 1, 1) := by decide +kernel
theorem dX5_deny_19 : decode cX5_deny 19 = .ok (.iadd, 1) := by decide +kernel
theorem dX5_deny_20 : decode cX5_deny 20 = .ok (.iconst 2, 1) := by decide +kernel
theorem dX5_deny_21 : decode cX5_deny 21 = .ok (.iastore, 1) := by decide +kernel
theorem dX5_deny_22 : decode cX5_deny 22 = .ok (.aload_n 0, 1) := by decide +kernel
theorem dX5_deny_23 : decode cX5_deny 23 = .ok (.getfield 44, 3) := by decide +kernel
theorem dX5_deny_26 : decode cX5_deny 26 = .ok (.sipush 288, 3) := by decide +kernel
theorem dX5_deny_29 : decode cX5_deny 29 = .ok (.iload_n 1, 1) := by decide +kernel
theorem dX5_deny_30 : decode cX5_deny 30 = .ok (.iadd, 1) := by decide +kernel
theorem dX5_deny_31 : decode cX5_deny 31 = .ok (.aload_n 0, 1) := by decide +kernel
theorem dX5_deny_32 : decode cX5_deny 32 = .ok (.getfield 44, 3) := by decide +kernel
theorem dX5_deny_35 : decode cX5_deny 35 = .ok (.sipush 864, 3) := by decide +kernel
theorem dX5_deny_38 : decode cX5_deny 38 = .ok (.iaload, 1) := by decide +kernel
theorem dX5_deny_39 : decode cX5_deny 39 = .ok (.iastore, 1) := by decide +kernel
theorem dX5_deny_40 : decode cX5_deny 40 = .ok (.aload_n 0, 1) := by decide +kernel
theorem dX5_deny_41 : decode cX5_deny 41 = .ok (.getfield 44, 3) := by decide +kernel
theorem dX5_deny_44 : decode cX5_deny 44 = .ok (.sipush 384, 3) := by decide +kernel
theorem dX5_deny_47 : decode cX5_deny 47 = .ok (.iload_n 1, 1) := by decide +kernel
theorem dX5_deny_48 : decode cX5_deny 48 = .ok (.iadd, 1) := by decide +kernel
theorem dX5_deny_49 : decode cX5_deny 49 = .ok (.iconst (-1), 1) := by decide +kernel
theorem dX5_deny_50 : decode cX5_deny 50 = .ok (.iastore, 1) := by decide +kernel
theorem dX5_deny_51 : decode cX5_deny 51 = .ok (.aload_n 0, 1) := by decide +kernel
theorem dX5_deny_52 : decode cX5_deny 52 = .ok (.getfield 44, 3) := by decide +kernel
theorem dX5_deny_55 : decode cX5_deny 55 = .ok (.sipush 480, 3) := by decide +kernel
theorem dX5_deny_58 : decode cX5_deny 58 = .ok (.iload_n 1, 1) := by decide +kernel
theorem dX5_deny_59 : decode cX5_deny 59 = .ok (.iadd, 1) := by decide +kernel
theorem dX5_deny_60 : decode cX5_deny 60 = .ok (.aload_n 0, 1) := by decide +kernel
theorem dX5_deny_61 : decode cX5_deny 61 = .ok (.getfield 44, 3) := by decide +kernel
theorem dX5_deny_64 : decode cX5_deny 64 = .ok (.sipush 864, 3) := by decide +kernel
theorem dX5_deny_67 : decode cX5_deny 67 = .ok (.iaload, 1) := by decide +kernel
theorem dX5_deny_68 : decode cX5_deny 68 = .ok (.aload_n 0, 1) := by decide +kernel
theorem dX5_deny_69 : decode cX5_deny 69 = .ok (.getfield 13, 3) := by decide +kernel
theorem dX5_deny_72 : decode cX5_deny 72 = .ok (.iload_n 1, 1) := by decide +kernel
theorem dX5_deny_73 : decode cX5_deny 73 = .ok (.bipush 12, 2) := by decide +kernel
theorem dX5_deny_75 : decode cX5_deny 75 = .ok (.irem, 1) := by decide +kernel
theorem dX5_deny_76 : decode cX5_deny 76 = .ok (.iaload, 1) := by decide +kernel
theorem dX5_deny_77 : decode cX5_deny 77 = .ok (.iconst 2, 1) := by decide +kernel
theorem dX5_deny_78 : decode cX5_deny 78 = .ok (.idiv, 1) := by decide +kernel
theorem dX5_deny_79 : decode cX5_deny 79 = .ok (.iadd, 1) := by decide +kernel
theorem dX5_deny_80 : decode cX5_deny 80 = .ok (.iastore, 1) := by decide +kernel
theorem dX5_deny_81 : decode cX5_deny 81 = .ok (.return_, 1) := by decide +kernel
theorem dX5_send_0 : decode cX5_send 0 = .ok (.aload_n 0, 1) := by decide +kernel
theorem dX5_send_1 : decode cX5_send 1 = .ok (.getfield 44, 3) := by decide +kernel
theorem dX5_send_4 : decode cX5_send 4 = .ok (.sipush 192, 3) := by decide +kernel
theorem dX5_send_7 : decode cX5_send 7 = .ok (.bipush 12, 2) := by decide +kernel
theorem dX5_send_9 : decode cX5_send 9 = .ok (.iload_n 1, 1) := by decide +kernel
theorem dX5_send_10 : decode cX5_send 10 = .ok (.imul, 1) := by decide +kernel
theorem dX5_send_11 : decode cX5_send 11 = .ok (.iadd, 1) := by decide +kernel
theorem dX5_send_12 : decode cX5_send 12 = .ok (.iload_n 2, 1) := by decide +kernel
theorem dX5_send_13 : decode cX5_send 13 = .ok (.iadd, 1) := by decide +kernel
theorem dX5_send_14 : decode cX5_send 14 = .ok (.iaload, 1) := by decide +kernel
theorem dX5_send_15 : decode cX5_send 15 = .ok (.iconst 1, 1) := by decide +kernel
theorem dX5_send_16 : decode cX5_send 16 = .ok (.iadd, 1) := by decide +kernel
theorem dX5_send_17 : decode cX5_send 17 = .ok (.istore 4, 2) := by decide +kernel
theorem dX5_send_19 : decode cX5_send 19 = .ok (.iconst 0, 1) := by decide +kernel
theorem dX5_send_20 : decode cX5_send 20 = .ok (.istore 5, 2) := by decide +kernel
theorem dX5_send_22 : decode cX5_send 22 = .ok (.iload 5, 2) := by decide +kernel
theorem dX5_send_24 : decode cX5_send 24 = .ok (.aload_n 0, 1) := by decide +kernel
theorem dX5_send_25 : decode cX5_send 25 = .ok (.getfield 67, 3) := by decide +kernel
theorem dX5_send_28 : decode cX5_send 28 = .ok (.if_icmp .ge 192, 3) := by decide +kernel
theorem dX5_send_31 : decode cX5_send 31 = .ok (.aload_n 0, 1) := by decide +kernel
theorem dX5_send_32 : decode cX5_send 32 = .ok (.iload_n 2, 1) := by decide +kernel
theorem dX5_send_33 : decode cX5_send 33 = .ok (.iload 5, 2) := by decide +kernel
theorem dX5_send_35 : decode cX5_send 35 = .ok (.invokevirtual 99, 3) := by decide +kernel
theorem dX5_send_38 : decode cX5_send 38 = .ok (.istore 6, 2) := by decide +kernel
theorem dX5_send_40 : decode cX5_send 40 = .ok (.iload 6, 2) := by decide +kernel
theorem dX5_send_42 : decode cX5_send 42 = .ok (.iconst (-1), 1) := by decide +kernel
theorem dX5_send_43 : decode cX5_send 43 = .ok (.if_icmp .ne 6, 3) := by decide +kernel
theorem dX5_send_46 : decode cX5_send 46 = .ok (.goto 168, 3) := by decide +kernel
theorem dX5_send_49 : decode cX5_send 49 = .ok (.bipush 12, 2) := by decide +kernel
theorem dX5_send_51 : decode cX5_send 51 = .ok (.iload_n 1, 1) := by decide +kernel
theorem dX5_send_52 : decode cX5_send 52 = .ok (.imul, 1) := by decide +kernel
theorem dX5_send_53 : decode cX5_send 53 = .ok (.iload 5, 2) := by decide +kernel
theorem dX5_send_55 : decode cX5_send 55 = .ok (.iadd, 1) := by decide +kernel
theorem dX5_send_56 : decode cX5_send 56 = .ok (.istore 7, 2) := by decide +kernel
theorem dX5_send_58 : decode cX5_send 58 = .ok (.aload_n 0, 1) := by decide +kernel
theorem dX5_send_59 : decode cX5_send 59 = .ok (.getfield 44, 3) := by decide +kernel
theorem dX5_send_62 : decode cX5_send 62 = .ok (.sipush 864, 3) := by decide +kernel
theorem dX5_send_65 : decode cX5_send 65 = .ok (.iaload, 1) := by decide +kernel
theorem dX5_send_66 : decode cX5_send 66 = .ok (.iload 6, 2) := by decide +kernel
theorem dX5_send_68 : decode cX5_send 68 = .ok (.iadd, 1) := by decide +kernel
theorem dX5_send_69 : decode cX5_send 69 = .ok (.istore 8, 2) := by decide +kernel
theorem dX5_send_71 : decode cX5_send 71 = .ok (.iload_n 3, 1) := by decide +kernel
theorem dX5_send_72 : decode cX5_send 72 = .ok (.ifCond .eq 53, 3) := by decide +kernel
theorem dX5_send_75 : decode cX5_send 75 = .ok (.aload_n 0, 1) := by decide +kernel
theorem dX5_send_76 : decode cX5_send 76 = .ok (.getfield 44, 3) := by decide +kernel
theorem dX5_send_79 : decode cX5_send 79 = .ok (.sipush 768, 3) := by decide +kernel
theorem dX5_send_82 : decode cX5_send 82 = .ok (.iload 7, 2) := by decide +kernel
theorem dX5_send_84 : decode cX5_send 84 = .ok (.iadd, 1) := by decide +kernel
theorem dX5_send_85 : decode cX5_send 85 = .ok (.aload_n 0, 1) := by decide +kernel
theorem dX5_send_86 : decode cX5_send 86 = .ok (.getfield 44, 3) := by decide +kernel
theorem dX5_send_89 : decode cX5_send 89 = .ok (.sipush 768, 3) := by decide +kernel
theorem dX5_send_92 : decode cX5_send 92 = .ok (.iload 7, 2) := by decide +kernel
theorem dX5_send_94 : decode cX5_send 94 = .ok (.iadd, 1) := by decide +kernel
theorem dX5_send_95 : decode cX5_send 95 = .ok (.iaload, 1) := by decide +kernel
theorem dX5_send_96 : decode cX5_send 96 = .ok (.iconst (-1), 1) := by decide +kernel
theorem dX5_send_97 : decode cX5_send 97 = .ok (.if_icmp .ne 8, 3) := by decide +kernel
theorem dX5_send_100 : decode cX5_send 100 = .ok (.iload 8, 2) := by decide +kernel
theorem dX5_send_102 : decode cX5_send 102 = .ok (.goto 19, 3) := by decide +kernel
theorem dX5_send_105 : decode cX5_send 105 = .ok (.aload_n 0, 1) := by decide +kernel
theorem dX5_send_106 : decode cX5_send 106 = .ok (.getfield 44, 3) := by decide +kernel
theorem dX5_send_109 : decode cX5_send 109 = .ok (.sipush 768, 3) := by decide +kernel
theorem dX5_send_112 : decode cX5_send 112 = .ok (.iload 7, 2) := by decide +kernel
theorem dX5_send_114 : decode cX5_send 114 = .ok (.iadd, 1) := by decide +kernel
theorem dX5_send_115 : decode cX5_send 115 = .ok (.iaload, 1) := by decide +kernel
theorem dX5_send_116 : decode cX5_send 116 = .ok (.iload 8, 2) := by decide +kernel
theorem dX5_send_118 : decode cX5_send 118 = .ok (.invokestatic 86, 3) := by decide +kernel
theorem dX5_send_121 : decode cX5_send 121 = .ok (.iastore, 1) := by decide +kernel
theorem dX5_send_122 : decode cX5_send 122 = .ok (.goto 92, 3) := by decide +kernel
theorem dX5_send_125 : decode cX5_send 125 = .ok (.aload_n 0, 1) := by decide +kernel
theorem dX5_send_126 : decode cX5_send 126 = .ok (.getfield 44, 3) := by decide +kernel
theorem dX5_send_129 : decode cX5_send 129 = .ok (.sipush 576, 3) := by decide +kernel
theorem dX5_send_132 : decode cX5_send 132 = .ok (.iload 7, 2) := by decide +kernel
theorem dX5_send_134 : decode cX5_send 134 = .ok (.iadd, 1) := by decide +kernel
theorem dX5_send_135 : decode cX5_send 135 = .ok (.iaload, 1) := by decide +kernel
theorem dX5_send_136 : decode cX5_send 136 = .ok (.iconst (-1), 1) := by decide +kernel
theorem dX5_send_137 : decode cX5_send 137 = .ok (.if_icmp .eq 51, 3) := by decide +kernel
theorem dX5_send_140 : decode cX5_send 140 = .ok (.iload 8, 2) := by decide +kernel
theorem dX5_send_142 : decode cX5_send 142 = .ok (.aload_n 0, 1) := by decide +kernel
theorem dX5_send_143 : decode cX5_send 143 = .ok (.getfield 44, 3) := by decide +kernel
theorem dX5_send_146 : decode cX5_send 146 = .ok (.sipush 576, 3) := by decide +kernel
theorem dX5_send_149 : decode cX5_send 149 = .ok (.iload 7, 2) := by decide +kernel
theorem dX5_send_151 : decode cX5_send 151 = .ok (.iadd, 1) := by decide +kernel
theorem dX5_send_152 : decode cX5_send 152 = .ok (.iaload, 1) := by decide +kernel
theorem dX5_send_153 : decode cX5_send 153 = .ok (.if_icmp .lt 35, 3) := by decide +kernel
theorem dX5_send_156 : decode cX5_send 156 = .ok (.iload 8, 2) := by decide +kernel
theorem dX5_send_158 : decode cX5_send 158 = .ok (.aload_n 0, 1) := by decide +kernel
theorem dX5_send_159 : decode cX5_send 159 = .ok (.getfield 44, 3) := by decide +kernel
theorem dX5_send_162 : decode cX5_send 162 = .ok (.sipush 576, 3) := by decide +kernel
theorem dX5_send_165 : decode cX5_send 165 = .ok (.iload 7, 2) := by decide +kernel
theorem dX5_send_167 : decode cX5_send 167 = .ok (.iadd, 1) := by decide +kernel
theorem dX5_send_168 : decode cX5_send 168 = .ok (.iaload, 1) := by decide +kernel
theorem dX5_send_169 : decode cX5_send 169 = .ok (.if_icmp .ne 45, 3) := by decide +kernel
theorem dX5_send_172 : decode cX5_send 172 = .ok (.iload 4, 2) := by decide +kernel
theorem dX5_send_174 : decode cX5_send 174 = .ok (.aload_n 0, 1) := by decide +kernel
theorem dX5_send_175 : decode cX5_send 175 = .ok (.getfield 44, 3) := by decide +kernel
theorem dX5_send_178 : decode cX5_send 178 = .ok (.sipush 672, 3) := by decide +kernel
theorem dX5_send_181 : decode cX5_send 181 = .ok (.iload 7, 2) := by decide +kernel
theorem dX5_send_183 : decode cX5_send 183 = .ok (.iadd, 1) := by decide +kernel
theorem dX5_send_184 : decode cX5_send 184 = .ok (.iaload, 1) := by decide +kernel
theorem dX5_send_185 : decode cX5_send 185 = .ok (.if_icmp .ge 29, 3) := by decide +kernel
theorem dX5_send_188 : decode cX5_send 188 = .ok (.aload_n 0, 1) := by decide +kernel
theorem dX5_send_189 : decode cX5_send 189 = .ok (.getfield 44, 3) := by decide +kernel
theorem dX5_send_192 : decode cX5_send 192 = .ok (.sipush 576, 3) := by decide +kernel
theorem dX5_send_195 : decode cX5_send 195 = .ok (.iload 7, 2) := by decide +kernel
theorem dX5_send_197 : decode cX5_send 197 = .ok (.iadd, 1) := by decide +kernel
theorem dX5_send_198 : decode cX5_send 198 = .ok (.iload 8, 2) := by decide +kernel
theorem dX5_send_200 : decode cX5_send 200 = .ok (.iastore, 1) := by decide +kernel
theorem dX5_send_201 : decode cX5_send 201 = .ok (.aload_n 0, 1) := by decide +kernel
theorem dX5_send_202 : decode cX5_send 202 = .ok (.getfield 44, 3) := by decide +kernel
theorem dX5_send_205 : decode cX5_send 205 = .ok (.sipush 672, 3) := by decide +kernel
theorem dX5_send_208 : decode cX5_send 208 = .ok (.iload 7, 2) := by decide +kernel
theorem dX5_send_210 : decode cX5_send 210 = .ok (.iadd, 1) := by decide +kernel
theorem dX5_send_211 : decode cX5_send 211 = .ok (.iload 4, 2) := by decide +kernel
theorem dX5_send_213 : decode cX5_send 213 = .ok (.iastore, 1) := by decide +kernel
theorem dX5_send_214 : decode cX5_send 214 = .ok (.iinc 5 1, 3) := by decide +kernel
theorem dX5_send_217 : decode cX5_send 217 = .ok (.goto (-195), 3) := by decide +kernel
theorem dX5_send_220 : decode cX5_send 220 = .ok (.return_, 1) := by decide +kernel
theorem dX5_arrive_0 : decode cX5_arrive 0 = .ok (.aload_n 0, 1) := by decide +kernel
theorem dX5_arrive_1 : decode cX5_arrive 1 = .ok (.getfield 44, 3) := by decide +kernel
theorem dX5_arrive_4 : decode cX5_arrive 4 = .ok (.sipush 576, 3) := by decide +kernel
theorem dX5_arrive_7 : decode cX5_arrive 7 = .ok (.iload_n 1, 1) := by decide +kernel
theorem dX5_arrive_8 : decode cX5_arrive 8 = .ok (.iadd, 1) := by decide +kernel
theorem dX5_arrive_9 : decode cX5_arrive 9 = .ok (.iaload, 1) := by decide +kernel
theorem dX5_arrive_10 : decode cX5_arrive 10 = .ok (.aload_n 0, 1) := by decide +kernel
theorem dX5_arrive_11 : decode cX5_arrive 11 = .ok (.getfield 44, 3) := by decide +kernel
theorem dX5_arrive_14 : decode cX5_arrive 14 = .ok (.sipush 864, 3) := by decide +kernel
theorem dX5_arrive_17 : decode cX5_arrive 17 = .ok (.iaload, 1) := by decide +kernel
theorem dX5_arrive_18 : decode cX5_arrive 18 = .ok (.if_icmp .ne 29, 3) := by decide +kernel
theorem dX5_arrive_21 : decode cX5_arrive 21 = .ok (.aload_n 0, 1) := by decide +kernel
theorem dX5_arrive_22 : decode cX5_arrive 22 = .ok (.getfield 44, 3) := by decide +kernel
theorem dX5_arrive_25 : decode cX5_arrive 25 = .ok (.sipush 576, 3) := by decide +kernel
theorem dX5_arrive_28 : decode cX5_arrive 28 = .ok (.iload_n 1, 1) := by decide +kernel
theorem dX5_arrive_29 : decode cX5_arrive 29 = .ok (.iadd, 1) := by decide +kernel
theorem dX5_arrive_30 : decode cX5_arrive 30 = .ok (.iconst (-1), 1) := by decide +kernel
theorem dX5_arrive_31 : decode cX5_arrive 31 = .ok (.iastore, 1) := by decide +kernel
theorem dX5_arrive_32 : decode cX5_arrive 32 = .ok (.aload_n 0, 1) := by decide +kernel
theorem dX5_arrive_33 : decode cX5_arrive 33 = .ok (.iload_n 1, 1) := by decide +kernel
theorem dX5_arrive_34 : decode cX5_arrive 34 = .ok (.aload_n 0, 1) := by decide +kernel
theorem dX5_arrive_35 : decode cX5_arrive 35 = .ok (.getfield 44, 3) := by decide +kernel
theorem dX5_arrive_38 : decode cX5_arrive 38 = .ok (.sipush 672, 3) := by decide +kernel
theorem dX5_arrive_41 : decode cX5_arrive 41 = .ok (.iload_n 1, 1) := by decide +kernel
theorem dX5_arrive_42 : decode cX5_arrive 42 = .ok (.iadd, 1) := by decide +kernel
theorem dX5_arrive_43 : decode cX5_arrive 43 = .ok (.iaload, 1) := by decide +kernel
theorem dX5_arrive_44 : decode cX5_arrive 44 = .ok (.invokevirtual 116, 3) := by decide +kernel
theorem dX5_arrive_47 : decode cX5_arrive 47 = .ok (.aload_n 0, 1) := by decide +kernel
theorem dX5_arrive_48 : decode cX5_arrive 48 = .ok (.getfield 44, 3) := by decide +kernel
theorem dX5_arrive_51 : decode cX5_arrive 51 = .ok (.sipush 768, 3) := by decide +kernel
theorem dX5_arrive_54 : decode cX5_arrive 54 = .ok (.iload_n 1, 1) := by decide +kernel
theorem dX5_arrive_55 : decode cX5_arrive 55 = .ok (.iadd, 1) := by decide +kernel
theorem dX5_arrive_56 : decode cX5_arrive 56 = .ok (.iaload, 1) := by decide +kernel
theorem dX5_arrive_57 : decode cX5_arrive 57 = .ok (.aload_n 0, 1) := by decide +kernel
theorem dX5_arrive_58 : decode cX5_arrive 58 = .ok (.getfield 44, 3) := by decide +kernel
theorem dX5_arrive_61 : decode cX5_arrive 61 = .ok (.sipush 864, 3) := by decide +kernel
theorem dX5_arrive_64 : decode cX5_arrive 64 = .ok (.iaload, 1) := by decide +kernel
theorem dX5_arrive_65 : decode cX5_arrive 65 = .ok (.if_icmp .ne 19, 3) := by decide +kernel
theorem dX5_arrive_68 : decode cX5_arrive 68 = .ok (.aload_n 0, 1) := by decide +kernel
theorem dX5_arrive_69 : decode cX5_arrive 69 = .ok (.getfield 44, 3) := by decide +kernel
theorem dX5_arrive_72 : decode cX5_arrive 72 = .ok (.sipush 768, 3) := by decide +kernel
theorem dX5_arrive_75 : decode cX5_arrive 75 = .ok (.iload_n 1, 1) := by decide +kernel
theorem dX5_arrive_76 : decode cX5_arrive 76 = .ok (.iadd, 1) := by decide +kernel
theorem dX5_arrive_77 : decode cX5_arrive 77 = .ok (.iconst (-1), 1) := by decide +kernel
theorem dX5_arrive_78 : decode cX5_arrive 78 = .ok (.iastore, 1) := by decide +kernel
theorem dX5_arrive_79 : decode cX5_arrive 79 = .ok (.aload_n 0, 1) := by decide +kernel
theorem dX5_arrive_80 : decode cX5_arrive 80 = .ok (.iload_n 1, 1) := by decide +kernel
theorem dX5_arrive_81 : decode cX5_arrive 81 = .ok (.invokevirtual 120, 3) := by decide +kernel
theorem dX5_arrive_84 : decode cX5_arrive 84 = .ok (.return_, 1) := by decide +kernel
theorem dX5_tell_0 : decode cX5_tell 0 = .ok (.bipush 12, 2) := by decide +kernel
theorem dX5_tell_2 : decode cX5_tell 2 = .ok (.iload_n 1, 1) := by decide +kernel
theorem dX5_tell_3 : decode cX5_tell 3 = .ok (.imul, 1) := by decide +kernel
theorem dX5_tell_4 : decode cX5_tell 4 = .ok (.iload_n 2, 1) := by decide +kernel
theorem dX5_tell_5 : decode cX5_tell 5 = .ok (.iadd, 1) := by decide +kernel
theorem dX5_tell_6 : decode cX5_tell 6 = .ok (.istore_n 3, 1) := by decide +kernel
theorem dX5_tell_7 : decode cX5_tell 7 = .ok (.aload_n 0, 1) := by decide +kernel
theorem dX5_tell_8 : decode cX5_tell 8 = .ok (.getfield 44, 3) := by decide +kernel
theorem dX5_tell_11 : decode cX5_tell 11 = .ok (.sipush 384, 3) := by decide +kernel
theorem dX5_tell_14 : decode cX5_tell 14 = .ok (.iload_n 3, 1) := by decide +kernel
theorem dX5_tell_15 : decode cX5_tell 15 = .ok (.iadd, 1) := by decide +kernel
theorem dX5_tell_16 : decode cX5_tell 16 = .ok (.iaload, 1) := by decide +kernel
theorem dX5_tell_17 : decode cX5_tell 17 = .ok (.aload_n 0, 1) := by decide +kernel
theorem dX5_tell_18 : decode cX5_tell 18 = .ok (.getfield 44, 3) := by decide +kernel
theorem dX5_tell_21 : decode cX5_tell 21 = .ok (.sipush 864, 3) := by decide +kernel
theorem dX5_tell_24 : decode cX5_tell 24 = .ok (.iaload, 1) := by decide +kernel
theorem dX5_tell_25 : decode cX5_tell 25 = .ok (.if_icmp .ne 40, 3) := by decide +kernel
theorem dX5_tell_28 : decode cX5_tell 28 = .ok (.aload_n 0, 1) := by decide +kernel
theorem dX5_tell_29 : decode cX5_tell 29 = .ok (.getfield 44, 3) := by decide +kernel
theorem dX5_tell_32 : decode cX5_tell 32 = .ok (.sipush 384, 3) := by decide +kernel
theorem dX5_tell_35 : decode cX5_tell 35 = .ok (.iload_n 3, 1) := by decide +kernel
theorem dX5_tell_36 : decode cX5_tell 36 = .ok (.iadd, 1) := by decide +kernel
theorem dX5_tell_37 : decode cX5_tell 37 = .ok (.iconst (-1), 1) := by decide +kernel
theorem dX5_tell_38 : decode cX5_tell 38 = .ok (.iastore, 1) := by decide +kernel
theorem dX5_tell_39 : decode cX5_tell 39 = .ok (.aload_n 0, 1) := by decide +kernel
theorem dX5_tell_40 : decode cX5_tell 40 = .ok (.getfield 44, 3) := by decide +kernel
theorem dX5_tell_43 : decode cX5_tell 43 = .ok (.sipush 192, 3) := by decide +kernel
theorem dX5_tell_46 : decode cX5_tell 46 = .ok (.iload_n 3, 1) := by decide +kernel
theorem dX5_tell_47 : decode cX5_tell 47 = .ok (.iadd, 1) := by decide +kernel
theorem dX5_tell_48 : decode cX5_tell 48 = .ok (.iaload, 1) := by decide +kernel
theorem dX5_tell_49 : decode cX5_tell 49 = .ok (.aload_n 0, 1) := by decide +kernel
theorem dX5_tell_50 : decode cX5_tell 50 = .ok (.getfield 41, 3) := by decide +kernel
theorem dX5_tell_53 : decode cX5_tell 53 = .ok (.iload_n 1, 1) := by decide +kernel
theorem dX5_tell_54 : decode cX5_tell 54 = .ok (.iaload, 1) := by decide +kernel
theorem dX5_tell_55 : decode cX5_tell 55 = .ok (.if_icmp .ge 10, 3) := by decide +kernel
theorem dX5_tell_58 : decode cX5_tell 58 = .ok (.aload_n 0, 1) := by decide +kernel
theorem dX5_tell_59 : decode cX5_tell 59 = .ok (.iload_n 1, 1) := by decide +kernel
theorem dX5_tell_60 : decode cX5_tell 60 = .ok (.iload_n 2, 1) := by decide +kernel
theorem dX5_tell_61 : decode cX5_tell 61 = .ok (.iconst 0, 1) := by decide +kernel
theorem dX5_tell_62 : decode cX5_tell 62 = .ok (.invokevirtual 123, 3) := by decide +kernel
theorem dX5_tell_65 : decode cX5_tell 65 = .ok (.aload_n 0, 1) := by decide +kernel
theorem dX5_tell_66 : decode cX5_tell 66 = .ok (.getfield 44, 3) := by decide +kernel
theorem dX5_tell_69 : decode cX5_tell 69 = .ok (.sipush 480, 3) := by decide +kernel
theorem dX5_tell_72 : decode cX5_tell 72 = .ok (.iload_n 3, 1) := by decide +kernel
theorem dX5_tell_73 : decode cX5_tell 73 = .ok (.iadd, 1) := by decide +kernel
theorem dX5_tell_74 : decode cX5_tell 74 = .ok (.iaload, 1) := by decide +kernel
theorem dX5_tell_75 : decode cX5_tell 75 = .ok (.aload_n 0, 1) := by decide +kernel
theorem dX5_tell_76 : decode cX5_tell 76 = .ok (.getfield 44, 3) := by decide +kernel
theorem dX5_tell_79 : decode cX5_tell 79 = .ok (.sipush 864, 3) := by decide +kernel
theorem dX5_tell_82 : decode cX5_tell 82 = .ok (.iaload, 1) := by decide +kernel
theorem dX5_tell_83 : decode cX5_tell 83 = .ok (.if_icmp .eq 4, 3) := by decide +kernel
theorem dX5_tell_86 : decode cX5_tell 86 = .ok (.return_, 1) := by decide +kernel
theorem dX5_tell_87 : decode cX5_tell 87 = .ok (.aload_n 0, 1) := by decide +kernel
theorem dX5_tell_88 : decode cX5_tell 88 = .ok (.getfield 44, 3) := by decide +kernel
theorem dX5_tell_91 : decode cX5_tell 91 = .ok (.sipush 480, 3) := by decide +kernel
theorem dX5_tell_94 : decode cX5_tell 94 = .ok (.iload_n 3, 1) := by decide +kernel
theorem dX5_tell_95 : decode cX5_tell 95 = .ok (.iadd, 1) := by decide +kernel
theorem dX5_tell_96 : decode cX5_tell 96 = .ok (.iconst (-1), 1) := by decide +kernel
theorem dX5_tell_97 : decode cX5_tell 97 = .ok (.iastore, 1) := by decide +kernel
theorem dX5_tell_98 : decode cX5_tell 98 = .ok (.aload_n 0, 1) := by decide +kernel
theorem dX5_tell_99 : decode cX5_tell 99 = .ok (.iload_n 1, 1) := by decide +kernel
theorem dX5_tell_100 : decode cX5_tell 100 = .ok (.iload_n 2, 1) := by decide +kernel
theorem dX5_tell_101 : decode cX5_tell 101 = .ok (.iconst 1, 1) := by decide +kernel
theorem dX5_tell_102 : decode cX5_tell 102 = .ok (.invokevirtual 123, 3) := by decide +kernel
theorem dX5_tell_105 : decode cX5_tell 105 = .ok (.return_, 1) := by decide +kernel
theorem dX5_hourFor_0 : decode cX5_hourFor 0 = .ok (.iconst 0, 1) := by decide +kernel
theorem dX5_hourFor_1 : decode cX5_hourFor 1 = .ok (.istore_n 2, 1) := by decide +kernel
theorem dX5_hourFor_2 : decode cX5_hourFor 2 = .ok (.iload_n 2, 1) := by decide +kernel
theorem dX5_hourFor_3 : decode cX5_hourFor 3 = .ok (.aload_n 0, 1) := by decide +kernel
theorem dX5_hourFor_4 : decode cX5_hourFor 4 = .ok (.getfield 67, 3) := by decide +kernel
theorem dX5_hourFor_7 : decode cX5_hourFor 7 = .ok (.if_icmp .ge 19, 3) := by decide +kernel
theorem dX5_hourFor_10 : decode cX5_hourFor 10 = .ok (.aload_n 0, 1) := by decide +kernel
theorem dX5_hourFor_11 : decode cX5_hourFor 11 = .ok (.bipush 12, 2) := by decide +kernel
theorem dX5_hourFor_13 : decode cX5_hourFor 13 = .ok (.iload_n 1, 1) := by decide +kernel
theorem dX5_hourFor_14 : decode cX5_hourFor 14 = .ok (.imul, 1) := by decide +kernel
theorem dX5_hourFor_15 : decode cX5_hourFor 15 = .ok (.iload_n 2, 1) := by decide +kernel
theorem dX5_hourFor_16 : decode cX5_hourFor 16 = .ok (.iadd, 1) := by decide +kernel
theorem dX5_hourFor_17 : decode cX5_hourFor 17 = .ok (.invokevirtual 127, 3) := by decide +kernel
theorem dX5_hourFor_20 : decode cX5_hourFor 20 = .ok (.iinc 2 1, 3) := by decide +kernel
theorem dX5_hourFor_23 : decode cX5_hourFor 23 = .ok (.goto (-21), 3) := by decide +kernel
theorem dX5_hourFor_26 : decode cX5_hourFor 26 = .ok (.iconst 0, 1) := by decide +kernel
theorem dX5_hourFor_27 : decode cX5_hourFor 27 = .ok (.istore_n 2, 1) := by decide +kernel
theorem dX5_hourFor_28 : decode cX5_hourFor 28 = .ok (.iload_n 2, 1) := by decide +kernel
theorem dX5_hourFor_29 : decode cX5_hourFor 29 = .ok (.aload_n 0, 1) := by decide +kernel
theorem dX5_hourFor_30 : decode cX5_hourFor 30 = .ok (.getfield 67, 3) := by decide +kernel
theorem dX5_hourFor_33 : decode cX5_hourFor 33 = .ok (.if_icmp .ge 15, 3) := by decide +kernel
theorem dX5_hourFor_36 : decode cX5_hourFor 36 = .ok (.aload_n 0, 1) := by decide +kernel
theorem dX5_hourFor_37 : decode cX5_hourFor 37 = .ok (.iload_n 1, 1) := by decide +kernel
theorem dX5_hourFor_38 : decode cX5_hourFor 38 = .ok (.iload_n 2, 1) := by decide +kernel
theorem dX5_hourFor_39 : decode cX5_hourFor 39 = .ok (.invokevirtual 130, 3) := by decide +kernel
theorem dX5_hourFor_42 : decode cX5_hourFor 42 = .ok (.iinc 2 1, 3) := by decide +kernel
theorem dX5_hourFor_45 : decode cX5_hourFor 45 = .ok (.goto (-17), 3) := by decide +kernel
theorem dX5_hourFor_48 : decode cX5_hourFor 48 = .ok (.return_, 1) := by decide +kernel
theorem dX5_hourOn_0 : decode cX5_hourOn 0 = .ok (.iconst 0, 1) := by decide +kernel
theorem dX5_hourOn_1 : decode cX5_hourOn 1 = .ok (.istore_n 1, 1) := by decide +kernel
theorem dX5_hourOn_2 : decode cX5_hourOn 2 = .ok (.iload_n 1, 1) := by decide +kernel
theorem dX5_hourOn_3 : decode cX5_hourOn 3 = .ok (.aload_n 0, 1) := by decide +kernel
theorem dX5_hourOn_4 : decode cX5_hourOn 4 = .ok (.getfield 77, 3) := by decide +kernel
theorem dX5_hourOn_7 : decode cX5_hourOn 7 = .ok (.if_icmp .ge 14, 3) := by decide +kernel
theorem dX5_hourOn_10 : decode cX5_hourOn 10 = .ok (.aload_n 0, 1) := by decide +kernel
theorem dX5_hourOn_11 : decode cX5_hourOn 11 = .ok (.iload_n 1, 1) := by decide +kernel
theorem dX5_hourOn_12 : decode cX5_hourOn 12 = .ok (.invokevirtual 133, 3) := by decide +kernel
theorem dX5_hourOn_15 : decode cX5_hourOn 15 = .ok (.iinc 1 1, 3) := by decide +kernel
theorem dX5_hourOn_18 : decode cX5_hourOn 18 = .ok (.goto (-16), 3) := by decide +kernel
theorem dX5_hourOn_21 : decode cX5_hourOn 21 = .ok (.aload_n 0, 1) := by decide +kernel
theorem dX5_hourOn_22 : decode cX5_hourOn 22 = .ok (.getfield 44, 3) := by decide +kernel
theorem dX5_hourOn_25 : decode cX5_hourOn 25 = .ok (.sipush 864, 3) := by decide +kernel
theorem dX5_hourOn_28 : decode cX5_hourOn 28 = .ok (.dup2, 1) := by decide +kernel
theorem dX5_hourOn_29 : decode cX5_hourOn 29 = .ok (.iaload, 1) := by decide +kernel
theorem dX5_hourOn_30 : decode cX5_hourOn 30 = .ok (.iconst 1, 1) := by decide +kernel
theorem dX5_hourOn_31 : decode cX5_hourOn 31 = .ok (.iadd, 1) := by decide +kernel
theorem dX5_hourOn_32 : decode cX5_hourOn 32 = .ok (.iastore, 1) := by decide +kernel
theorem dX5_hourOn_33 : decode cX5_hourOn 33 = .ok (.return_, 1) := by decide +kernel
theorem dX5_lookOn_0 : decode cX5_lookOn 0 = .ok (.iconst 0, 1) := by decide +kernel
theorem dX5_lookOn_1 : decode cX5_lookOn 1 = .ok (.istore_n 3, 1) := by decide +kernel
theorem dX5_lookOn_2 : decode cX5_lookOn 2 = .ok (.iload_n 3, 1) := by decide +kernel
theorem dX5_lookOn_3 : decode cX5_lookOn 3 = .ok (.iload_n 2, 1) := by decide +kernel
theorem dX5_lookOn_4 : decode cX5_lookOn 4 = .ok (.if_icmp .ge 26, 3) := by decide +kernel
theorem dX5_lookOn_7 : decode cX5_lookOn 7 = .ok (.aload_n 0, 1) := by decide +kernel
theorem dX5_lookOn_8 : decode cX5_lookOn 8 = .ok (.iload_n 1, 1) := by decide +kernel
theorem dX5_lookOn_9 : decode cX5_lookOn 9 = .ok (.invokevirtual 133, 3) := by decide +kernel
theorem dX5_lookOn_12 : decode cX5_lookOn 12 = .ok (.aload_n 0, 1) := by decide +kernel
theorem dX5_lookOn_13 : decode cX5_lookOn 13 = .ok (.getfield 44, 3) := by decide +kernel
theorem dX5_lookOn_16 : decode cX5_lookOn 16 = .ok (.sipush 864, 3) := by decide +kernel
theorem dX5_lookOn_19 : decode cX5_lookOn 19 = .ok (.dup2, 1) := by decide +kernel
theorem dX5_lookOn_20 : decode cX5_lookOn 20 = .ok (.iaload, 1) := by decide +kernel
theorem dX5_lookOn_21 : decode cX5_lookOn 21 = .ok (.iconst 1, 1) := by decide +kernel
theorem dX5_lookOn_22 : decode cX5_lookOn 22 = .ok (.iadd, 1) := by decide +kernel
theorem dX5_lookOn_23 : decode cX5_lookOn 23 = .ok (.iastore, 1) := by decide +kernel
theorem dX5_lookOn_24 : decode cX5_lookOn 24 = .ok (.iinc 3 1, 3) := by decide +kernel
theorem dX5_lookOn_27 : decode cX5_lookOn 27 = .ok (.goto (-25), 3) := by decide +kernel
theorem dX5_lookOn_30 : decode cX5_lookOn 30 = .ok (.return_, 1) := by decide +kernel
theorem dX5_heardOf_0 : decode cX5_heardOf 0 = .ok (.iconst 0, 1) := by decide +kernel
theorem dX5_heardOf_1 : decode cX5_heardOf 1 = .ok (.istore_n 2, 1) := by decide +kernel
theorem dX5_heardOf_2 : decode cX5_heardOf 2 = .ok (.iconst 0, 1) := by decide +kernel
theorem dX5_heardOf_3 : decode cX5_heardOf 3 = .ok (.istore_n 3, 1) := by decide +kernel
theorem dX5_heardOf_4 : decode cX5_heardOf 4 = .ok (.iload_n 3, 1) := by decide +kernel
theorem dX5_heardOf_5 : decode cX5_heardOf 5 = .ok (.aload_n 0, 1) := by decide +kernel
theorem dX5_heardOf_6 : decode cX5_heardOf 6 = .ok (.getfield 67, 3) := by decide +kernel
theorem dX5_heardOf_9 : decode cX5_heardOf 9 = .ok (.if_icmp .ge 35, 3) := by decide +kernel
theorem dX5_heardOf_12 : decode cX5_heardOf 12 = .ok (.iload_n 2, 1) := by decide +kernel
theorem dX5_heardOf_13 : decode cX5_heardOf 13 = .ok (.aload_n 0, 1) := by decide +kernel
theorem dX5_heardOf_14 : decode cX5_heardOf 14 = .ok (.getfield 44, 3) := by decide +kernel
theorem dX5_heardOf_17 : decode cX5_heardOf 17 = .ok (.bipush 96, 2) := by decide +kernel
theorem dX5_heardOf_19 : decode cX5_heardOf 19 = .ok (.bipush 12, 2) := by decide +kernel
theorem dX5_heardOf_21 : decode cX5_heardOf 21 = .ok (.iload_n 1, 1) := by decide +kernel
theorem dX5_heardOf_22 : decode cX5_heardOf 22 = .ok (.imul, 1) := by decide +kernel
theorem dX5_heardOf_23 : decode cX5_heardOf 23 = .ok (.iadd, 1) := by decide +kernel
theorem dX5_heardOf_24 : decode cX5_heardOf 24 = .ok (.iload_n 3, 1) := by decide +kernel
theorem dX5_heardOf_25 : decode cX5_heardOf 25 = .ok (.iadd, 1) := by decide +kernel
theorem dX5_heardOf_26 : decode cX5_heardOf 26 = .ok (.iaload, 1) := by decide +kernel
theorem dX5_heardOf_27 : decode cX5_heardOf 27 = .ok (.iconst (-1), 1) := by decide +kernel
theorem dX5_heardOf_28 : decode cX5_heardOf 28 = .ok (.if_icmp .ne 7, 3) := by decide +kernel
theorem dX5_heardOf_31 : decode cX5_heardOf 31 = .ok (.iconst 0, 1) := by decide +kernel
theorem dX5_heardOf_32 : decode cX5_heardOf 32 = .ok (.goto 4, 3) := by decide +kernel
theorem dX5_heardOf_35 : decode cX5_heardOf 35 = .ok (.iconst 1, 1) := by decide +kernel
theorem dX5_heardOf_36 : decode cX5_heardOf 36 = .ok (.iadd, 1) := by decide +kernel
theorem dX5_heardOf_37 : decode cX5_heardOf 37 = .ok (.istore_n 2, 1) := by decide +kernel
theorem dX5_heardOf_38 : decode cX5_heardOf 38 = .ok (.iinc 3 1, 3) := by decide +kernel
theorem dX5_heardOf_41 : decode cX5_heardOf 41 = .ok (.goto (-37), 3) := by decide +kernel
theorem dX5_heardOf_44 : decode cX5_heardOf 44 = .ok (.iload_n 2, 1) := by decide +kernel
theorem dX5_heardOf_45 : decode cX5_heardOf 45 = .ok (.ireturn, 1) := by decide +kernel
theorem dX5_heardInAll_0 : decode cX5_heardInAll 0 = .ok (.iconst 0, 1) := by decide +kernel
theorem dX5_heardInAll_1 : decode cX5_heardInAll 1 = .ok (.istore_n 1, 1) := by decide +kernel
theorem dX5_heardInAll_2 : decode cX5_heardInAll 2 = .ok (.iconst 0, 1) := by decide +kernel
theorem dX5_heardInAll_3 : decode cX5_heardInAll 3 = .ok (.istore_n 2, 1) := by decide +kernel
theorem dX5_heardInAll_4 : decode cX5_heardInAll 4 = .ok (.iload_n 2, 1) := by decide +kernel
theorem dX5_heardInAll_5 : decode cX5_heardInAll 5 = .ok (.aload_n 0, 1) := by decide +kernel
theorem dX5_heardInAll_6 : decode cX5_heardInAll 6 = .ok (.getfield 77, 3) := by decide +kernel
theorem dX5_heardInAll_9 : decode cX5_heardInAll 9 = .ok (.if_icmp .ge 17, 3) := by decide +kernel
theorem dX5_heardInAll_12 : decode cX5_heardInAll 12 = .ok (.iload_n 1, 1) := by decide +kernel
theorem dX5_heardInAll_13 : decode cX5_heardInAll 13 = .ok (.aload_n 0, 1) := by decide +kernel
theorem dX5_heardInAll_14 : decode cX5_heardInAll 14 = .ok (.iload_n 2, 1) := by decide +kernel
theorem dX5_heardInAll_15 : decode cX5_heardInAll 15 = .ok (.invokevirtual 136, 3) := by decide +kernel
theorem dX5_heardInAll_18 : decode cX5_heardInAll 18 = .ok (.iadd, 1) := by decide +kernel
theorem dX5_heardInAll_19 : decode cX5_heardInAll 19 = .ok (.istore_n 1, 1) := by decide +kernel
theorem dX5_heardInAll_20 : decode cX5_heardInAll 20 = .ok (.iinc 2 1, 3) := by decide +kernel
theorem dX5_heardInAll_23 : decode cX5_heardInAll 23 = .ok (.goto (-19), 3) := by decide +kernel
theorem dX5_heardInAll_26 : decode cX5_heardInAll 26 = .ok (.iload_n 1, 1) := by decide +kernel
theorem dX5_heardInAll_27 : decode cX5_heardInAll 27 = .ok (.ireturn, 1) := by decide +kernel
theorem dX5_believing_0 : decode cX5_believing 0 = .ok (.iconst 0, 1) := by decide +kernel
theorem dX5_believing_1 : decode cX5_believing 1 = .ok (.istore_n 2, 1) := by decide +kernel
theorem dX5_believing_2 : decode cX5_believing 2 = .ok (.iconst 0, 1) := by decide +kernel
theorem dX5_believing_3 : decode cX5_believing 3 = .ok (.istore_n 3, 1) := by decide +kernel
theorem dX5_believing_4 : decode cX5_believing 4 = .ok (.iload_n 3, 1) := by decide +kernel
theorem dX5_believing_5 : decode cX5_believing 5 = .ok (.aload_n 0, 1) := by decide +kernel
theorem dX5_believing_6 : decode cX5_believing 6 = .ok (.getfield 67, 3) := by decide +kernel
theorem dX5_believing_9 : decode cX5_believing 9 = .ok (.if_icmp .ge 39, 3) := by decide +kernel
theorem dX5_believing_12 : decode cX5_believing 12 = .ok (.iload_n 2, 1) := by decide +kernel
theorem dX5_believing_13 : decode cX5_believing 13 = .ok (.aload_n 0, 1) := by decide +kernel
theorem dX5_believing_14 : decode cX5_believing 14 = .ok (.getfield 44, 3) := by decide +kernel
theorem dX5_believing_17 : decode cX5_believing 17 = .ok (.iconst 0, 1) := by decide +kernel
theorem dX5_believing_18 : decode cX5_believing 18 = .ok (.bipush 12, 2) := by decide +kernel
theorem dX5_believing_20 : decode cX5_believing 20 = .ok (.iload_n 1, 1) := by decide +kernel
theorem dX5_believing_21 : decode cX5_believing 21 = .ok (.imul, 1) := by decide +kernel
theorem dX5_believing_22 : decode cX5_believing 22 = .ok (.iadd, 1) := by decide +kernel
theorem dX5_believing_23 : decode cX5_believing 23 = .ok (.iload_n 3, 1) := by decide +kernel
theorem dX5_believing_24 : decode cX5_believing 24 = .ok (.iadd, 1) := by decide +kernel
theorem dX5_believing_25 : decode cX5_believing 25 = .ok (.iaload, 1) := by decide +kernel
theorem dX5_believing_26 : decode cX5_believing 26 = .ok (.iconst 1, 1) := by decide +kernel
theorem dX5_believing_27 : decode cX5_believing 27 = .ok (.if_icmp .ne 12, 3) := by decide +kernel
theorem dX5_believing_30 : decode cX5_believing 30 = .ok (.aload_n 0, 1) := by decide +kernel
theorem dX5_believing_31 : decode cX5_believing 31 = .ok (.getfield 9, 3) := by decide +kernel
theorem dX5_believing_34 : decode cX5_believing 34 = .ok (.iload_n 3, 1) := by decide +kernel
theorem dX5_believing_35 : decode cX5_believing 35 = .ok (.iaload, 1) := by decide +kernel
theorem dX5_believing_36 : decode cX5_believing 36 = .ok (.goto 4, 3) := by decide +kernel
theorem dX5_believing_39 : decode cX5_believing 39 = .ok (.iconst 0, 1) := by decide +kernel
theorem dX5_believing_40 : decode cX5_believing 40 = .ok (.iadd, 1) := by decide +kernel
theorem dX5_believing_41 : decode cX5_believing 41 = .ok (.istore_n 2, 1) := by decide +kernel
theorem dX5_believing_42 : decode cX5_believing 42 = .ok (.iinc 3 1, 3) := by decide +kernel
theorem dX5_believing_45 : decode cX5_believing 45 = .ok (.goto (-41), 3) := by decide +kernel
theorem dX5_believing_48 : decode cX5_believing 48 = .ok (.iload_n 2, 1) := by decide +kernel
theorem dX5_believing_49 : decode cX5_believing 49 = .ok (.ireturn, 1) := by decide +kernel
theorem dX5_isOnWay_0 : decode cX5_isOnWay 0 = .ok (.aload_n 0, 1) := by decide +kernel
theorem dX5_isOnWay_1 : decode cX5_isOnWay 1 = .ok (.getfield 44, 3) := by decide +kernel
theorem dX5_isOnWay_4 : decode cX5_isOnWay 4 = .ok (.sipush 576, 3) := by decide +kernel
theorem dX5_isOnWay_7 : decode cX5_isOnWay 7 = .ok (.iload_n 1, 1) := by decide +kernel
theorem dX5_isOnWay_8 : decode cX5_isOnWay 8 = .ok (.iadd, 1) := by decide +kernel
theorem dX5_isOnWay_9 : decode cX5_isOnWay 9 = .ok (.iaload, 1) := by decide +kernel
theorem dX5_isOnWay_10 : decode cX5_isOnWay 10 = .ok (.iconst (-1), 1) := by decide +kernel
theorem dX5_isOnWay_11 : decode cX5_isOnWay 11 = .ok (.if_icmp .ne 17, 3) := by decide +kernel
theorem dX5_isOnWay_14 : decode cX5_isOnWay 14 = .ok (.aload_n 0, 1) := by decide +kernel
theorem dX5_isOnWay_15 : decode cX5_isOnWay 15 = .ok (.getfield 44, 3) := by decide +kernel
theorem dX5_isOnWay_18 : decode cX5_isOnWay 18 = .ok (.sipush 768, 3) := by decide +kernel
theorem dX5_isOnWay_21 : decode cX5_isOnWay 21 = .ok (.iload_n 1, 1) := by decide +kernel
theorem dX5_isOnWay_22 : decode cX5_isOnWay 22 = .ok (.iadd, 1) := by decide +kernel
theorem dX5_isOnWay_23 : decode cX5_isOnWay 23 = .ok (.iaload, 1) := by decide +kernel
theorem dX5_isOnWay_24 : decode cX5_isOnWay 24 = .ok (.iconst (-1), 1) := by decide +kernel
theorem dX5_isOnWay_25 : decode cX5_isOnWay 25 = .ok (.if_icmp .eq 7, 3) := by decide +kernel
theorem dX5_isOnWay_28 : decode cX5_isOnWay 28 = .ok (.iconst 1, 1) := by decide +kernel
theorem dX5_isOnWay_29 : decode cX5_isOnWay 29 = .ok (.goto 4, 3) := by decide +kernel
theorem dX5_isOnWay_32 : decode cX5_isOnWay 32 = .ok (.iconst 0, 1) := by decide +kernel
theorem dX5_isOnWay_33 : decode cX5_isOnWay 33 = .ok (.ireturn, 1) := by decide +kernel
theorem dX5_isQuiet_0 : decode cX5_isQuiet 0 = .ok (.iconst 0, 1) := by decide +kernel
theorem dX5_isQuiet_1 : decode cX5_isQuiet 1 = .ok (.istore_n 2, 1) := by decide +kernel
theorem dX5_isQuiet_2 : decode cX5_isQuiet 2 = .ok (.iload_n 2, 1) := by decide +kernel
theorem dX5_isQuiet_3 : decode cX5_isQuiet 3 = .ok (.aload_n 0, 1) := by decide +kernel
theorem dX5_isQuiet_4 : decode cX5_isQuiet 4 = .ok (.getfield 67, 3) := by decide +kernel
theorem dX5_isQuiet_7 : decode cX5_isQuiet 7 = .ok (.if_icmp .ge 54, 3) := by decide +kernel
theorem dX5_isQuiet_10 : decode cX5_isQuiet 10 = .ok (.bipush 12, 2) := by decide +kernel
theorem dX5_isQuiet_12 : decode cX5_isQuiet 12 = .ok (.iload_n 1, 1) := by decide +kernel
theorem dX5_isQuiet_13 : decode cX5_isQuiet 13 = .ok (.imul, 1) := by decide +kernel
theorem dX5_isQuiet_14 : decode cX5_isQuiet 14 = .ok (.iload_n 2, 1) := by decide +kernel
theorem dX5_isQuiet_15 : decode cX5_isQuiet 15 = .ok (.iadd, 1) := by decide +kernel
theorem dX5_isQuiet_16 : decode cX5_isQuiet 16 = .ok (.istore_n 3, 1) := by decide +kernel
theorem dX5_isQuiet_17 : decode cX5_isQuiet 17 = .ok (.aload_n 0, 1) := by decide +kernel
theorem dX5_isQuiet_18 : decode cX5_isQuiet 18 = .ok (.iload_n 3, 1) := by decide +kernel
theorem dX5_isQuiet_19 : decode cX5_isQuiet 19 = .ok (.invokevirtual 139, 3) := by decide +kernel
theorem dX5_isQuiet_22 : decode cX5_isQuiet 22 = .ok (.ifCond .ne 31, 3) := by decide +kernel
theorem dX5_isQuiet_25 : decode cX5_isQuiet 25 = .ok (.aload_n 0, 1) := by decide +kernel
theorem dX5_isQuiet_26 : decode cX5_isQuiet 26 = .ok (.getfield 44, 3) := by decide +kernel
theorem dX5_isQuiet_29 : decode cX5_isQuiet 29 = .ok (.sipush 384, 3) := by decide +kernel
theorem dX5_isQuiet_32 : decode cX5_isQuiet 32 = .ok (.iload_n 3, 1) := by decide +kernel
theorem dX5_isQuiet_33 : decode cX5_isQuiet 33 = .ok (.iadd, 1) := by decide +kernel
theorem dX5_isQuiet_34 : decode cX5_isQuiet 34 = .ok (.iaload, 1) := by decide +kernel
theorem dX5_isQuiet_35 : decode cX5_isQuiet 35 = .ok (.iconst (-1), 1) := by decide +kernel
theorem dX5_isQuiet_36 : decode cX5_isQuiet 36 = .ok (.if_icmp .ne 17, 3) := by decide +kernel
theorem dX5_isQuiet_39 : decode cX5_isQuiet 39 = .ok (.aload_n 0, 1) := by decide +kernel
theorem dX5_isQuiet_40 : decode cX5_isQuiet 40 = .ok (.getfield 44, 3) := by decide +kernel
theorem dX5_isQuiet_43 : decode cX5_isQuiet 43 = .ok (.sipush 480, 3) := by decide +kernel
theorem dX5_isQuiet_46 : decode cX5_isQuiet 46 = .ok (.iload_n 3, 1) := by decide +kernel
theorem dX5_isQuiet_47 : decode cX5_isQuiet 47 = .ok (.iadd, 1) := by decide +kernel
theorem dX5_isQuiet_48 : decode cX5_isQuiet 48 = .ok (.iaload, 1) := by decide +kernel
theorem dX5_isQuiet_49 : decode cX5_isQuiet 49 = .ok (.iconst (-1), 1) := by decide +kernel
theorem dX5_isQuiet_50 : decode cX5_isQuiet 50 = .ok (.if_icmp .eq 5, 3) := by decide +kernel
theorem dX5_isQuiet_53 : decode cX5_isQuiet 53 = .ok (.iconst 0, 1) := by decide +kernel
theorem dX5_isQuiet_54 : decode cX5_isQuiet 54 = .ok (.ireturn, 1) := by decide +kernel
theorem dX5_isQuiet_55 : decode cX5_isQuiet 55 = .ok (.iinc 2 1, 3) := by decide +kernel
theorem dX5_isQuiet_58 : decode cX5_isQuiet 58 = .ok (.goto (-56), 3) := by decide +kernel
theorem dX5_isQuiet_61 : decode cX5_isQuiet 61 = .ok (.iconst 1, 1) := by decide +kernel
theorem dX5_isQuiet_62 : decode cX5_isQuiet 62 = .ok (.ireturn, 1) := by decide +kernel
theorem dX5_build_0 : decode cX5_build 0 = .ok (.aload_n 0, 1) := by decide +kernel
theorem dX5_build_1 : decode cX5_build 1 = .ok (.iconst 0, 1) := by decide +kernel
theorem dX5_build_2 : decode cX5_build 2 = .ok (.putfield 63, 3) := by decide +kernel
theorem dX5_build_5 : decode cX5_build 5 = .ok (.iload_n 1, 1) := by decide +kernel
theorem dX5_build_6 : decode cX5_build 6 = .ok (.iconst 2, 1) := by decide +kernel
theorem dX5_build_7 : decode cX5_build 7 = .ok (.bipush 12, 2) := by decide +kernel
theorem dX5_build_9 : decode cX5_build 9 = .ok (.invokestatic 70, 3) := by decide +kernel
theorem dX5_build_12 : decode cX5_build 12 = .ok (.ifCond .ne 9, 3) := by decide +kernel
theorem dX5_build_15 : decode cX5_build 15 = .ok (.aload_n 0, 1) := by decide +kernel
theorem dX5_build_16 : decode cX5_build 16 = .ok (.iconst 1, 1) := by decide +kernel
theorem dX5_build_17 : decode cX5_build 17 = .ok (.invokevirtual 143, 3) := by decide +kernel
theorem dX5_build_20 : decode cX5_build 20 = .ok (.ireturn, 1) := by decide +kernel
theorem dX5_build_21 : decode cX5_build 21 = .ok (.aload_n 0, 1) := by decide +kernel
theorem dX5_build_22 : decode cX5_build 22 = .ok (.iload_n 1, 1) := by decide +kernel
theorem dX5_build_23 : decode cX5_build 23 = .ok (.invokevirtual 59, 3) := by decide +kernel
theorem dX5_build_26 : decode cX5_build 26 = .ok (.iload_n 1, 1) := by decide +kernel
theorem dX5_build_27 : decode cX5_build 27 = .ok (.iconst 1, 1) := by decide +kernel
theorem dX5_build_28 : decode cX5_build 28 = .ok (.isub, 1) := by decide +kernel
theorem dX5_build_29 : decode cX5_build 29 = .ok (.ireturn, 1) := by decide +kernel
theorem dX5_let_0 : decode cX5_let 0 = .ok (.aload_n 1, 1) := by decide +kernel
theorem dX5_let_1 : decode cX5_let 1 = .ok (.iload_n 2, 1) := by decide +kernel
theorem dX5_let_2 : decode cX5_let 2 = .ok (.iaload, 1) := by decide +kernel
theorem dX5_let_3 : decode cX5_let 3 = .ok (.istore 4, 2) := by decide +kernel
theorem dX5_let_5 : decode cX5_let 5 = .ok (.aload_n 1, 1) := by decide +kernel
theorem dX5_let_6 : decode cX5_let 6 = .ok (.iload_n 2, 1) := by decide +kernel
theorem dX5_let_7 : decode cX5_let 7 = .ok (.iload_n 3, 1) := by decide +kernel
theorem dX5_let_8 : decode cX5_let 8 = .ok (.iastore, 1) := by decide +kernel
theorem dX5_let_9 : decode cX5_let 9 = .ok (.iload 4, 2) := by decide +kernel
theorem dX5_let_11 : decode cX5_let 11 = .ok (.ireturn, 1) := by decide +kernel
theorem dX5_setStay_0 : decode cX5_setStay 0 = .ok (.aload_n 0, 1) := by decide +kernel
theorem dX5_setStay_1 : decode cX5_setStay 1 = .ok (.iconst 0, 1) := by decide +kernel
theorem dX5_setStay_2 : decode cX5_setStay 2 = .ok (.putfield 63, 3) := by decide +kernel
theorem dX5_setStay_5 : decode cX5_setStay 5 = .ok (.aload_n 0, 1) := by decide +kernel
theorem dX5_setStay_6 : decode cX5_setStay 6 = .ok (.iload_n 1, 1) := by decide +kernel
theorem dX5_setStay_7 : decode cX5_setStay 7 = .ok (.invokevirtual 146, 3) := by decide +kernel
theorem dX5_setStay_10 : decode cX5_setStay 10 = .ok (.ifCond .ne 9, 3) := by decide +kernel
theorem dX5_setStay_13 : decode cX5_setStay 13 = .ok (.aload_n 0, 1) := by decide +kernel
theorem dX5_setStay_14 : decode cX5_setStay 14 = .ok (.iconst 1, 1) := by decide +kernel
theorem dX5_setStay_15 : decode cX5_setStay 15 = .ok (.invokevirtual 143, 3) := by decide +kernel
theorem dX5_setStay_18 : decode cX5_setStay 18 = .ok (.ireturn, 1) := by decide +kernel
theorem dX5_setStay_19 : decode cX5_setStay 19 = .ok (.iload_n 2, 1) := by decide +kernel
theorem dX5_setStay_20 : decode cX5_setStay 20 = .ok (.iconst 0, 1) := by decide +kernel
theorem dX5_setStay_21 : decode cX5_setStay 21 = .ok (.bipush 9, 2) := by decide +kernel
theorem dX5_setStay_23 : decode cX5_setStay 23 = .ok (.invokestatic 70, 3) := by decide +kernel
theorem dX5_setStay_26 : decode cX5_setStay 26 = .ok (.ifCond .eq 16, 3) := by decide +kernel
theorem dX5_setStay_29 : decode cX5_setStay 29 = .ok (.aload_n 0, 1) := by decide +kernel
theorem dX5_setStay_30 : decode cX5_setStay 30 = .ok (.aload_n 0, 1) := by decide +kernel
theorem dX5_setStay_31 : decode cX5_setStay 31 = .ok (.getfield 13, 3) := by decide +kernel
theorem dX5_setStay_34 : decode cX5_setStay 34 = .ok (.iload_n 1, 1) := by decide +kernel
theorem dX5_setStay_35 : decode cX5_setStay 35 = .ok (.iload_n 2, 1) := by decide +kernel
theorem dX5_setStay_36 : decode cX5_setStay 36 = .ok (.invokevirtual 149, 3) := by decide +kernel
theorem dX5_setStay_39 : decode cX5_setStay 39 = .ok (.goto 8, 3) := by decide +kernel
theorem dX5_setStay_42 : decode cX5_setStay 42 = .ok (.aload_n 0, 1) := by decide +kernel
theorem dX5_setStay_43 : decode cX5_setStay 43 = .ok (.iconst 2, 1) := by decide +kernel
theorem dX5_setStay_44 : decode cX5_setStay 44 = .ok (.invokevirtual 143, 3) := by decide +kernel
theorem dX5_setStay_47 : decode cX5_setStay 47 = .ok (.ireturn, 1) := by decide +kernel
theorem dX5_setHeads_0 : decode cX5_setHeads 0 = .ok (.aload_n 0, 1) := by decide +kernel
theorem dX5_setHeads_1 : decode cX5_setHeads 1 = .ok (.iconst 0, 1) := by decide +kernel
theorem dX5_setHeads_2 : decode cX5_setHeads 2 = .ok (.putfield 63, 3) := by decide +kernel
theorem dX5_setHeads_5 : decode cX5_setHeads 5 = .ok (.aload_n 0, 1) := by decide +kernel
theorem dX5_setHeads_6 : decode cX5_setHeads 6 = .ok (.iload_n 1, 1) := by decide +kernel
theorem dX5_setHeads_7 : decode cX5_setHeads 7 = .ok (.invokevirtual 146, 3) := by decide +kernel
theorem dX5_setHeads_10 : decode cX5_setHeads 10 = .ok (.ifCond .ne 9, 3) := by decide +kernel
theorem dX5_setHeads_13 : decode cX5_setHeads 13 = .ok (.aload_n 0, 1) := by decide +kernel
theorem dX5_setHeads_14 : decode cX5_setHeads 14 = .ok (.iconst 1, 1) := by decide +kernel
theorem dX5_setHeads_15 : decode cX5_setHeads 15 = .ok (.invokevirtual 143, 3) := by decide +kernel
theorem dX5_setHeads_18 : decode cX5_setHeads 18 = .ok (.ireturn, 1) := by decide +kernel
theorem dX5_setHeads_19 : decode cX5_setHeads 19 = .ok (.iload_n 2, 1) := by decide +kernel
theorem dX5_setHeads_20 : decode cX5_setHeads 20 = .ok (.iconst 0, 1) := by decide +kernel
theorem dX5_setHeads_21 : decode cX5_setHeads 21 = .ok (.bipush 99, 2) := by decide +kernel
theorem dX5_setHeads_23 : decode cX5_setHeads 23 = .ok (.invokestatic 70, 3) := by decide +kernel
theorem dX5_setHeads_26 : decode cX5_setHeads 26 = .ok (.ifCond .eq 16, 3) := by decide +kernel
theorem dX5_setHeads_29 : decode cX5_setHeads 29 = .ok (.aload_n 0, 1) := by decide +kernel
theorem dX5_setHeads_30 : decode cX5_setHeads 30 = .ok (.aload_n 0, 1) := by decide +kernel
theorem dX5_setHeads_31 : decode cX5_setHeads 31 = .ok (.getfield 9, 3) := by decide +kernel
theorem dX5_setHeads_34 : decode cX5_setHeads 34 = .ok (.iload_n 1, 1) := by decide +kernel
theorem dX5_setHeads_35 : decode cX5_setHeads 35 = .ok (.iload_n 2, 1) := by decide +kernel
theorem dX5_setHeads_36 : decode cX5_setHeads 36 = .ok (.invokevirtual 149, 3) := by decide +kernel
theorem dX5_setHeads_39 : decode cX5_setHeads 39 = .ok (.goto 8, 3) := by decide +kernel
theorem dX5_setHeads_42 : decode cX5_setHeads 42 = .ok (.aload_n 0, 1) := by decide +kernel
theorem dX5_setHeads_43 : decode cX5_setHeads 43 = .ok (.iconst 2, 1) := by decide +kernel
theorem dX5_setHeads_44 : decode cX5_setHeads 44 = .ok (.invokevirtual 143, 3) := by decide +kernel
theorem dX5_setHeads_47 : decode cX5_setHeads 47 = .ok (.ireturn, 1) := by decide +kernel
theorem dX5_setStairs_0 : decode cX5_setStairs 0 = .ok (.aload_n 0, 1) := by decide +kernel
theorem dX5_setStairs_1 : decode cX5_setStairs 1 = .ok (.iconst 0, 1) := by decide +kernel
theorem dX5_setStairs_2 : decode cX5_setStairs 2 = .ok (.putfield 63, 3) := by decide +kernel
theorem dX5_setStairs_5 : decode cX5_setStairs 5 = .ok (.aload_n 0, 1) := by decide +kernel
theorem dX5_setStairs_6 : decode cX5_setStairs 6 = .ok (.iload_n 1, 1) := by decide +kernel
theorem dX5_setStairs_7 : decode cX5_setStairs 7 = .ok (.invokevirtual 153, 3) := by decide +kernel
theorem dX5_setStairs_10 : decode cX5_setStairs 10 = .ok (.ifCond .ne 9, 3) := by decide +kernel
theorem dX5_setStairs_13 : decode cX5_setStairs 13 = .ok (.aload_n 0, 1) := by decide +kernel
theorem dX5_setStairs_14 : decode cX5_setStairs 14 = .ok (.iconst 1, 1) := by decide +kernel
theorem dX5_setStairs_15 : decode cX5_setStairs 15 = .ok (.invokevirtual 143, 3) := by decide +kernel
theorem dX5_setStairs_18 : decode cX5_setStairs 18 = .ok (.ireturn, 1) := by decide +kernel
theorem dX5_setStairs_19 : decode cX5_setStairs 19 = .ok (.iload_n 2, 1) := by decide +kernel
theorem dX5_setStairs_20 : decode cX5_setStairs 20 = .ok (.iconst 1, 1) := by decide +kernel
theorem dX5_setStairs_21 : decode cX5_setStairs 21 = .ok (.bipush 9, 2) := by decide +kernel
theorem dX5_setStairs_23 : decode cX5_setStairs 23 = .ok (.invokestatic 70, 3) := by decide +kernel
theorem dX5_setStairs_26 : decode cX5_setStairs 26 = .ok (.ifCond .eq 16, 3) := by decide +kernel
theorem dX5_setStairs_29 : decode cX5_setStairs 29 = .ok (.aload_n 0, 1) := by decide +kernel
theorem dX5_setStairs_30 : decode cX5_setStairs 30 = .ok (.aload_n 0, 1) := by decide +kernel
theorem dX5_setStairs_31 : decode cX5_setStairs 31 = .ok (.getfield 16, 3) := by decide +kernel
theorem dX5_setStairs_34 : decode cX5_setStairs 34 = .ok (.iload_n 1, 1) := by decide +kernel
theorem dX5_setStairs_35 : decode cX5_setStairs 35 = .ok (.iload_n 2, 1) := by decide +kernel
theorem dX5_setStairs_36 : decode cX5_setStairs 36 = .ok (.invokevirtual 149, 3) := by decide +kernel
theorem dX5_setStairs_39 : decode cX5_setStairs 39 = .ok (.goto 8, 3) := by decide +kernel
theorem dX5_setStairs_42 : decode cX5_setStairs 42 = .ok (.aload_n 0, 1) := by decide +kernel
theorem dX5_setStairs_43 : decode cX5_setStairs 43 = .ok (.iconst 2, 1) := by decide +kernel
theorem dX5_setStairs_44 : decode cX5_setStairs 44 = .ok (.invokevirtual 143, 3) := by decide +kernel
theorem dX5_setStairs_47 : decode cX5_setStairs 47 = .ok (.ireturn, 1) := by decide +kernel
theorem dX5_turned_0 : decode cX5_turned 0 = .ok (.aload_n 1, 1) := by decide +kernel
theorem dX5_turned_1 : decode cX5_turned 1 = .ok (.iload_n 2, 1) := by decide +kernel
theorem dX5_turned_2 : decode cX5_turned 2 = .ok (.aload_n 1, 1) := by decide +kernel
theorem dX5_turned_3 : decode cX5_turned 3 = .ok (.iload_n 2, 1) := by decide +kernel
theorem dX5_turned_4 : decode cX5_turned 4 = .ok (.baload, 1) := by decide +kernel
theorem dX5_turned_5 : decode cX5_turned 5 = .ok (.ifCond .ne 7, 3) := by decide +kernel
theorem dX5_turned_8 : decode cX5_turned 8 = .ok (.iconst 1, 1) := by decide +kernel
theorem dX5_turned_9 : decode cX5_turned 9 = .ok (.goto 4, 3) := by decide +kernel
theorem dX5_turned_12 : decode cX5_turned 12 = .ok (.iconst 0, 1) := by decide +kernel
theorem dX5_turned_13 : decode cX5_turned 13 = .ok (.bastore, 1) := by decide +kernel
theorem dX5_turned_14 : decode cX5_turned 14 = .ok (.aload_n 1, 1) := by decide +kernel
theorem dX5_turned_15 : decode cX5_turned 15 = .ok (.iload_n 2, 1) := by decide +kernel
theorem dX5_turned_16 : decode cX5_turned 16 = .ok (.baload, 1) := by decide +kernel
theorem dX5_turned_17 : decode cX5_turned 17 = .ok (.ireturn, 1) := by decide +kernel
theorem dX5_turnStairs_0 : decode cX5_turnStairs 0 = .ok (.aload_n 0, 1) := by decide +kernel
theorem dX5_turnStairs_1 : decode cX5_turnStairs 1 = .ok (.iconst 0, 1) := by decide +kernel
theorem dX5_turnStairs_2 : decode cX5_turnStairs 2 = .ok (.putfield 63, 3) := by decide +kernel
theorem dX5_turnStairs_5 : decode cX5_turnStairs 5 = .ok (.aload_n 0, 1) := by decide +kernel
theorem dX5_turnStairs_6 : decode cX5_turnStairs 6 = .ok (.iload_n 1, 1) := by decide +kernel
theorem dX5_turnStairs_7 : decode cX5_turnStairs 7 = .ok (.invokevirtual 153, 3) := by decide +kernel
theorem dX5_turnStairs_10 : decode cX5_turnStairs 10 = .ok (.ifCond .eq 15, 3) := by decide +kernel
theorem dX5_turnStairs_13 : decode cX5_turnStairs 13 = .ok (.aload_n 0, 1) := by decide +kernel
theorem dX5_turnStairs_14 : decode cX5_turnStairs 14 = .ok (.aload_n 0, 1) := by decide +kernel
theorem dX5_turnStairs_15 : decode cX5_turnStairs 15 = .ok (.getfield 19, 3) := by decide +kernel
theorem dX5_turnStairs_18 : decode cX5_turnStairs 18 = .ok (.iload_n 1, 1) := by decide +kernel
theorem dX5_turnStairs_19 : decode cX5_turnStairs 19 = .ok (.invokevirtual 156, 3) := by decide +kernel
theorem dX5_turnStairs_22 : decode cX5_turnStairs 22 = .ok (.goto 8, 3) := by decide +kernel
theorem dX5_turnStairs_25 : decode cX5_turnStairs 25 = .ok (.aload_n 0, 1) := by decide +kernel
theorem dX5_turnStairs_26 : decode cX5_turnStairs 26 = .ok (.iconst 1, 1) := by decide +kernel
theorem dX5_turnStairs_27 : decode cX5_turnStairs 27 = .ok (.invokevirtual 160, 3) := by decide +kernel
theorem dX5_turnStairs_30 : decode cX5_turnStairs 30 = .ok (.ireturn, 1) := by decide +kernel
theorem dX5_addLift_0 : decode cX5_addLift 0 = .ok (.aload_n 0, 1) := by decide +kernel
theorem dX5_addLift_1 : decode cX5_addLift 1 = .ok (.iconst 0, 1) := by decide +kernel
theorem dX5_addLift_2 : decode cX5_addLift 2 = .ok (.putfield 63, 3) := by decide +kernel
theorem dX5_addLift_5 : decode cX5_addLift 5 = .ok (.aload_n 0, 1) := by decide +kernel
theorem dX5_addLift_6 : decode cX5_addLift 6 = .ok (.iload_n 1, 1) := by decide +kernel
theorem dX5_addLift_7 : decode cX5_addLift 7 = .ok (.invokevirtual 146, 3) := by decide +kernel
theorem dX5_addLift_10 : decode cX5_addLift 10 = .ok (.ifCond .eq 11, 3) := by decide +kernel
theorem dX5_addLift_13 : decode cX5_addLift 13 = .ok (.aload_n 0, 1) := by decide +kernel
theorem dX5_addLift_14 : decode cX5_addLift 14 = .ok (.iload_n 2, 1) := by decide +kernel
theorem dX5_addLift_15 : decode cX5_addLift 15 = .ok (.invokevirtual 146, 3) := by decide +kernel
theorem dX5_addLift_18 : decode cX5_addLift 18 = .ok (.ifCond .ne 9, 3) := by decide +kernel
theorem dX5_addLift_21 : decode cX5_addLift 21 = .ok (.aload_n 0, 1) := by decide +kernel
theorem dX5_addLift_22 : decode cX5_addLift 22 = .ok (.iconst 1, 1) := by decide +kernel
theorem dX5_addLift_23 : decode cX5_addLift 23 = .ok (.invokevirtual 143, 3) := by decide +kernel
theorem dX5_addLift_26 : decode cX5_addLift 26 = .ok (.ireturn, 1) := by decide +kernel
theorem dX5_addLift_27 : decode cX5_addLift 27 = .ok (.iload_n 1, 1) := by decide +kernel
theorem dX5_addLift_28 : decode cX5_addLift 28 = .ok (.iload_n 2, 1) := by decide +kernel
theorem dX5_addLift_29 : decode cX5_addLift 29 = .ok (.if_icmp .ge 25, 3) := by decide +kernel
theorem dX5_addLift_32 : decode cX5_addLift 32 = .ok (.iload_n 3, 1) := by decide +kernel
theorem dX5_addLift_33 : decode cX5_addLift 33 = .ok (.iconst 1, 1) := by decide +kernel
theorem dX5_addLift_34 : decode cX5_addLift 34 = .ok (.iload_n 2, 1) := by decide +kernel
theorem dX5_addLift_35 : decode cX5_addLift 35 = .ok (.iload_n 1, 1) := by decide +kernel
theorem dX5_addLift_36 : decode cX5_addLift 36 = .ok (.isub, 1) := by decide +kernel
theorem dX5_addLift_37 : decode cX5_addLift 37 = .ok (.invokestatic 70, 3) := by decide +kernel
theorem dX5_addLift_40 : decode cX5_addLift 40 = .ok (.ifCond .eq 14, 3) := by decide +kernel
theorem dX5_addLift_43 : decode cX5_addLift 43 = .ok (.iload 4, 2) := by decide +kernel
theorem dX5_addLift_45 : decode cX5_addLift 45 = .ok (.iconst 1, 1) := by decide +kernel
theorem dX5_addLift_46 : decode cX5_addLift 46 = .ok (.bipush 9, 2) := by decide +kernel
theorem dX5_addLift_48 : decode cX5_addLift 48 = .ok (.invokestatic 70, 3) := by decide +kernel
theorem dX5_addLift_51 : decode cX5_addLift 51 = .ok (.ifCond .ne 9, 3) := by decide +kernel
theorem dX5_addLift_54 : decode cX5_addLift 54 = .ok (.aload_n 0, 1) := by decide +kernel
theorem dX5_addLift_55 : decode cX5_addLift 55 = .ok (.iconst 2, 1) := by decide +kernel
theorem dX5_addLift_56 : decode cX5_addLift 56 = .ok (.invokevirtual 143, 3) := by decide +kernel
theorem dX5_addLift_59 : decode cX5_addLift 59 = .ok (.ireturn, 1) := by decide +kernel
theorem dX5_addLift_60 : decode cX5_addLift 60 = .ok (.aload_n 0, 1) := by decide +kernel
theorem dX5_addLift_61 : decode cX5_addLift 61 = .ok (.getfield 74, 3) := by decide +kernel
theorem dX5_addLift_64 : decode cX5_addLift 64 = .ok (.iconst 4, 1) := by decide +kernel
theorem dX5_addLift_65 : decode cX5_addLift 65 = .ok (.if_icmp .ne 9, 3) := by decide +kernel
theorem dX5_addLift_68 : decode cX5_addLift 68 = .ok (.aload_n 0, 1) := by decide +kernel
theorem dX5_addLift_69 : decode cX5_addLift 69 = .ok (.iconst 3, 1) := by decide +kernel
theorem dX5_addLift_70 : decode cX5_addLift 70 = .ok (.invokevirtual 143, 3) := by decide +kernel
theorem dX5_addLift_73 : decode cX5_addLift 73 = .ok (.ireturn, 1) := by decide +kernel
theorem dX5_addLift_74 : decode cX5_addLift 74 = .ok (.aload_n 0, 1) := by decide +kernel
theorem dX5_addLift_75 : decode cX5_addLift 75 = .ok (.getfield 23, 3) := by decide +kernel
theorem dX5_addLift_78 : decode cX5_addLift 78 = .ok (.aload_n 0, 1) := by decide +kernel
theorem dX5_addLift_79 : decode cX5_addLift 79 = .ok (.getfield 74, 3) := by decide +kernel
theorem dX5_addLift_82 : decode cX5_addLift 82 = .ok (.iload_n 1, 1) := by decide +kernel
theorem dX5_addLift_83 : decode cX5_addLift 83 = .ok (.iastore, 1) := by decide +kernel
theorem dX5_addLift_84 : decode cX5_addLift 84 = .ok (.aload_n 0, 1) := by decide +kernel
theorem dX5_addLift_85 : decode cX5_addLift 85 = .ok (.getfield 26, 3) := by decide +kernel
theorem dX5_addLift_88 : decode cX5_addLift 88 = .ok (.aload_n 0, 1) := by decide +kernel
theorem dX5_addLift_89 : decode cX5_addLift 89 = .ok (.getfield 74, 3) := by decide +kernel
theorem dX5_addLift_92 : decode cX5_addLift 92 = .ok (.iload_n 2, 1) := by decide +kernel
theorem dX5_addLift_93 : decode cX5_addLift 93 = .ok (.iastore, 1) := by decide +kernel
theorem dX5_addLift_94 : decode cX5_addLift 94 = .ok (.aload_n 0, 1) := by decide +kernel
theorem dX5_addLift_95 : decode cX5_addLift 95 = .ok (.getfield 29, 3) := by decide +kernel
theorem dX5_addLift_98 : decode cX5_addLift 98 = .ok (.aload_n 0, 1) := by decide +kernel
theorem dX5_addLift_99 : decode cX5_addLift 99 = .ok (.getfield 74, 3) := by decide +kernel
theorem dX5_addLift_102 : decode cX5_addLift 102 = .ok (.iload_n 3, 1) := by decide +kernel
theorem dX5_addLift_103 : decode cX5_addLift 103 = .ok (.iastore, 1) := by decide +kernel
theorem dX5_addLift_104 : decode cX5_addLift 104 = .ok (.aload_n 0, 1) := by decide +kernel
theorem dX5_addLift_105 : decode cX5_addLift 105 = .ok (.getfield 32, 3) := by decide +kernel
theorem dX5_addLift_108 : decode cX5_addLift 108 = .ok (.aload_n 0, 1) := by decide +kernel
theorem dX5_addLift_109 : decode cX5_addLift 109 = .ok (.getfield 74, 3) := by decide +kernel
theorem dX5_addLift_112 : decode cX5_addLift 112 = .ok (.iload 4, 2) := by decide +kernel
theorem dX5_addLift_114 : decode cX5_addLift 114 = .ok (.iastore, 1) := by decide +kernel
theorem dX5_addLift_115 : decode cX5_addLift 115 = .ok (.aload_n 0, 1) := by decide +kernel
theorem dX5_addLift_116 : decode cX5_addLift 116 = .ok (.getfield 35, 3) := by decide +kernel
theorem dX5_addLift_119 : decode cX5_addLift 119 = .ok (.aload_n 0, 1) := by decide +kernel
theorem dX5_addLift_120 : decode cX5_addLift 120 = .ok (.getfield 74, 3) := by decide +kernel
theorem dX5_addLift_123 : decode cX5_addLift 123 = .ok (.iconst 1, 1) := by decide +kernel
theorem dX5_addLift_124 : decode cX5_addLift 124 = .ok (.bastore, 1) := by decide +kernel
theorem dX5_addLift_125 : decode cX5_addLift 125 = .ok (.aload_n 0, 1) := by decide +kernel
theorem dX5_addLift_126 : decode cX5_addLift 126 = .ok (.dup, 1) := by decide +kernel
theorem dX5_addLift_127 : decode cX5_addLift 127 = .ok (.getfield 74, 3) := by decide +kernel
theorem dX5_addLift_130 : decode cX5_addLift 130 = .ok (.iconst 1, 1) := by decide +kernel
theorem dX5_addLift_131 : decode cX5_addLift 131 = .ok (.iadd, 1) := by decide +kernel
theorem dX5_addLift_132 : decode cX5_addLift 132 = .ok (.putfield 74, 3) := by decide +kernel
theorem dX5_addLift_135 : decode cX5_addLift 135 = .ok (.aload_n 0, 1) := by decide +kernel
theorem dX5_addLift_136 : decode cX5_addLift 136 = .ok (.getfield 74, 3) := by decide +kernel
theorem dX5_addLift_139 : decode cX5_addLift 139 = .ok (.iconst 1, 1) := by decide +kernel
theorem dX5_addLift_140 : decode cX5_addLift 140 = .ok (.isub, 1) := by decide +kernel
theorem dX5_addLift_141 : decode cX5_addLift 141 = .ok (.ireturn, 1) := by decide +kernel
theorem dX5_turnLift_0 : decode cX5_turnLift 0 = .ok (.aload_n 0, 1) := by decide +kernel
theorem dX5_turnLift_1 : decode cX5_turnLift 1 = .ok (.iconst 0, 1) := by decide +kernel
theorem dX5_turnLift_2 : decode cX5_turnLift 2 = .ok (.putfield 63, 3) := by decide +kernel
theorem dX5_turnLift_5 : decode cX5_turnLift 5 = .ok (.aload_n 0, 1) := by decide +kernel
theorem dX5_turnLift_6 : decode cX5_turnLift 6 = .ok (.iload_n 1, 1) := by decide +kernel
theorem dX5_turnLift_7 : decode cX5_turnLift 7 = .ok (.invokevirtual 163, 3) := by decide +kernel
theorem dX5_turnLift_10 : decode cX5_turnLift 10 = .ok (.ifCond .eq 15, 3) := by decide +kernel
theorem dX5_turnLift_13 : decode cX5_turnLift 13 = .ok (.aload_n 0, 1) := by decide +kernel
theorem dX5_turnLift_14 : decode cX5_turnLift 14 = .ok (.aload_n 0, 1) := by decide +kernel
theorem dX5_turnLift_15 : decode cX5_turnLift 15 = .ok (.getfield 35, 3) := by decide +kernel
theorem dX5_turnLift_18 : decode cX5_turnLift 18 = .ok (.iload_n 1, 1) := by decide +kernel
theorem dX5_turnLift_19 : decode cX5_turnLift 19 = .ok (.invokevirtual 156, 3) := by decide +kernel
theorem dX5_turnLift_22 : decode cX5_turnLift 22 = .ok (.goto 8, 3) := by decide +kernel
theorem dX5_turnLift_25 : decode cX5_turnLift 25 = .ok (.aload_n 0, 1) := by decide +kernel
theorem dX5_turnLift_26 : decode cX5_turnLift 26 = .ok (.iconst 1, 1) := by decide +kernel
theorem dX5_turnLift_27 : decode cX5_turnLift 27 = .ok (.invokevirtual 160, 3) := by decide +kernel
theorem dX5_turnLift_30 : decode cX5_turnLift 30 = .ok (.ireturn, 1) := by decide +kernel
theorem dX5_startRumour_0 : decode cX5_startRumour 0 = .ok (.aload_n 0, 1) := by decide +kernel
theorem dX5_startRumour_1 : decode cX5_startRumour 1 = .ok (.iconst 0, 1) := by decide +kernel
theorem dX5_startRumour_2 : decode cX5_startRumour 2 = .ok (.putfield 63, 3) := by decide +kernel
theorem dX5_startRumour_5 : decode cX5_startRumour 5 = .ok (.aload_n 0, 1) := by decide +kernel
theorem dX5_startRumour_6 : decode cX5_startRumour 6 = .ok (.iload_n 1, 1) := by decide +kernel
theorem dX5_startRumour_7 : decode cX5_startRumour 7 = .ok (.invokevirtual 146, 3) := by decide +kernel
theorem dX5_startRumour_10 : decode cX5_startRumour 10 = .ok (.ifCond .ne 9, 3) := by decide +kernel
theorem dX5_startRumour_13 : decode cX5_startRumour 13 = .ok (.aload_n 0, 1) := by decide +kernel
theorem dX5_startRumour_14 : decode cX5_startRumour 14 = .ok (.iconst 1, 1) := by decide +kernel
theorem dX5_startRumour_15 : decode cX5_startRumour 15 = .ok (.invokevirtual 143, 3) := by decide +kernel
theorem dX5_startRumour_18 : decode cX5_startRumour 18 = .ok (.ireturn, 1) := by decide +kernel
theorem dX5_startRumour_19 : decode cX5_startRumour 19 = .ok (.iload_n 2, 1) := by decide +kernel
theorem dX5_startRumour_20 : decode cX5_startRumour 20 = .ok (.iconst 1, 1) := by decide +kernel
theorem dX5_startRumour_21 : decode cX5_startRumour 21 = .ok (.bipush 20, 2) := by decide +kernel
theorem dX5_startRumour_23 : decode cX5_startRumour 23 = .ok (.invokestatic 70, 3) := by decide +kernel
theorem dX5_startRumour_26 : decode cX5_startRumour 26 = .ok (.ifCond .ne 9, 3) := by decide +kernel
theorem dX5_startRumour_29 : decode cX5_startRumour 29 = .ok (.aload_n 0, 1) := by decide +kernel
theorem dX5_startRumour_30 : decode cX5_startRumour 30 = .ok (.iconst 2, 1) := by decide +kernel
theorem dX5_startRumour_31 : decode cX5_startRumour 31 = .ok (.invokevirtual 143, 3) := by decide +kernel
theorem dX5_startRumour_34 : decode cX5_startRumour 34 = .ok (.ireturn, 1) := by decide +kernel
theorem dX5_startRumour_35 : decode cX5_startRumour 35 = .ok (.aload_n 0, 1) := by decide +kernel
theorem dX5_startRumour_36 : decode cX5_startRumour 36 = .ok (.getfield 77, 3) := by decide +kernel
theorem dX5_startRumour_39 : decode cX5_startRumour 39 = .ok (.bipush 8, 2) := by decide +kernel
theorem dX5_startRumour_41 : decode cX5_startRumour 41 = .ok (.if_icmp .ne 9, 3) := by decide +kernel
theorem dX5_startRumour_44 : decode cX5_startRumour 44 = .ok (.aload_n 0, 1) := by decide +kernel
theorem dX5_startRumour_45 : decode cX5_startRumour 45 = .ok (.iconst 3, 1) := by decide +kernel
theorem dX5_startRumour_46 : decode cX5_startRumour 46 = .ok (.invokevirtual 143, 3) := by decide +kernel
theorem dX5_startRumour_49 : decode cX5_startRumour 49 = .ok (.ireturn, 1) := by decide +kernel
theorem dX5_startRumour_50 : decode cX5_startRumour 50 = .ok (.aload_n 0, 1) := by decide +kernel
theorem dX5_startRumour_51 : decode cX5_startRumour 51 = .ok (.getfield 77, 3) := by decide +kernel
theorem dX5_startRumour_54 : decode cX5_startRumour 54 = .ok (.istore_n 3, 1) := by decide +kernel
theorem dX5_startRumour_55 : decode cX5_startRumour 55 = .ok (.aload_n 0, 1) := by decide +kernel
theorem dX5_startRumour_56 : decode cX5_startRumour 56 = .ok (.dup, 1) := by decide +kernel
theorem dX5_startRumour_57 : decode cX5_startRumour 57 = .ok (.getfield 77, 3) := by decide +kernel
theorem dX5_startRumour_60 : decode cX5_startRumour 60 = .ok (.iconst 1, 1) := by decide +kernel
theorem dX5_startRumour_61 : decode cX5_startRumour 61 = .ok (.iadd, 1) := by decide +kernel
theorem dX5_startRumour_62 : decode cX5_startRumour 62 = .ok (.putfield 77, 3) := by decide +kernel
theorem dX5_startRumour_65 : decode cX5_startRumour 65 = .ok (.aload_n 0, 1) := by decide +kernel
theorem dX5_startRumour_66 : decode cX5_startRumour 66 = .ok (.getfield 38, 3) := by decide +kernel
theorem dX5_startRumour_69 : decode cX5_startRumour 69 = .ok (.iload_n 3, 1) := by decide +kernel
theorem dX5_startRumour_70 : decode cX5_startRumour 70 = .ok (.iload_n 1, 1) := by decide +kernel
theorem dX5_startRumour_71 : decode cX5_startRumour 71 = .ok (.iastore, 1) := by decide +kernel
theorem dX5_startRumour_72 : decode cX5_startRumour 72 = .ok (.aload_n 0, 1) := by decide +kernel
theorem dX5_startRumour_73 : decode cX5_startRumour 73 = .ok (.getfield 41, 3) := by decide +kernel
theorem dX5_startRumour_76 : decode cX5_startRumour 76 = .ok (.iload_n 3, 1) := by decide +kernel
theorem dX5_startRumour_77 : decode cX5_startRumour 77 = .ok (.iload_n 2, 1) := by decide +kernel
theorem dX5_startRumour_78 : decode cX5_startRumour 78 = .ok (.iastore, 1) := by decide +kernel
theorem dX5_startRumour_79 : decode cX5_startRumour 79 = .ok (.iconst 0, 1) := by decide +kernel
theorem dX5_startRumour_80 : decode cX5_startRumour 80 = .ok (.istore 4, 2) := by decide +kernel
theorem dX5_startRumour_82 : decode cX5_startRumour 82 = .ok (.iload 4, 2) := by decide +kernel
theorem dX5_startRumour_84 : decode cX5_startRumour 84 = .ok (.bipush 12, 2) := by decide +kernel
theorem dX5_startRumour_86 : decode cX5_startRumour 86 = .ok (.if_icmp .ge 57, 3) := by decide +kernel
theorem dX5_startRumour_89 : decode cX5_startRumour 89 = .ok (.bipush 12, 2) := by decide +kernel
theorem dX5_startRumour_91 : decode cX5_startRumour 91 = .ok (.iload_n 3, 1) := by decide +kernel
theorem dX5_startRumour_92 : decode cX5_startRumour 92 = .ok (.imul, 1) := by decide +kernel
theorem dX5_startRumour_93 : decode cX5_startRumour 93 = .ok (.iload 4, 2) := by decide +kernel
theorem dX5_startRumour_95 : decode cX5_startRumour 95 = .ok (.iadd, 1) := by decide +kernel
theorem dX5_startRumour_96 : decode cX5_startRumour 96 = .ok (.istore 5, 2) := by decide +kernel
theorem dX5_startRumour_98 : decode cX5_startRumour 98 = .ok (.aload_n 0, 1) := by decide +kernel
theorem dX5_startRumour_99 : decode cX5_startRumour 99 = .ok (.getfield 44, 3) := by decide +kernel
theorem dX5_startRumour_102 : decode cX5_startRumour 102 = .ok (.iconst 0, 1) := by decide +kernel
theorem dX5_startRumour_103 : decode cX5_startRumour 103 = .ok (.iload 5, 2) := by decide +kernel
theorem dX5_startRumour_105 : decode cX5_startRumour 105 = .ok (.iadd, 1) := by decide +kernel
theorem dX5_startRumour_106 : decode cX5_startRumour 106 = .ok (.iconst 0, 1) := by decide +kernel
theorem dX5_startRumour_107 : decode cX5_startRumour 107 = .ok (.iastore, 1) := by decide +kernel
theorem dX5_startRumour_108 : decode cX5_startRumour 108 = .ok (.bipush 96, 2) := by decide +kernel
theorem dX5_startRumour_110 : decode cX5_startRumour 110 = .ok (.istore 6, 2) := by decide +kernel
theorem dX5_startRumour_112 : decode cX5_startRumour 112 = .ok (.iload 6, 2) := by decide +kernel
theorem dX5_startRumour_114 : decode cX5_startRumour 114 = .ok (.sipush 864, 3) := by decide +kernel
theorem dX5_startRumour_117 : decode cX5_startRumour 117 = .ok (.if_icmp .ge 20, 3) := by decide +kernel
theorem dX5_startRumour_120 : decode cX5_startRumour 120 = .ok (.aload_n 0, 1) := by decide +kernel
theorem dX5_startRumour_121 : decode cX5_startRumour 121 = .ok (.getfield 44, 3) := by decide +kernel
theorem dX5_startRumour_124 : decode cX5_startRumour 124 = .ok (.iload 6, 2) := by decide +kernel
theorem dX5_startRumour_126 : decode cX5_startRumour 126 = .ok (.iload 5, 2) := by decide +kernel
theorem dX5_startRumour_128 : decode cX5_startRumour 128 = .ok (.iadd, 1) := by decide +kernel
theorem dX5_startRumour_129 : decode cX5_startRumour 129 = .ok (.iconst (-1), 1) := by decide +kernel
theorem dX5_startRumour_130 : decode cX5_startRumour 130 = .ok (.iastore, 1) := by decide +kernel
theorem dX5_startRumour_131 : decode cX5_startRumour 131 = .ok (.iinc 6 96, 3) := by decide +kernel
theorem dX5_startRumour_134 : decode cX5_startRumour 134 = .ok (.goto (-22), 3) := by decide +kernel
theorem dX5_startRumour_137 : decode cX5_startRumour 137 = .ok (.iinc 4 1, 3) := by decide +kernel
theorem dX5_startRumour_140 : decode cX5_startRumour 140 = .ok (.goto (-58), 3) := by decide +kernel
theorem dX5_startRumour_143 : decode cX5_startRumour 143 = .ok (.aload_n 0, 1) := by decide +kernel
theorem dX5_startRumour_144 : decode cX5_startRumour 144 = .ok (.bipush 12, 2) := by decide +kernel
theorem dX5_startRumour_146 : decode cX5_startRumour 146 = .ok (.iload_n 3, 1) := by decide +kernel
theorem dX5_startRumour_147 : decode cX5_startRumour 147 = .ok (.imul, 1) := by decide +kernel
theorem dX5_startRumour_148 : decode cX5_startRumour 148 = .ok (.iload_n 1, 1) := by decide +kernel
theorem dX5_startRumour_149 : decode cX5_startRumour 149 = .ok (.iadd, 1) := by decide +kernel
theorem dX5_startRumour_150 : decode cX5_startRumour 150 = .ok (.iconst 0, 1) := by decide +kernel
theorem dX5_startRumour_151 : decode cX5_startRumour 151 = .ok (.invokevirtual 116, 3) := by decide +kernel
theorem dX5_startRumour_154 : decode cX5_startRumour 154 = .ok (.iload_n 3, 1) := by decide +kernel
theorem dX5_startRumour_155 : decode cX5_startRumour 155 = .ok (.ireturn, 1) := by decide +kernel
theorem dX5_startDenial_0 : decode cX5_startDenial 0 = .ok (.aload_n 0, 1) := by decide +kernel
theorem dX5_startDenial_1 : decode cX5_startDenial 1 = .ok (.iconst 0, 1) := by decide +kernel
theorem dX5_startDenial_2 : decode cX5_startDenial 2 = .ok (.putfield 63, 3) := by decide +kernel
theorem dX5_startDenial_5 : decode cX5_startDenial 5 = .ok (.aload_n 0, 1) := by decide +kernel
theorem dX5_startDenial_6 : decode cX5_startDenial 6 = .ok (.iload_n 1, 1) := by decide +kernel
theorem dX5_startDenial_7 : decode cX5_startDenial 7 = .ok (.invokevirtual 166, 3) := by decide +kernel
theorem dX5_startDenial_10 : decode cX5_startDenial 10 = .ok (.ifCond .eq 11, 3) := by decide +kernel
theorem dX5_startDenial_13 : decode cX5_startDenial 13 = .ok (.aload_n 0, 1) := by decide +kernel
theorem dX5_startDenial_14 : decode cX5_startDenial 14 = .ok (.iload_n 2, 1) := by decide +kernel
theorem dX5_startDenial_15 : decode cX5_startDenial 15 = .ok (.invokevirtual 146, 3) := by decide +kernel
theorem dX5_startDenial_18 : decode cX5_startDenial 18 = .ok (.ifCond .ne 9, 3) := by decide +kernel
theorem dX5_startDenial_21 : decode cX5_startDenial 21 = .ok (.aload_n 0, 1) := by decide +kernel
theorem dX5_startDenial_22 : decode cX5_startDenial 22 = .ok (.iconst 1, 1) := by decide +kernel
theorem dX5_startDenial_23 : decode cX5_startDenial 23 = .ok (.invokevirtual 143, 3) := by decide +kernel
theorem dX5_startDenial_26 : decode cX5_startDenial 26 = .ok (.ireturn, 1) := by decide +kernel
theorem dX5_startDenial_27 : decode cX5_startDenial 27 = .ok (.bipush 12, 2) := by decide +kernel
theorem dX5_startDenial_29 : decode cX5_startDenial 29 = .ok (.iload_n 1, 1) := by decide +kernel
theorem dX5_startDenial_30 : decode cX5_startDenial 30 = .ok (.imul, 1) := by decide +kernel
theorem dX5_startDenial_31 : decode cX5_startDenial 31 = .ok (.iload_n 2, 1) := by decide +kernel
theorem dX5_startDenial_32 : decode cX5_startDenial 32 = .ok (.iadd, 1) := by decide +kernel
theorem dX5_startDenial_33 : decode cX5_startDenial 33 = .ok (.istore_n 3, 1) := by decide +kernel
theorem dX5_startDenial_34 : decode cX5_startDenial 34 = .ok (.aload_n 0, 1) := by decide +kernel
theorem dX5_startDenial_35 : decode cX5_startDenial 35 = .ok (.getfield 44, 3) := by decide +kernel
theorem dX5_startDenial_38 : decode cX5_startDenial 38 = .ok (.iconst 0, 1) := by decide +kernel
theorem dX5_startDenial_39 : decode cX5_startDenial 39 = .ok (.iload_n 3, 1) := by decide +kernel
theorem dX5_startDenial_40 : decode cX5_startDenial 40 = .ok (.iadd, 1) := by decide +kernel
theorem dX5_startDenial_41 : decode cX5_startDenial 41 = .ok (.iaload, 1) := by decide +kernel
theorem dX5_startDenial_42 : decode cX5_startDenial 42 = .ok (.iconst 2, 1) := by decide +kernel
theorem dX5_startDenial_43 : decode cX5_startDenial 43 = .ok (.if_icmp .ne 9, 3) := by decide +kernel
theorem dX5_startDenial_46 : decode cX5_startDenial 46 = .ok (.aload_n 0, 1) := by decide +kernel
theorem dX5_startDenial_47 : decode cX5_startDenial 47 = .ok (.iconst 2, 1) := by decide +kernel
theorem dX5_startDenial_48 : decode cX5_startDenial 48 = .ok (.invokevirtual 143, 3) := by decide +kernel
theorem dX5_startDenial_51 : decode cX5_startDenial 51 = .ok (.ireturn, 1) := by decide +kernel
theorem dX5_startDenial_52 : decode cX5_startDenial 52 = .ok (.aload_n 0, 1) := by decide +kernel
theorem dX5_startDenial_53 : decode cX5_startDenial 53 = .ok (.getfield 44, 3) := by decide +kernel
theorem dX5_startDenial_56 : decode cX5_startDenial 56 = .ok (.iconst 0, 1) := by decide +kernel
theorem dX5_startDenial_57 : decode cX5_startDenial 57 = .ok (.iload_n 3, 1) := by decide +kernel
theorem dX5_startDenial_58 : decode cX5_startDenial 58 = .ok (.iadd, 1) := by decide +kernel
theorem dX5_startDenial_59 : decode cX5_startDenial 59 = .ok (.iaload, 1) := by decide +kernel
theorem dX5_startDenial_60 : decode cX5_startDenial 60 = .ok (.iconst 1, 1) := by decide +kernel
theorem dX5_startDenial_61 : decode cX5_startDenial 61 = .ok (.if_icmp .ne 12, 3) := by decide +kernel
theorem dX5_startDenial_64 : decode cX5_startDenial 64 = .ok (.aload_n 0, 1) := by decide +kernel
theorem dX5_startDenial_65 : decode cX5_startDenial 65 = .ok (.getfield 9, 3) := by decide +kernel
theorem dX5_startDenial_68 : decode cX5_startDenial 68 = .ok (.iload_n 2, 1) := by decide +kernel
theorem dX5_startDenial_69 : decode cX5_startDenial 69 = .ok (.iaload, 1) := by decide +kernel
theorem dX5_startDenial_70 : decode cX5_startDenial 70 = .ok (.goto 4, 3) := by decide +kernel
theorem dX5_startDenial_73 : decode cX5_startDenial 73 = .ok (.iconst 0, 1) := by decide +kernel
theorem dX5_startDenial_74 : decode cX5_startDenial 74 = .ok (.istore 4, 2) := by decide +kernel
theorem dX5_startDenial_76 : decode cX5_startDenial 76 = .ok (.aload_n 0, 1) := by decide +kernel
theorem dX5_startDenial_77 : decode cX5_startDenial 77 = .ok (.iload_n 3, 1) := by decide +kernel
theorem dX5_startDenial_78 : decode cX5_startDenial 78 = .ok (.invokevirtual 120, 3) := by decide +kernel
theorem dX5_startDenial_81 : decode cX5_startDenial 81 = .ok (.iload 4, 2) := by decide +kernel
theorem dX5_startDenial_83 : decode cX5_startDenial 83 = .ok (.ireturn, 1) := by decide +kernel
theorem dX5_passHours_0 : decode cX5_passHours 0 = .ok (.aload_n 0, 1) := by decide +kernel
theorem dX5_passHours_1 : decode cX5_passHours 1 = .ok (.iconst 0, 1) := by decide +kernel
theorem dX5_passHours_2 : decode cX5_passHours 2 = .ok (.putfield 63, 3) := by decide +kernel
theorem dX5_passHours_5 : decode cX5_passHours 5 = .ok (.iload_n 1, 1) := by decide +kernel
theorem dX5_passHours_6 : decode cX5_passHours 6 = .ok (.iconst 1, 1) := by decide +kernel
theorem dX5_passHours_7 : decode cX5_passHours 7 = .ok (.bipush 60, 2) := by decide +kernel
theorem dX5_passHours_9 : decode cX5_passHours 9 = .ok (.invokestatic 70, 3) := by decide +kernel
theorem dX5_passHours_12 : decode cX5_passHours 12 = .ok (.ifCond .ne 9, 3) := by decide +kernel
theorem dX5_passHours_15 : decode cX5_passHours 15 = .ok (.aload_n 0, 1) := by decide +kernel
theorem dX5_passHours_16 : decode cX5_passHours 16 = .ok (.iconst 1, 1) := by decide +kernel
theorem dX5_passHours_17 : decode cX5_passHours 17 = .ok (.invokevirtual 143, 3) := by decide +kernel
theorem dX5_passHours_20 : decode cX5_passHours 20 = .ok (.ireturn, 1) := by decide +kernel
theorem dX5_passHours_21 : decode cX5_passHours 21 = .ok (.aload_n 0, 1) := by decide +kernel
theorem dX5_passHours_22 : decode cX5_passHours 22 = .ok (.invokevirtual 169, 3) := by decide +kernel
theorem dX5_passHours_25 : decode cX5_passHours 25 = .ok (.istore_n 2, 1) := by decide +kernel
theorem dX5_passHours_26 : decode cX5_passHours 26 = .ok (.iconst 0, 1) := by decide +kernel
theorem dX5_passHours_27 : decode cX5_passHours 27 = .ok (.istore_n 3, 1) := by decide +kernel
theorem dX5_passHours_28 : decode cX5_passHours 28 = .ok (.iload_n 3, 1) := by decide +kernel
theorem dX5_passHours_29 : decode cX5_passHours 29 = .ok (.iload_n 1, 1) := by decide +kernel
theorem dX5_passHours_30 : decode cX5_passHours 30 = .ok (.if_icmp .ge 13, 3) := by decide +kernel
theorem dX5_passHours_33 : decode cX5_passHours 33 = .ok (.aload_n 0, 1) := by decide +kernel
theorem dX5_passHours_34 : decode cX5_passHours 34 = .ok (.invokevirtual 173, 3) := by decide +kernel
theorem dX5_passHours_37 : decode cX5_passHours 37 = .ok (.iinc 3 1, 3) := by decide +kernel
theorem dX5_passHours_40 : decode cX5_passHours 40 = .ok (.goto (-12), 3) := by decide +kernel
theorem dX5_passHours_43 : decode cX5_passHours 43 = .ok (.aload_n 0, 1) := by decide +kernel
theorem dX5_passHours_44 : decode cX5_passHours 44 = .ok (.invokevirtual 169, 3) := by decide +kernel
theorem dX5_passHours_47 : decode cX5_passHours 47 = .ok (.iload_n 2, 1) := by decide +kernel
theorem dX5_passHours_48 : decode cX5_passHours 48 = .ok (.isub, 1) := by decide +kernel
theorem dX5_passHours_49 : decode cX5_passHours 49 = .ok (.ireturn, 1) := by decide +kernel
theorem dX5_floors_0 : decode cX5_floors 0 = .ok (.aload_n 0, 1) := by decide +kernel
theorem dX5_floors_1 : decode cX5_floors 1 = .ok (.aload_n 0, 1) := by decide +kernel
theorem dX5_floors_2 : decode cX5_floors 2 = .ok (.getfield 67, 3) := by decide +kernel
theorem dX5_floors_5 : decode cX5_floors 5 = .ok (.invokevirtual 176, 3) := by decide +kernel
theorem dX5_floors_8 : decode cX5_floors 8 = .ok (.ireturn, 1) := by decide +kernel
theorem dX5_hours_0 : decode cX5_hours 0 = .ok (.aload_n 0, 1) := by decide +kernel
theorem dX5_hours_1 : decode cX5_hours 1 = .ok (.aload_n 0, 1) := by decide +kernel
theorem dX5_hours_2 : decode cX5_hours 2 = .ok (.getfield 44, 3) := by decide +kernel
theorem dX5_hours_5 : decode cX5_hours 5 = .ok (.sipush 864, 3) := by decide +kernel
theorem dX5_hours_8 : decode cX5_hours 8 = .ok (.iaload, 1) := by decide +kernel
theorem dX5_hours_9 : decode cX5_hours 9 = .ok (.invokevirtual 176, 3) := by decide +kernel
theorem dX5_hours_12 : decode cX5_hours 12 = .ok (.ireturn, 1) := by decide +kernel
theorem dX5_lifts_0 : decode cX5_lifts 0 = .ok (.aload_n 0, 1) := by decide +kernel
theorem dX5_lifts_1 : decode cX5_lifts 1 = .ok (.aload_n 0, 1) := by decide +kernel
theorem dX5_lifts_2 : decode cX5_lifts 2 = .ok (.getfield 74, 3) := by decide +kernel
theorem dX5_lifts_5 : decode cX5_lifts 5 = .ok (.invokevirtual 176, 3) := by decide +kernel
theorem dX5_lifts_8 : decode cX5_lifts 8 = .ok (.ireturn, 1) := by decide +kernel
theorem dX5_rumours_0 : decode cX5_rumours 0 = .ok (.aload_n 0, 1) := by decide +kernel
theorem dX5_rumours_1 : decode cX5_rumours 1 = .ok (.aload_n 0, 1) := by decide +kernel
theorem dX5_rumours_2 : decode cX5_rumours 2 = .ok (.getfield 77, 3) := by decide +kernel
theorem dX5_rumours_5 : decode cX5_rumours 5 = .ok (.invokevirtual 176, 3) := by decide +kernel
theorem dX5_rumours_8 : decode cX5_rumours 8 = .ok (.ireturn, 1) := by decide +kernel
theorem dX5_of_0 : decode cX5_of 0 = .ok (.aload_n 0, 1) := by decide +kernel
theorem dX5_of_1 : decode cX5_of 1 = .ok (.iload_n 3, 1) := by decide +kernel
theorem dX5_of_2 : decode cX5_of 2 = .ok (.ifCond .eq 7, 3) := by decide +kernel
theorem dX5_of_5 : decode cX5_of 5 = .ok (.iconst 0, 1) := by decide +kernel
theorem dX5_of_6 : decode cX5_of 6 = .ok (.goto 4, 3) := by decide +kernel
theorem dX5_of_9 : decode cX5_of 9 = .ok (.iconst 1, 1) := by decide +kernel
theorem dX5_of_10 : decode cX5_of 10 = .ok (.putfield 63, 3) := by decide +kernel
theorem dX5_of_13 : decode cX5_of 13 = .ok (.iload_n 3, 1) := by decide +kernel
theorem dX5_of_14 : decode cX5_of 14 = .ok (.ifCond .eq 9, 3) := by decide +kernel
theorem dX5_of_17 : decode cX5_of 17 = .ok (.aload_n 1, 1) := by decide +kernel
theorem dX5_of_18 : decode cX5_of 18 = .ok (.iload_n 2, 1) := by decide +kernel
theorem dX5_of_19 : decode cX5_of 19 = .ok (.iaload, 1) := by decide +kernel
theorem dX5_of_20 : decode cX5_of 20 = .ok (.goto 4, 3) := by decide +kernel
theorem dX5_of_23 : decode cX5_of 23 = .ok (.iconst 0, 1) := by decide +kernel
theorem dX5_of_24 : decode cX5_of 24 = .ok (.ireturn, 1) := by decide +kernel
theorem dX5_headsOf_0 : decode cX5_headsOf 0 = .ok (.aload_n 0, 1) := by decide +kernel
theorem dX5_headsOf_1 : decode cX5_headsOf 1 = .ok (.aload_n 0, 1) := by decide +kernel
theorem dX5_headsOf_2 : decode cX5_headsOf 2 = .ok (.getfield 9, 3) := by decide +kernel
theorem dX5_headsOf_5 : decode cX5_headsOf 5 = .ok (.iload_n 1, 1) := by decide +kernel
theorem dX5_headsOf_6 : decode cX5_headsOf 6 = .ok (.aload_n 0, 1) := by decide +kernel
theorem dX5_headsOf_7 : decode cX5_headsOf 7 = .ok (.iload_n 1, 1) := by decide +kernel
theorem dX5_headsOf_8 : decode cX5_headsOf 8 = .ok (.invokevirtual 146, 3) := by decide +kernel
theorem dX5_headsOf_11 : decode cX5_headsOf 11 = .ok (.invokevirtual 179, 3) := by decide +kernel
theorem dX5_headsOf_14 : decode cX5_headsOf 14 = .ok (.ireturn, 1) := by decide +kernel
theorem dX5_stayOf_0 : decode cX5_stayOf 0 = .ok (.aload_n 0, 1) := by decide +kernel
theorem dX5_stayOf_1 : decode cX5_stayOf 1 = .ok (.aload_n 0, 1) := by decide +kernel
theorem dX5_stayOf_2 : decode cX5_stayOf 2 = .ok (.getfield 13, 3) := by decide +kernel
theorem dX5_stayOf_5 : decode cX5_stayOf 5 = .ok (.iload_n 1, 1) := by decide +kernel
theorem dX5_stayOf_6 : decode cX5_stayOf 6 = .ok (.aload_n 0, 1) := by decide +kernel
theorem dX5_stayOf_7 : decode cX5_stayOf 7 = .ok (.iload_n 1, 1) := by decide +kernel
theorem dX5_stayOf_8 : decode cX5_stayOf 8 = .ok (.invokevirtual 146, 3) := by decide +kernel
theorem dX5_stayOf_11 : decode cX5_stayOf 11 = .ok (.invokevirtual 179, 3) := by decide +kernel
theorem dX5_stayOf_14 : decode cX5_stayOf 14 = .ok (.ireturn, 1) := by decide +kernel
theorem dX5_stairsOf_0 : decode cX5_stairsOf 0 = .ok (.aload_n 0, 1) := by decide +kernel
theorem dX5_stairsOf_1 : decode cX5_stairsOf 1 = .ok (.aload_n 0, 1) := by decide +kernel
theorem dX5_stairsOf_2 : decode cX5_stairsOf 2 = .ok (.getfield 16, 3) := by decide +kernel
theorem dX5_stairsOf_5 : decode cX5_stairsOf 5 = .ok (.iload_n 1, 1) := by decide +kernel
theorem dX5_stairsOf_6 : decode cX5_stairsOf 6 = .ok (.aload_n 0, 1) := by decide +kernel
theorem dX5_stairsOf_7 : decode cX5_stairsOf 7 = .ok (.iload_n 1, 1) := by decide +kernel
theorem dX5_stairsOf_8 : decode cX5_stairsOf 8 = .ok (.invokevirtual 153, 3) := by decide +kernel
theorem dX5_stairsOf_11 : decode cX5_stairsOf 11 = .ok (.invokevirtual 179, 3) := by decide +kernel
theorem dX5_stairsOf_14 : decode cX5_stairsOf 14 = .ok (.ireturn, 1) := by decide +kernel
theorem dX5_isOpen_0 : decode cX5_isOpen 0 = .ok (.aload_n 0, 1) := by decide +kernel
theorem dX5_isOpen_1 : decode cX5_isOpen 1 = .ok (.iconst 0, 1) := by decide +kernel
theorem dX5_isOpen_2 : decode cX5_isOpen 2 = .ok (.putfield 63, 3) := by decide +kernel
theorem dX5_isOpen_5 : decode cX5_isOpen 5 = .ok (.aload_n 0, 1) := by decide +kernel
theorem dX5_isOpen_6 : decode cX5_isOpen 6 = .ok (.iload_n 1, 1) := by decide +kernel
theorem dX5_isOpen_7 : decode cX5_isOpen 7 = .ok (.invokevirtual 153, 3) := by decide +kernel
theorem dX5_isOpen_10 : decode cX5_isOpen 10 = .ok (.ifCond .eq 12, 3) := by decide +kernel
theorem dX5_isOpen_13 : decode cX5_isOpen 13 = .ok (.aload_n 0, 1) := by decide +kernel
theorem dX5_isOpen_14 : decode cX5_isOpen 14 = .ok (.getfield 19, 3) := by decide +kernel
theorem dX5_isOpen_17 : decode cX5_isOpen 17 = .ok (.iload_n 1, 1) := by decide +kernel
theorem dX5_isOpen_18 : decode cX5_isOpen 18 = .ok (.baload, 1) := by decide +kernel
theorem dX5_isOpen_19 : decode cX5_isOpen 19 = .ok (.goto 8, 3) := by decide +kernel
theorem dX5_isOpen_22 : decode cX5_isOpen 22 = .ok (.aload_n 0, 1) := by decide +kernel
theorem dX5_isOpen_23 : decode cX5_isOpen 23 = .ok (.iconst 1, 1) := by decide +kernel
theorem dX5_isOpen_24 : decode cX5_isOpen 24 = .ok (.invokevirtual 160, 3) := by decide +kernel
theorem dX5_isOpen_27 : decode cX5_isOpen 27 = .ok (.ireturn, 1) := by decide +kernel
theorem dX5_runs_0 : decode cX5_runs 0 = .ok (.aload_n 0, 1) := by decide +kernel
theorem dX5_runs_1 : decode cX5_runs 1 = .ok (.iconst 0, 1) := by decide +kernel
theorem dX5_runs_2 : decode cX5_runs 2 = .ok (.putfield 63, 3) := by decide +kernel
theorem dX5_runs_5 : decode cX5_runs 5 = .ok (.aload_n 0, 1) := by decide +kernel
theorem dX5_runs_6 : decode cX5_runs 6 = .ok (.iload_n 1, 1) := by decide +kernel
theorem dX5_runs_7 : decode cX5_runs 7 = .ok (.invokevirtual 163, 3) := by decide +kernel
theorem dX5_runs_10 : decode cX5_runs 10 = .ok (.ifCond .eq 12, 3) := by decide +kernel
theorem dX5_runs_13 : decode cX5_runs 13 = .ok (.aload_n 0, 1) := by decide +kernel
theorem dX5_runs_14 : decode cX5_runs 14 = .ok (.getfield 35, 3) := by decide +kernel
theorem dX5_runs_17 : decode cX5_runs 17 = .ok (.iload_n 1, 1) := by decide +kernel
theorem dX5_runs_18 : decode cX5_runs 18 = .ok (.baload, 1) := by decide +kernel
theorem dX5_runs_19 : decode cX5_runs 19 = .ok (.goto 8, 3) := by decide +kernel
theorem dX5_runs_22 : decode cX5_runs 22 = .ok (.aload_n 0, 1) := by decide +kernel
theorem dX5_runs_23 : decode cX5_runs 23 = .ok (.iconst 1, 1) := by decide +kernel
theorem dX5_runs_24 : decode cX5_runs 24 = .ok (.invokevirtual 160, 3) := by decide +kernel
theorem dX5_runs_27 : decode cX5_runs 27 = .ok (.ireturn, 1) := by decide +kernel
theorem dX5_serves_0 : decode cX5_serves 0 = .ok (.aload_n 0, 1) := by decide +kernel
theorem dX5_serves_1 : decode cX5_serves 1 = .ok (.iconst 0, 1) := by decide +kernel
theorem dX5_serves_2 : decode cX5_serves 2 = .ok (.putfield 63, 3) := by decide +kernel
theorem dX5_serves_5 : decode cX5_serves 5 = .ok (.aload_n 0, 1) := by decide +kernel
theorem dX5_serves_6 : decode cX5_serves 6 = .ok (.iload_n 1, 1) := by decide +kernel
theorem dX5_serves_7 : decode cX5_serves 7 = .ok (.invokevirtual 163, 3) := by decide +kernel
theorem dX5_serves_10 : decode cX5_serves 10 = .ok (.ifCond .eq 20, 3) := by decide +kernel
theorem dX5_serves_13 : decode cX5_serves 13 = .ok (.aload_n 0, 1) := by decide +kernel
theorem dX5_serves_14 : decode cX5_serves 14 = .ok (.iload_n 2, 1) := by decide +kernel
theorem dX5_serves_15 : decode cX5_serves 15 = .ok (.invokevirtual 146, 3) := by decide +kernel
theorem dX5_serves_18 : decode cX5_serves 18 = .ok (.ifCond .eq 12, 3) := by decide +kernel
theorem dX5_serves_21 : decode cX5_serves 21 = .ok (.aload_n 0, 1) := by decide +kernel
theorem dX5_serves_22 : decode cX5_serves 22 = .ok (.iload_n 1, 1) := by decide +kernel
theorem dX5_serves_23 : decode cX5_serves 23 = .ok (.iload_n 2, 1) := by decide +kernel
theorem dX5_serves_24 : decode cX5_serves 24 = .ok (.invokevirtual 95, 3) := by decide +kernel
theorem dX5_serves_27 : decode cX5_serves 27 = .ok (.goto 8, 3) := by decide +kernel
theorem dX5_serves_30 : decode cX5_serves 30 = .ok (.aload_n 0, 1) := by decide +kernel
theorem dX5_serves_31 : decode cX5_serves 31 = .ok (.iconst 1, 1) := by decide +kernel
theorem dX5_serves_32 : decode cX5_serves 32 = .ok (.invokevirtual 160, 3) := by decide +kernel
theorem dX5_serves_35 : decode cX5_serves 35 = .ok (.ireturn, 1) := by decide +kernel
theorem dX5_pipe_0 : decode cX5_pipe 0 = .ok (.aload_n 0, 1) := by decide +kernel
theorem dX5_pipe_1 : decode cX5_pipe 1 = .ok (.iconst 0, 1) := by decide +kernel
theorem dX5_pipe_2 : decode cX5_pipe 2 = .ok (.putfield 63, 3) := by decide +kernel
theorem dX5_pipe_5 : decode cX5_pipe 5 = .ok (.aload_n 0, 1) := by decide +kernel
theorem dX5_pipe_6 : decode cX5_pipe 6 = .ok (.iload_n 1, 1) := by decide +kernel
theorem dX5_pipe_7 : decode cX5_pipe 7 = .ok (.invokevirtual 146, 3) := by decide +kernel
theorem dX5_pipe_10 : decode cX5_pipe 10 = .ok (.ifCond .eq 20, 3) := by decide +kernel
theorem dX5_pipe_13 : decode cX5_pipe 13 = .ok (.aload_n 0, 1) := by decide +kernel
theorem dX5_pipe_14 : decode cX5_pipe 14 = .ok (.iload_n 2, 1) := by decide +kernel
theorem dX5_pipe_15 : decode cX5_pipe 15 = .ok (.invokevirtual 146, 3) := by decide +kernel
theorem dX5_pipe_18 : decode cX5_pipe 18 = .ok (.ifCond .eq 12, 3) := by decide +kernel
theorem dX5_pipe_21 : decode cX5_pipe 21 = .ok (.aload_n 0, 1) := by decide +kernel
theorem dX5_pipe_22 : decode cX5_pipe 22 = .ok (.iload_n 1, 1) := by decide +kernel
theorem dX5_pipe_23 : decode cX5_pipe 23 = .ok (.iload_n 2, 1) := by decide +kernel
theorem dX5_pipe_24 : decode cX5_pipe 24 = .ok (.invokevirtual 99, 3) := by decide +kernel
theorem dX5_pipe_27 : decode cX5_pipe 27 = .ok (.goto 8, 3) := by decide +kernel
theorem dX5_pipe_30 : decode cX5_pipe 30 = .ok (.aload_n 0, 1) := by decide +kernel
theorem dX5_pipe_31 : decode cX5_pipe 31 = .ok (.iconst 1, 1) := by decide +kernel
theorem dX5_pipe_32 : decode cX5_pipe 32 = .ok (.invokevirtual 143, 3) := by decide +kernel
theorem dX5_pipe_35 : decode cX5_pipe 35 = .ok (.ireturn, 1) := by decide +kernel
theorem dX5_neighbours_0 : decode cX5_neighbours 0 = .ok (.aload_n 0, 1) := by decide +kernel
theorem dX5_neighbours_1 : decode cX5_neighbours 1 = .ok (.iconst 0, 1) := by decide +kernel
theorem dX5_neighbours_2 : decode cX5_neighbours 2 = .ok (.putfield 63, 3) := by decide +kernel
theorem dX5_neighbours_5 : decode cX5_neighbours 5 = .ok (.aload_n 0, 1) := by decide +kernel
theorem dX5_neighbours_6 : decode cX5_neighbours 6 = .ok (.iload_n 1, 1) := by decide +kernel
theorem dX5_neighbours_7 : decode cX5_neighbours 7 = .ok (.invokevirtual 146, 3) := by decide +kernel
theorem dX5_neighbours_10 : decode cX5_neighbours 10 = .ok (.ifCond .eq 11, 3) := by decide +kernel
theorem dX5_neighbours_13 : decode cX5_neighbours 13 = .ok (.aload_n 0, 1) := by decide +kernel
theorem dX5_neighbours_14 : decode cX5_neighbours 14 = .ok (.iload_n 1, 1) := by decide +kernel
theorem dX5_neighbours_15 : decode cX5_neighbours 15 = .ok (.invokevirtual 183, 3) := by decide +kernel
theorem dX5_neighbours_18 : decode cX5_neighbours 18 = .ok (.goto 8, 3) := by decide +kernel
theorem dX5_neighbours_21 : decode cX5_neighbours 21 = .ok (.aload_n 0, 1) := by decide +kernel
theorem dX5_neighbours_22 : decode cX5_neighbours 22 = .ok (.iconst 1, 1) := by decide +kernel
theorem dX5_neighbours_23 : decode cX5_neighbours 23 = .ok (.invokevirtual 143, 3) := by decide +kernel
theorem dX5_neighbours_26 : decode cX5_neighbours 26 = .ok (.ireturn, 1) := by decide +kernel
theorem dX5_originOf_0 : decode cX5_originOf 0 = .ok (.aload_n 0, 1) := by decide +kernel
theorem dX5_originOf_1 : decode cX5_originOf 1 = .ok (.aload_n 0, 1) := by decide +kernel
theorem dX5_originOf_2 : decode cX5_originOf 2 = .ok (.getfield 38, 3) := by decide +kernel
theorem dX5_originOf_5 : decode cX5_originOf 5 = .ok (.iload_n 1, 1) := by decide +kernel
theorem dX5_originOf_6 : decode cX5_originOf 6 = .ok (.aload_n 0, 1) := by decide +kernel
theorem dX5_originOf_7 : decode cX5_originOf 7 = .ok (.iload_n 1, 1) := by decide +kernel
theorem dX5_originOf_8 : decode cX5_originOf 8 = .ok (.invokevirtual 166, 3) := by decide +kernel
theorem dX5_originOf_11 : decode cX5_originOf 11 = .ok (.invokevirtual 179, 3) := by decide +kernel
theorem dX5_originOf_14 : decode cX5_originOf 14 = .ok (.ireturn, 1) := by decide +kernel
theorem dX5_reachOf_0 : decode cX5_reachOf 0 = .ok (.aload_n 0, 1) := by decide +kernel
theorem dX5_reachOf_1 : decode cX5_reachOf 1 = .ok (.aload_n 0, 1) := by decide +kernel
theorem dX5_reachOf_2 : decode cX5_reachOf 2 = .ok (.getfield 41, 3) := by decide +kernel
theorem dX5_reachOf_5 : decode cX5_reachOf 5 = .ok (.iload_n 1, 1) := by decide +kernel
theorem dX5_reachOf_6 : decode cX5_reachOf 6 = .ok (.aload_n 0, 1) := by decide +kernel
theorem dX5_reachOf_7 : decode cX5_reachOf 7 = .ok (.iload_n 1, 1) := by decide +kernel
theorem dX5_reachOf_8 : decode cX5_reachOf 8 = .ok (.invokevirtual 166, 3) := by decide +kernel
theorem dX5_reachOf_11 : decode cX5_reachOf 11 = .ok (.invokevirtual 179, 3) := by decide +kernel
theorem dX5_reachOf_14 : decode cX5_reachOf 14 = .ok (.ireturn, 1) := by decide +kernel
theorem dX5_told_0 : decode cX5_told 0 = .ok (.aload_n 0, 1) := by decide +kernel
theorem dX5_told_1 : decode cX5_told 1 = .ok (.iconst 0, 1) := by decide +kernel
theorem dX5_told_2 : decode cX5_told 2 = .ok (.putfield 63, 3) := by decide +kernel
theorem dX5_told_5 : decode cX5_told 5 = .ok (.aload_n 0, 1) := by decide +kernel
theorem dX5_told_6 : decode cX5_told 6 = .ok (.iload_n 1, 1) := by decide +kernel
theorem dX5_told_7 : decode cX5_told 7 = .ok (.invokevirtual 166, 3) := by decide +kernel
theorem dX5_told_10 : decode cX5_told 10 = .ok (.ifCond .eq 27, 3) := by decide +kernel
theorem dX5_told_13 : decode cX5_told 13 = .ok (.aload_n 0, 1) := by decide +kernel
theorem dX5_told_14 : decode cX5_told 14 = .ok (.iload_n 2, 1) := by decide +kernel
theorem dX5_told_15 : decode cX5_told 15 = .ok (.invokevirtual 146, 3) := by decide +kernel
theorem dX5_told_18 : decode cX5_told 18 = .ok (.ifCond .eq 19, 3) := by decide +kernel
theorem dX5_told_21 : decode cX5_told 21 = .ok (.aload_n 0, 1) := by decide +kernel
theorem dX5_told_22 : decode cX5_told 22 = .ok (.getfield 44, 3) := by decide +kernel
theorem dX5_told_25 : decode cX5_told 25 = .ok (.iload_n 3, 1) := by decide +kernel
theorem dX5_told_26 : decode cX5_told 26 = .ok (.bipush 12, 2) := by decide +kernel
theorem dX5_told_28 : decode cX5_told 28 = .ok (.iload_n 1, 1) := by decide +kernel
theorem dX5_told_29 : decode cX5_told 29 = .ok (.imul, 1) := by decide +kernel
theorem dX5_told_30 : decode cX5_told 30 = .ok (.iadd, 1) := by decide +kernel
theorem dX5_told_31 : decode cX5_told 31 = .ok (.iload_n 2, 1) := by decide +kernel
theorem dX5_told_32 : decode cX5_told 32 = .ok (.iadd, 1) := by decide +kernel
theorem dX5_told_33 : decode cX5_told 33 = .ok (.iaload, 1) := by decide +kernel
theorem dX5_told_34 : decode cX5_told 34 = .ok (.goto 8, 3) := by decide +kernel
theorem dX5_told_37 : decode cX5_told 37 = .ok (.aload_n 0, 1) := by decide +kernel
theorem dX5_told_38 : decode cX5_told 38 = .ok (.iconst 1, 1) := by decide +kernel
theorem dX5_told_39 : decode cX5_told 39 = .ok (.invokevirtual 143, 3) := by decide +kernel
theorem dX5_told_42 : decode cX5_told 42 = .ok (.ireturn, 1) := by decide +kernel
theorem dX5_stateOf_0 : decode cX5_stateOf 0 = .ok (.aload_n 0, 1) := by decide +kernel
theorem dX5_stateOf_1 : decode cX5_stateOf 1 = .ok (.iload_n 1, 1) := by decide +kernel
theorem dX5_stateOf_2 : decode cX5_stateOf 2 = .ok (.iload_n 2, 1) := by decide +kernel
theorem dX5_stateOf_3 : decode cX5_stateOf 3 = .ok (.iconst 0, 1) := by decide +kernel
theorem dX5_stateOf_4 : decode cX5_stateOf 4 = .ok (.invokevirtual 186, 3) := by decide +kernel
theorem dX5_stateOf_7 : decode cX5_stateOf 7 = .ok (.ireturn, 1) := by decide +kernel
theorem dX5_heardAt_0 : decode cX5_heardAt 0 = .ok (.aload_n 0, 1) := by decide +kernel
theorem dX5_heardAt_1 : decode cX5_heardAt 1 = .ok (.iload_n 1, 1) := by decide +kernel
theorem dX5_heardAt_2 : decode cX5_heardAt 2 = .ok (.iload_n 2, 1) := by decide +kernel
theorem dX5_heardAt_3 : decode cX5_heardAt 3 = .ok (.bipush 96, 2) := by decide +kernel
theorem dX5_heardAt_5 : decode cX5_heardAt 5 = .ok (.invokevirtual 186, 3) := by decide +kernel
theorem dX5_heardAt_8 : decode cX5_heardAt 8 = .ok (.ireturn, 1) := by decide +kernel
theorem dX5_deniedAt_0 : decode cX5_deniedAt 0 = .ok (.aload_n 0, 1) := by decide +kernel
theorem dX5_deniedAt_1 : decode cX5_deniedAt 1 = .ok (.iload_n 1, 1) := by decide +kernel
theorem dX5_deniedAt_2 : decode cX5_deniedAt 2 = .ok (.iload_n 2, 1) := by decide +kernel
theorem dX5_deniedAt_3 : decode cX5_deniedAt 3 = .ok (.sipush 288, 3) := by decide +kernel
theorem dX5_deniedAt_6 : decode cX5_deniedAt 6 = .ok (.invokevirtual 186, 3) := by decide +kernel
theorem dX5_deniedAt_9 : decode cX5_deniedAt 9 = .ok (.ireturn, 1) := by decide +kernel
theorem dX5_pipesTo_0 : decode cX5_pipesTo 0 = .ok (.aload_n 0, 1) := by decide +kernel
theorem dX5_pipesTo_1 : decode cX5_pipesTo 1 = .ok (.iload_n 1, 1) := by decide +kernel
theorem dX5_pipesTo_2 : decode cX5_pipesTo 2 = .ok (.iload_n 2, 1) := by decide +kernel
theorem dX5_pipesTo_3 : decode cX5_pipesTo 3 = .ok (.sipush 192, 3) := by decide +kernel
theorem dX5_pipesTo_6 : decode cX5_pipesTo 6 = .ok (.invokevirtual 186, 3) := by decide +kernel
theorem dX5_pipesTo_9 : decode cX5_pipesTo 9 = .ok (.ireturn, 1) := by decide +kernel
theorem dX5_believers_0 : decode cX5_believers 0 = .ok (.aload_n 0, 1) := by decide +kernel
theorem dX5_believers_1 : decode cX5_believers 1 = .ok (.iconst 0, 1) := by decide +kernel
theorem dX5_believers_2 : decode cX5_believers 2 = .ok (.putfield 63, 3) := by decide +kernel
theorem dX5_believers_5 : decode cX5_believers 5 = .ok (.aload_n 0, 1) := by decide +kernel
theorem dX5_believers_6 : decode cX5_believers 6 = .ok (.iload_n 1, 1) := by decide +kernel
theorem dX5_believers_7 : decode cX5_believers 7 = .ok (.invokevirtual 166, 3) := by decide +kernel
theorem dX5_believers_10 : decode cX5_believers 10 = .ok (.ifCond .eq 11, 3) := by decide +kernel
theorem dX5_believers_13 : decode cX5_believers 13 = .ok (.aload_n 0, 1) := by decide +kernel
theorem dX5_believers_14 : decode cX5_believers 14 = .ok (.iload_n 1, 1) := by decide +kernel
theorem dX5_believers_15 : decode cX5_believers 15 = .ok (.invokevirtual 190, 3) := by decide +kernel
theorem dX5_believers_18 : decode cX5_believers 18 = .ok (.goto 8, 3) := by decide +kernel
theorem dX5_believers_21 : decode cX5_believers 21 = .ok (.aload_n 0, 1) := by decide +kernel
theorem dX5_believers_22 : decode cX5_believers 22 = .ok (.iconst 1, 1) := by decide +kernel
theorem dX5_believers_23 : decode cX5_believers 23 = .ok (.invokevirtual 143, 3) := by decide +kernel
theorem dX5_believers_26 : decode cX5_believers 26 = .ok (.ireturn, 1) := by decide +kernel
theorem dX5_reached_0 : decode cX5_reached 0 = .ok (.aload_n 0, 1) := by decide +kernel
theorem dX5_reached_1 : decode cX5_reached 1 = .ok (.iconst 0, 1) := by decide +kernel
theorem dX5_reached_2 : decode cX5_reached 2 = .ok (.putfield 63, 3) := by decide +kernel
theorem dX5_reached_5 : decode cX5_reached 5 = .ok (.aload_n 0, 1) := by decide +kernel
theorem dX5_reached_6 : decode cX5_reached 6 = .ok (.iload_n 1, 1) := by decide +kernel
theorem dX5_reached_7 : decode cX5_reached 7 = .ok (.invokevirtual 166, 3) := by decide +kernel
theorem dX5_reached_10 : decode cX5_reached 10 = .ok (.ifCond .eq 11, 3) := by decide +kernel
theorem dX5_reached_13 : decode cX5_reached 13 = .ok (.aload_n 0, 1) := by decide +kernel
theorem dX5_reached_14 : decode cX5_reached 14 = .ok (.iload_n 1, 1) := by decide +kernel
theorem dX5_reached_15 : decode cX5_reached 15 = .ok (.invokevirtual 136, 3) := by decide +kernel
theorem dX5_reached_18 : decode cX5_reached 18 = .ok (.goto 8, 3) := by decide +kernel
theorem dX5_reached_21 : decode cX5_reached 21 = .ok (.aload_n 0, 1) := by decide +kernel
theorem dX5_reached_22 : decode cX5_reached 22 = .ok (.iconst 1, 1) := by decide +kernel
theorem dX5_reached_23 : decode cX5_reached 23 = .ok (.invokevirtual 143, 3) := by decide +kernel
theorem dX5_reached_26 : decode cX5_reached 26 = .ok (.ireturn, 1) := by decide +kernel
theorem dX5_onWay_0 : decode cX5_onWay 0 = .ok (.iconst 0, 1) := by decide +kernel
theorem dX5_onWay_1 : decode cX5_onWay 1 = .ok (.istore_n 2, 1) := by decide +kernel
theorem dX5_onWay_2 : decode cX5_onWay 2 = .ok (.iconst 0, 1) := by decide +kernel
theorem dX5_onWay_3 : decode cX5_onWay 3 = .ok (.istore_n 3, 1) := by decide +kernel
theorem dX5_onWay_4 : decode cX5_onWay 4 = .ok (.iload_n 3, 1) := by decide +kernel
theorem dX5_onWay_5 : decode cX5_onWay 5 = .ok (.aload_n 0, 1) := by decide +kernel
theorem dX5_onWay_6 : decode cX5_onWay 6 = .ok (.getfield 67, 3) := by decide +kernel
theorem dX5_onWay_9 : decode cX5_onWay 9 = .ok (.if_icmp .ge 30, 3) := by decide +kernel
theorem dX5_onWay_12 : decode cX5_onWay 12 = .ok (.iload_n 2, 1) := by decide +kernel
theorem dX5_onWay_13 : decode cX5_onWay 13 = .ok (.aload_n 0, 1) := by decide +kernel
theorem dX5_onWay_14 : decode cX5_onWay 14 = .ok (.bipush 12, 2) := by decide +kernel
theorem dX5_onWay_16 : decode cX5_onWay 16 = .ok (.iload_n 1, 1) := by decide +kernel
theorem dX5_onWay_17 : decode cX5_onWay 17 = .ok (.imul, 1) := by decide +kernel
theorem dX5_onWay_18 : decode cX5_onWay 18 = .ok (.iload_n 3, 1) := by decide +kernel
theorem dX5_onWay_19 : decode cX5_onWay 19 = .ok (.iadd, 1) := by decide +kernel
theorem dX5_onWay_20 : decode cX5_onWay 20 = .ok (.invokevirtual 139, 3) := by decide +kernel
theorem dX5_onWay_23 : decode cX5_onWay 23 = .ok (.ifCond .eq 7, 3) := by decide +kernel
theorem dX5_onWay_26 : decode cX5_onWay 26 = .ok (.iconst 1, 1) := by decide +kernel
theorem dX5_onWay_27 : decode cX5_onWay 27 = .ok (.goto 4, 3) := by decide +kernel
theorem dX5_onWay_30 : decode cX5_onWay 30 = .ok (.iconst 0, 1) := by decide +kernel
theorem dX5_onWay_31 : decode cX5_onWay 31 = .ok (.iadd, 1) := by decide +kernel
theorem dX5_onWay_32 : decode cX5_onWay 32 = .ok (.istore_n 2, 1) := by decide +kernel
theorem dX5_onWay_33 : decode cX5_onWay 33 = .ok (.iinc 3 1, 3) := by decide +kernel
theorem dX5_onWay_36 : decode cX5_onWay 36 = .ok (.goto (-32), 3) := by decide +kernel
theorem dX5_onWay_39 : decode cX5_onWay 39 = .ok (.iload_n 2, 1) := by decide +kernel
theorem dX5_onWay_40 : decode cX5_onWay 40 = .ok (.ireturn, 1) := by decide +kernel
theorem dX5_underWay_0 : decode cX5_underWay 0 = .ok (.aload_n 0, 1) := by decide +kernel
theorem dX5_underWay_1 : decode cX5_underWay 1 = .ok (.iconst 0, 1) := by decide +kernel
theorem dX5_underWay_2 : decode cX5_underWay 2 = .ok (.putfield 63, 3) := by decide +kernel
theorem dX5_underWay_5 : decode cX5_underWay 5 = .ok (.aload_n 0, 1) := by decide +kernel
theorem dX5_underWay_6 : decode cX5_underWay 6 = .ok (.iload_n 1, 1) := by decide +kernel
theorem dX5_underWay_7 : decode cX5_underWay 7 = .ok (.invokevirtual 166, 3) := by decide +kernel
theorem dX5_underWay_10 : decode cX5_underWay 10 = .ok (.ifCond .eq 11, 3) := by decide +kernel
theorem dX5_underWay_13 : decode cX5_underWay 13 = .ok (.aload_n 0, 1) := by decide +kernel
theorem dX5_underWay_14 : decode cX5_underWay 14 = .ok (.iload_n 1, 1) := by decide +kernel
theorem dX5_underWay_15 : decode cX5_underWay 15 = .ok (.invokevirtual 193, 3) := by decide +kernel
theorem dX5_underWay_18 : decode cX5_underWay 18 = .ok (.goto 8, 3) := by decide +kernel
theorem dX5_underWay_21 : decode cX5_underWay 21 = .ok (.aload_n 0, 1) := by decide +kernel
theorem dX5_underWay_22 : decode cX5_underWay 22 = .ok (.iconst 1, 1) := by decide +kernel
theorem dX5_underWay_23 : decode cX5_underWay 23 = .ok (.invokevirtual 143, 3) := by decide +kernel
theorem dX5_underWay_26 : decode cX5_underWay 26 = .ok (.ireturn, 1) := by decide +kernel
theorem dX5_quickest_0 : decode cX5_quickest 0 = .ok (.aload_n 0, 1) := by decide +kernel
theorem dX5_quickest_1 : decode cX5_quickest 1 = .ok (.iconst 0, 1) := by decide +kernel
theorem dX5_quickest_2 : decode cX5_quickest 2 = .ok (.putfield 63, 3) := by decide +kernel
theorem dX5_quickest_5 : decode cX5_quickest 5 = .ok (.aload_n 0, 1) := by decide +kernel
theorem dX5_quickest_6 : decode cX5_quickest 6 = .ok (.iload_n 1, 1) := by decide +kernel
theorem dX5_quickest_7 : decode cX5_quickest 7 = .ok (.invokevirtual 146, 3) := by decide +kernel
theorem dX5_quickest_10 : decode cX5_quickest 10 = .ok (.ifCond .eq 20, 3) := by decide +kernel
theorem dX5_quickest_13 : decode cX5_quickest 13 = .ok (.aload_n 0, 1) := by decide +kernel
theorem dX5_quickest_14 : decode cX5_quickest 14 = .ok (.iload_n 2, 1) := by decide +kernel
theorem dX5_quickest_15 : decode cX5_quickest 15 = .ok (.invokevirtual 146, 3) := by decide +kernel
theorem dX5_quickest_18 : decode cX5_quickest 18 = .ok (.ifCond .eq 12, 3) := by decide +kernel
theorem dX5_quickest_21 : decode cX5_quickest 21 = .ok (.aload_n 0, 1) := by decide +kernel
theorem dX5_quickest_22 : decode cX5_quickest 22 = .ok (.iload_n 1, 1) := by decide +kernel
theorem dX5_quickest_23 : decode cX5_quickest 23 = .ok (.iload_n 2, 1) := by decide +kernel
theorem dX5_quickest_24 : decode cX5_quickest 24 = .ok (.invokevirtual 196, 3) := by decide +kernel
theorem dX5_quickest_27 : decode cX5_quickest 27 = .ok (.goto 8, 3) := by decide +kernel
theorem dX5_quickest_30 : decode cX5_quickest 30 = .ok (.aload_n 0, 1) := by decide +kernel
theorem dX5_quickest_31 : decode cX5_quickest 31 = .ok (.iconst 1, 1) := by decide +kernel
theorem dX5_quickest_32 : decode cX5_quickest 32 = .ok (.invokevirtual 143, 3) := by decide +kernel
theorem dX5_quickest_35 : decode cX5_quickest 35 = .ok (.ireturn, 1) := by decide +kernel
theorem dX5_pipesBetween_0 : decode cX5_pipesBetween 0 = .ok (.aload_n 0, 1) := by decide +kernel
theorem dX5_pipesBetween_1 : decode cX5_pipesBetween 1 = .ok (.iconst 0, 1) := by decide +kernel
theorem dX5_pipesBetween_2 : decode cX5_pipesBetween 2 = .ok (.putfield 63, 3) := by decide +kernel
theorem dX5_pipesBetween_5 : decode cX5_pipesBetween 5 = .ok (.aload_n 0, 1) := by decide +kernel
theorem dX5_pipesBetween_6 : decode cX5_pipesBetween 6 = .ok (.iload_n 1, 1) := by decide +kernel
theorem dX5_pipesBetween_7 : decode cX5_pipesBetween 7 = .ok (.invokevirtual 146, 3) := by decide +kernel
theorem dX5_pipesBetween_10 : decode cX5_pipesBetween 10 = .ok (.ifCond .eq 11, 3) := by decide +kernel
theorem dX5_pipesBetween_13 : decode cX5_pipesBetween 13 = .ok (.aload_n 0, 1) := by decide +kernel
theorem dX5_pipesBetween_14 : decode cX5_pipesBetween 14 = .ok (.iload_n 2, 1) := by decide +kernel
theorem dX5_pipesBetween_15 : decode cX5_pipesBetween 15 = .ok (.invokevirtual 146, 3) := by decide +kernel
theorem dX5_pipesBetween_18 : decode cX5_pipesBetween 18 = .ok (.ifCond .ne 9, 3) := by decide +kernel
theorem dX5_pipesBetween_21 : decode cX5_pipesBetween 21 = .ok (.aload_n 0, 1) := by decide +kernel
theorem dX5_pipesBetween_22 : decode cX5_pipesBetween 22 = .ok (.iconst 1, 1) := by decide +kernel
theorem dX5_pipesBetween_23 : decode cX5_pipesBetween 23 = .ok (.invokevirtual 143, 3) := by decide +kernel
theorem dX5_pipesBetween_26 : decode cX5_pipesBetween 26 = .ok (.ireturn, 1) := by decide +kernel
theorem dX5_pipesBetween_27 : decode cX5_pipesBetween 27 = .ok (.aload_n 0, 1) := by decide +kernel
theorem dX5_pipesBetween_28 : decode cX5_pipesBetween 28 = .ok (.iload_n 1, 1) := by decide +kernel
theorem dX5_pipesBetween_29 : decode cX5_pipesBetween 29 = .ok (.iload_n 2, 1) := by decide +kernel
theorem dX5_pipesBetween_30 : decode cX5_pipesBetween 30 = .ok (.invokevirtual 196, 3) := by decide +kernel
theorem dX5_pipesBetween_33 : decode cX5_pipesBetween 33 = .ok (.iconst (-1), 1) := by decide +kernel
theorem dX5_pipesBetween_34 : decode cX5_pipesBetween 34 = .ok (.if_icmp .ne 7, 3) := by decide +kernel
theorem dX5_pipesBetween_37 : decode cX5_pipesBetween 37 = .ok (.iconst (-1), 1) := by decide +kernel
theorem dX5_pipesBetween_38 : decode cX5_pipesBetween 38 = .ok (.goto 9, 3) := by decide +kernel
theorem dX5_pipesBetween_41 : decode cX5_pipesBetween 41 = .ok (.aload_n 0, 1) := by decide +kernel
theorem dX5_pipesBetween_42 : decode cX5_pipesBetween 42 = .ok (.getfield 53, 3) := by decide +kernel
theorem dX5_pipesBetween_45 : decode cX5_pipesBetween 45 = .ok (.iload_n 2, 1) := by decide +kernel
theorem dX5_pipesBetween_46 : decode cX5_pipesBetween 46 = .ok (.iaload, 1) := by decide +kernel
theorem dX5_pipesBetween_47 : decode cX5_pipesBetween 47 = .ok (.ireturn, 1) := by decide +kernel
theorem dX5_farthestFrom_0 : decode cX5_farthestFrom 0 = .ok (.aload_n 0, 1) := by decide +kernel
theorem dX5_farthestFrom_1 : decode cX5_farthestFrom 1 = .ok (.iconst 0, 1) := by decide +kernel
theorem dX5_farthestFrom_2 : decode cX5_farthestFrom 2 = .ok (.putfield 63, 3) := by decide +kernel
theorem dX5_farthestFrom_5 : decode cX5_farthestFrom 5 = .ok (.aload_n 0, 1) := by decide +kernel
theorem dX5_farthestFrom_6 : decode cX5_farthestFrom 6 = .ok (.iload_n 1, 1) := by decide +kernel
theorem dX5_farthestFrom_7 : decode cX5_farthestFrom 7 = .ok (.invokevirtual 146, 3) := by decide +kernel
theorem dX5_farthestFrom_10 : decode cX5_farthestFrom 10 = .ok (.ifCond .eq 11, 3) := by decide +kernel
theorem dX5_farthestFrom_13 : decode cX5_farthestFrom 13 = .ok (.aload_n 0, 1) := by decide +kernel
theorem dX5_farthestFrom_14 : decode cX5_farthestFrom 14 = .ok (.iload_n 1, 1) := by decide +kernel
theorem dX5_farthestFrom_15 : decode cX5_farthestFrom 15 = .ok (.invokevirtual 108, 3) := by decide +kernel
theorem dX5_farthestFrom_18 : decode cX5_farthestFrom 18 = .ok (.goto 8, 3) := by decide +kernel
theorem dX5_farthestFrom_21 : decode cX5_farthestFrom 21 = .ok (.aload_n 0, 1) := by decide +kernel
theorem dX5_farthestFrom_22 : decode cX5_farthestFrom 22 = .ok (.iconst 1, 1) := by decide +kernel
theorem dX5_farthestFrom_23 : decode cX5_farthestFrom 23 = .ok (.invokevirtual 143, 3) := by decide +kernel
theorem dX5_farthestFrom_26 : decode cX5_farthestFrom 26 = .ok (.ireturn, 1) := by decide +kernel
theorem dX5_centre_0 : decode cX5_centre 0 = .ok (.aload_n 0, 1) := by decide +kernel
theorem dX5_centre_1 : decode cX5_centre 1 = .ok (.aload_n 0, 1) := by decide +kernel
theorem dX5_centre_2 : decode cX5_centre 2 = .ok (.invokevirtual 199, 3) := by decide +kernel
theorem dX5_centre_5 : decode cX5_centre 5 = .ok (.invokevirtual 176, 3) := by decide +kernel
theorem dX5_centre_8 : decode cX5_centre 8 = .ok (.ireturn, 1) := by decide +kernel
theorem dX5_parts_0 : decode cX5_parts 0 = .ok (.aload_n 0, 1) := by decide +kernel
theorem dX5_parts_1 : decode cX5_parts 1 = .ok (.aload_n 0, 1) := by decide +kernel
theorem dX5_parts_2 : decode cX5_parts 2 = .ok (.invokevirtual 202, 3) := by decide +kernel
theorem dX5_parts_5 : decode cX5_parts 5 = .ok (.invokevirtual 176, 3) := by decide +kernel
theorem dX5_parts_8 : decode cX5_parts 8 = .ok (.ireturn, 1) := by decide +kernel
theorem dX5_wayWith_0 : decode cX5_wayWith 0 = .ok (.aload_n 0, 1) := by decide +kernel
theorem dX5_wayWith_1 : decode cX5_wayWith 1 = .ok (.getfield 35, 3) := by decide +kernel
theorem dX5_wayWith_4 : decode cX5_wayWith 4 = .ok (.iload_n 1, 1) := by decide +kernel
theorem dX5_wayWith_5 : decode cX5_wayWith 5 = .ok (.baload, 1) := by decide +kernel
theorem dX5_wayWith_6 : decode cX5_wayWith 6 = .ok (.istore 5, 2) := by decide +kernel
theorem dX5_wayWith_8 : decode cX5_wayWith 8 = .ok (.aload_n 0, 1) := by decide +kernel
theorem dX5_wayWith_9 : decode cX5_wayWith 9 = .ok (.getfield 35, 3) := by decide +kernel
theorem dX5_wayWith_12 : decode cX5_wayWith 12 = .ok (.iload_n 1, 1) := by decide +kernel
theorem dX5_wayWith_13 : decode cX5_wayWith 13 = .ok (.iload_n 2, 1) := by decide +kernel
theorem dX5_wayWith_14 : decode cX5_wayWith 14 = .ok (.bastore, 1) := by decide +kernel
theorem dX5_wayWith_15 : decode cX5_wayWith 15 = .ok (.aload_n 0, 1) := by decide +kernel
theorem dX5_wayWith_16 : decode cX5_wayWith 16 = .ok (.iload_n 3, 1) := by decide +kernel
theorem dX5_wayWith_17 : decode cX5_wayWith 17 = .ok (.iload 4, 2) := by decide +kernel
theorem dX5_wayWith_19 : decode cX5_wayWith 19 = .ok (.invokevirtual 196, 3) := by decide +kernel
theorem dX5_wayWith_22 : decode cX5_wayWith 22 = .ok (.istore 6, 2) := by decide +kernel
theorem dX5_wayWith_24 : decode cX5_wayWith 24 = .ok (.aload_n 0, 1) := by decide +kernel
theorem dX5_wayWith_25 : decode cX5_wayWith 25 = .ok (.getfield 35, 3) := by decide +kernel
theorem dX5_wayWith_28 : decode cX5_wayWith 28 = .ok (.iload_n 1, 1) := by decide +kernel
theorem dX5_wayWith_29 : decode cX5_wayWith 29 = .ok (.iload 5, 2) := by decide +kernel
theorem dX5_wayWith_31 : decode cX5_wayWith 31 = .ok (.bastore, 1) := by decide +kernel
theorem dX5_wayWith_32 : decode cX5_wayWith 32 = .ok (.iload 6, 2) := by decide +kernel
theorem dX5_wayWith_34 : decode cX5_wayWith 34 = .ok (.ireturn, 1) := by decide +kernel
theorem dX5_gainBy_0 : decode cX5_gainBy 0 = .ok (.aload_n 0, 1) := by decide +kernel
theorem dX5_gainBy_1 : decode cX5_gainBy 1 = .ok (.iconst 0, 1) := by decide +kernel
theorem dX5_gainBy_2 : decode cX5_gainBy 2 = .ok (.putfield 63, 3) := by decide +kernel
theorem dX5_gainBy_5 : decode cX5_gainBy 5 = .ok (.aload_n 0, 1) := by decide +kernel
theorem dX5_gainBy_6 : decode cX5_gainBy 6 = .ok (.iload_n 1, 1) := by decide +kernel
theorem dX5_gainBy_7 : decode cX5_gainBy 7 = .ok (.invokevirtual 163, 3) := by decide +kernel
theorem dX5_gainBy_10 : decode cX5_gainBy 10 = .ok (.ifCond .eq 19, 3) := by decide +kernel
theorem dX5_gainBy_13 : decode cX5_gainBy 13 = .ok (.aload_n 0, 1) := by decide +kernel
theorem dX5_gainBy_14 : decode cX5_gainBy 14 = .ok (.iload_n 2, 1) := by decide +kernel
theorem dX5_gainBy_15 : decode cX5_gainBy 15 = .ok (.invokevirtual 146, 3) := by decide +kernel
theorem dX5_gainBy_18 : decode cX5_gainBy 18 = .ok (.ifCond .eq 11, 3) := by decide +kernel
theorem dX5_gainBy_21 : decode cX5_gainBy 21 = .ok (.aload_n 0, 1) := by decide +kernel
theorem dX5_gainBy_22 : decode cX5_gainBy 22 = .ok (.iload_n 3, 1) := by decide +kernel
theorem dX5_gainBy_23 : decode cX5_gainBy 23 = .ok (.invokevirtual 146, 3) := by decide +kernel
theorem dX5_gainBy_26 : decode cX5_gainBy 26 = .ok (.ifCond .ne 9, 3) := by decide +kernel
theorem dX5_gainBy_29 : decode cX5_gainBy 29 = .ok (.aload_n 0, 1) := by decide +kernel
theorem dX5_gainBy_30 : decode cX5_gainBy 30 = .ok (.iconst 1, 1) := by decide +kernel
theorem dX5_gainBy_31 : decode cX5_gainBy 31 = .ok (.invokevirtual 143, 3) := by decide +kernel
theorem dX5_gainBy_34 : decode cX5_gainBy 34 = .ok (.ireturn, 1) := by decide +kernel
theorem dX5_gainBy_35 : decode cX5_gainBy 35 = .ok (.aload_n 0, 1) := by decide +kernel
theorem dX5_gainBy_36 : decode cX5_gainBy 36 = .ok (.iload_n 1, 1) := by decide +kernel
theorem dX5_gainBy_37 : decode cX5_gainBy 37 = .ok (.iconst 1, 1) := by decide +kernel
theorem dX5_gainBy_38 : decode cX5_gainBy 38 = .ok (.iload_n 2, 1) := by decide +kernel
theorem dX5_gainBy_39 : decode cX5_gainBy 39 = .ok (.iload_n 3, 1) := by decide +kernel
theorem dX5_gainBy_40 : decode cX5_gainBy 40 = .ok (.invokevirtual 205, 3) := by decide +kernel
theorem dX5_gainBy_43 : decode cX5_gainBy 43 = .ok (.istore 4, 2) := by decide +kernel
theorem dX5_gainBy_45 : decode cX5_gainBy 45 = .ok (.aload_n 0, 1) := by decide +kernel
theorem dX5_gainBy_46 : decode cX5_gainBy 46 = .ok (.iload_n 1, 1) := by decide +kernel
theorem dX5_gainBy_47 : decode cX5_gainBy 47 = .ok (.iconst 0, 1) := by decide +kernel
theorem dX5_gainBy_48 : decode cX5_gainBy 48 = .ok (.iload_n 2, 1) := by decide +kernel
theorem dX5_gainBy_49 : decode cX5_gainBy 49 = .ok (.iload_n 3, 1) := by decide +kernel
theorem dX5_gainBy_50 : decode cX5_gainBy 50 = .ok (.invokevirtual 205, 3) := by decide +kernel
theorem dX5_gainBy_53 : decode cX5_gainBy 53 = .ok (.istore 5, 2) := by decide +kernel
theorem dX5_gainBy_55 : decode cX5_gainBy 55 = .ok (.iload 4, 2) := by decide +kernel
theorem dX5_gainBy_57 : decode cX5_gainBy 57 = .ok (.iconst (-1), 1) := by decide +kernel
theorem dX5_gainBy_58 : decode cX5_gainBy 58 = .ok (.if_icmp .ne 7, 3) := by decide +kernel
theorem dX5_gainBy_61 : decode cX5_gainBy 61 = .ok (.iconst 0, 1) := by decide +kernel
theorem dX5_gainBy_62 : decode cX5_gainBy 62 = .ok (.goto 18, 3) := by decide +kernel
theorem dX5_gainBy_65 : decode cX5_gainBy 65 = .ok (.iload 5, 2) := by decide +kernel
theorem dX5_gainBy_67 : decode cX5_gainBy 67 = .ok (.iconst (-1), 1) := by decide +kernel
theorem dX5_gainBy_68 : decode cX5_gainBy 68 = .ok (.if_icmp .ne 7, 3) := by decide +kernel
theorem dX5_gainBy_71 : decode cX5_gainBy 71 = .ok (.iconst (-1), 1) := by decide +kernel
theorem dX5_gainBy_72 : decode cX5_gainBy 72 = .ok (.goto 8, 3) := by decide +kernel
theorem dX5_gainBy_75 : decode cX5_gainBy 75 = .ok (.iload 5, 2) := by decide +kernel
theorem dX5_gainBy_77 : decode cX5_gainBy 77 = .ok (.iload 4, 2) := by decide +kernel
theorem dX5_gainBy_79 : decode cX5_gainBy 79 = .ok (.isub, 1) := by decide +kernel
theorem dX5_gainBy_80 : decode cX5_gainBy 80 = .ok (.ireturn, 1) := by decide +kernel
theorem dX5_wouldHear_0 : decode cX5_wouldHear 0 = .ok (.aload_n 0, 1) := by decide +kernel
theorem dX5_wouldHear_1 : decode cX5_wouldHear 1 = .ok (.iconst 0, 1) := by decide +kernel
theorem dX5_wouldHear_2 : decode cX5_wouldHear 2 = .ok (.putfield 63, 3) := by decide +kernel
theorem dX5_wouldHear_5 : decode cX5_wouldHear 5 = .ok (.aload_n 0, 1) := by decide +kernel
theorem dX5_wouldHear_6 : decode cX5_wouldHear 6 = .ok (.iload_n 1, 1) := by decide +kernel
theorem dX5_wouldHear_7 : decode cX5_wouldHear 7 = .ok (.invokevirtual 166, 3) := by decide +kernel
theorem dX5_wouldHear_10 : decode cX5_wouldHear 10 = .ok (.ifCond .eq 11, 3) := by decide +kernel
theorem dX5_wouldHear_13 : decode cX5_wouldHear 13 = .ok (.aload_n 0, 1) := by decide +kernel
theorem dX5_wouldHear_14 : decode cX5_wouldHear 14 = .ok (.iload_n 2, 1) := by decide +kernel
theorem dX5_wouldHear_15 : decode cX5_wouldHear 15 = .ok (.invokevirtual 146, 3) := by decide +kernel
theorem dX5_wouldHear_18 : decode cX5_wouldHear 18 = .ok (.ifCond .ne 9, 3) := by decide +kernel
theorem dX5_wouldHear_21 : decode cX5_wouldHear 21 = .ok (.aload_n 0, 1) := by decide +kernel
theorem dX5_wouldHear_22 : decode cX5_wouldHear 22 = .ok (.iconst 1, 1) := by decide +kernel
theorem dX5_wouldHear_23 : decode cX5_wouldHear 23 = .ok (.invokevirtual 143, 3) := by decide +kernel
theorem dX5_wouldHear_26 : decode cX5_wouldHear 26 = .ok (.ireturn, 1) := by decide +kernel
theorem dX5_wouldHear_27 : decode cX5_wouldHear 27 = .ok (.aload_n 0, 1) := by decide +kernel
theorem dX5_wouldHear_28 : decode cX5_wouldHear 28 = .ok (.invokevirtual 209, 3) := by decide +kernel
theorem dX5_wouldHear_31 : decode cX5_wouldHear 31 = .ok (.aload_n 0, 1) := by decide +kernel
theorem dX5_wouldHear_32 : decode cX5_wouldHear 32 = .ok (.iload_n 1, 1) := by decide +kernel
theorem dX5_wouldHear_33 : decode cX5_wouldHear 33 = .ok (.bipush 100, 2) := by decide +kernel
theorem dX5_wouldHear_35 : decode cX5_wouldHear 35 = .ok (.invokevirtual 212, 3) := by decide +kernel
theorem dX5_wouldHear_38 : decode cX5_wouldHear 38 = .ok (.aload_n 0, 1) := by decide +kernel
theorem dX5_wouldHear_39 : decode cX5_wouldHear 39 = .ok (.getfield 44, 3) := by decide +kernel
theorem dX5_wouldHear_42 : decode cX5_wouldHear 42 = .ok (.bipush 96, 2) := by decide +kernel
theorem dX5_wouldHear_44 : decode cX5_wouldHear 44 = .ok (.bipush 12, 2) := by decide +kernel
theorem dX5_wouldHear_46 : decode cX5_wouldHear 46 = .ok (.iload_n 1, 1) := by decide +kernel
theorem dX5_wouldHear_47 : decode cX5_wouldHear 47 = .ok (.imul, 1) := by decide +kernel
theorem dX5_wouldHear_48 : decode cX5_wouldHear 48 = .ok (.iadd, 1) := by decide +kernel
theorem dX5_wouldHear_49 : decode cX5_wouldHear 49 = .ok (.iload_n 2, 1) := by decide +kernel
theorem dX5_wouldHear_50 : decode cX5_wouldHear 50 = .ok (.iadd, 1) := by decide +kernel
theorem dX5_wouldHear_51 : decode cX5_wouldHear 51 = .ok (.iaload, 1) := by decide +kernel
theorem dX5_wouldHear_52 : decode cX5_wouldHear 52 = .ok (.istore_n 3, 1) := by decide +kernel
theorem dX5_wouldHear_53 : decode cX5_wouldHear 53 = .ok (.aload_n 0, 1) := by decide +kernel
theorem dX5_wouldHear_54 : decode cX5_wouldHear 54 = .ok (.invokevirtual 215, 3) := by decide +kernel
theorem dX5_wouldHear_57 : decode cX5_wouldHear 57 = .ok (.iload_n 3, 1) := by decide +kernel
theorem dX5_wouldHear_58 : decode cX5_wouldHear 58 = .ok (.ireturn, 1) := by decide +kernel
theorem dX5_later_0 : decode cX5_later 0 = .ok (.aload_n 0, 1) := by decide +kernel
theorem dX5_later_1 : decode cX5_later 1 = .ok (.iload_n 1, 1) := by decide +kernel
theorem dX5_later_2 : decode cX5_later 2 = .ok (.bipush 100, 2) := by decide +kernel
theorem dX5_later_4 : decode cX5_later 4 = .ok (.invokevirtual 212, 3) := by decide +kernel
theorem dX5_later_7 : decode cX5_later 7 = .ok (.aload_n 0, 1) := by decide +kernel
theorem dX5_later_8 : decode cX5_later 8 = .ok (.iload_n 1, 1) := by decide +kernel
theorem dX5_later_9 : decode cX5_later 9 = .ok (.invokevirtual 190, 3) := by decide +kernel
theorem dX5_later_12 : decode cX5_later 12 = .ok (.istore_n 2, 1) := by decide +kernel
theorem dX5_later_13 : decode cX5_later 13 = .ok (.aload_n 0, 1) := by decide +kernel
theorem dX5_later_14 : decode cX5_later 14 = .ok (.invokevirtual 215, 3) := by decide +kernel
theorem dX5_later_17 : decode cX5_later 17 = .ok (.iload_n 2, 1) := by decide +kernel
theorem dX5_later_18 : decode cX5_later 18 = .ok (.ireturn, 1) := by decide +kernel
theorem dX5_inTheEnd_0 : decode cX5_inTheEnd 0 = .ok (.aload_n 0, 1) := by decide +kernel
theorem dX5_inTheEnd_1 : decode cX5_inTheEnd 1 = .ok (.invokevirtual 209, 3) := by decide +kernel
theorem dX5_inTheEnd_4 : decode cX5_inTheEnd 4 = .ok (.aload_n 0, 1) := by decide +kernel
theorem dX5_inTheEnd_5 : decode cX5_inTheEnd 5 = .ok (.iload_n 1, 1) := by decide +kernel
theorem dX5_inTheEnd_6 : decode cX5_inTheEnd 6 = .ok (.invokevirtual 218, 3) := by decide +kernel
theorem dX5_inTheEnd_9 : decode cX5_inTheEnd 9 = .ok (.ireturn, 1) := by decide +kernel
theorem dX5_believersInTheEnd_0 : decode cX5_believersInTheEnd 0 = .ok (.aload_n 0, 1) := by decide +kernel
theorem dX5_believersInTheEnd_1 : decode cX5_believersInTheEnd 1 = .ok (.iconst 0, 1) := by decide +kernel
theorem dX5_believersInTheEnd_2 : decode cX5_believersInTheEnd 2 = .ok (.putfield 63, 3) := by decide +kernel
theorem dX5_believersInTheEnd_5 : decode cX5_believersInTheEnd 5 = .ok (.aload_n 0, 1) := by decide +kernel
theorem dX5_believersInTheEnd_6 : decode cX5_believersInTheEnd 6 = .ok (.iload_n 1, 1) := by decide +kernel
theorem dX5_believersInTheEnd_7 : decode cX5_believersInTheEnd 7 = .ok (.invokevirtual 166, 3) := by decide +kernel
theorem dX5_believersInTheEnd_10 : decode cX5_believersInTheEnd 10 = .ok (.ifCond .eq 11, 3) := by decide +kernel
theorem dX5_believersInTheEnd_13 : decode cX5_believersInTheEnd 13 = .ok (.aload_n 0, 1) := by decide +kernel
theorem dX5_believersInTheEnd_14 : decode cX5_believersInTheEnd 14 = .ok (.iload_n 1, 1) := by decide +kernel
theorem dX5_believersInTheEnd_15 : decode cX5_believersInTheEnd 15 = .ok (.invokevirtual 221, 3) := by decide +kernel
theorem dX5_believersInTheEnd_18 : decode cX5_believersInTheEnd 18 = .ok (.goto 8, 3) := by decide +kernel
theorem dX5_believersInTheEnd_21 : decode cX5_believersInTheEnd 21 = .ok (.aload_n 0, 1) := by decide +kernel
theorem dX5_believersInTheEnd_22 : decode cX5_believersInTheEnd 22 = .ok (.iconst 1, 1) := by decide +kernel
theorem dX5_believersInTheEnd_23 : decode cX5_believersInTheEnd 23 = .ok (.invokevirtual 143, 3) := by decide +kernel
theorem dX5_believersInTheEnd_26 : decode cX5_believersInTheEnd 26 = .ok (.ireturn, 1) := by decide +kernel
theorem dX5_quiet_0 : decode cX5_quiet 0 = .ok (.aload_n 0, 1) := by decide +kernel
theorem dX5_quiet_1 : decode cX5_quiet 1 = .ok (.invokevirtual 209, 3) := by decide +kernel
theorem dX5_quiet_4 : decode cX5_quiet 4 = .ok (.iconst 0, 1) := by decide +kernel
theorem dX5_quiet_5 : decode cX5_quiet 5 = .ok (.istore_n 2, 1) := by decide +kernel
theorem dX5_quiet_6 : decode cX5_quiet 6 = .ok (.iload_n 2, 1) := by decide +kernel
theorem dX5_quiet_7 : decode cX5_quiet 7 = .ok (.bipush 100, 2) := by decide +kernel
theorem dX5_quiet_9 : decode cX5_quiet 9 = .ok (.if_icmp .gt 23, 3) := by decide +kernel
theorem dX5_quiet_12 : decode cX5_quiet 12 = .ok (.aload_n 0, 1) := by decide +kernel
theorem dX5_quiet_13 : decode cX5_quiet 13 = .ok (.iload_n 1, 1) := by decide +kernel
theorem dX5_quiet_14 : decode cX5_quiet 14 = .ok (.invokevirtual 224, 3) := by decide +kernel
theorem dX5_quiet_17 : decode cX5_quiet 17 = .ok (.ifCond .ne 15, 3) := by decide +kernel
theorem dX5_quiet_20 : decode cX5_quiet 20 = .ok (.aload_n 0, 1) := by decide +kernel
theorem dX5_quiet_21 : decode cX5_quiet 21 = .ok (.iload_n 1, 1) := by decide +kernel
theorem dX5_quiet_22 : decode cX5_quiet 22 = .ok (.iconst 1, 1) := by decide +kernel
theorem dX5_quiet_23 : decode cX5_quiet 23 = .ok (.invokevirtual 212, 3) := by decide +kernel
theorem dX5_quiet_26 : decode cX5_quiet 26 = .ok (.iinc 2 1, 3) := by decide +kernel
theorem dX5_quiet_29 : decode cX5_quiet 29 = .ok (.goto (-23), 3) := by decide +kernel
theorem dX5_quiet_32 : decode cX5_quiet 32 = .ok (.aload_n 0, 1) := by decide +kernel
theorem dX5_quiet_33 : decode cX5_quiet 33 = .ok (.invokevirtual 215, 3) := by decide +kernel
theorem dX5_quiet_36 : decode cX5_quiet 36 = .ok (.iload_n 2, 1) := by decide +kernel
theorem dX5_quiet_37 : decode cX5_quiet 37 = .ok (.bipush 100, 2) := by decide +kernel
theorem dX5_quiet_39 : decode cX5_quiet 39 = .ok (.if_icmp .le 7, 3) := by decide +kernel
theorem dX5_quiet_42 : decode cX5_quiet 42 = .ok (.iconst (-1), 1) := by decide +kernel
theorem dX5_quiet_43 : decode cX5_quiet 43 = .ok (.goto 4, 3) := by decide +kernel
theorem dX5_quiet_46 : decode cX5_quiet 46 = .ok (.iload_n 2, 1) := by decide +kernel
theorem dX5_quiet_47 : decode cX5_quiet 47 = .ok (.ireturn, 1) := by decide +kernel
theorem dX5_quietIn_0 : decode cX5_quietIn 0 = .ok (.aload_n 0, 1) := by decide +kernel
theorem dX5_quietIn_1 : decode cX5_quietIn 1 = .ok (.iconst 0, 1) := by decide +kernel
theorem dX5_quietIn_2 : decode cX5_quietIn 2 = .ok (.putfield 63, 3) := by decide +kernel
theorem dX5_quietIn_5 : decode cX5_quietIn 5 = .ok (.aload_n 0, 1) := by decide +kernel
theorem dX5_quietIn_6 : decode cX5_quietIn 6 = .ok (.iload_n 1, 1) := by decide +kernel
theorem dX5_quietIn_7 : decode cX5_quietIn 7 = .ok (.invokevirtual 166, 3) := by decide +kernel
theorem dX5_quietIn_10 : decode cX5_quietIn 10 = .ok (.ifCond .eq 11, 3) := by decide +kernel
theorem dX5_quietIn_13 : decode cX5_quietIn 13 = .ok (.aload_n 0, 1) := by decide +kernel
theorem dX5_quietIn_14 : decode cX5_quietIn 14 = .ok (.iload_n 1, 1) := by decide +kernel
theorem dX5_quietIn_15 : decode cX5_quietIn 15 = .ok (.invokevirtual 227, 3) := by decide +kernel
theorem dX5_quietIn_18 : decode cX5_quietIn 18 = .ok (.goto 8, 3) := by decide +kernel
theorem dX5_quietIn_21 : decode cX5_quietIn 21 = .ok (.aload_n 0, 1) := by decide +kernel
theorem dX5_quietIn_22 : decode cX5_quietIn 22 = .ok (.iconst 1, 1) := by decide +kernel
theorem dX5_quietIn_23 : decode cX5_quietIn 23 = .ok (.invokevirtual 143, 3) := by decide +kernel
theorem dX5_quietIn_26 : decode cX5_quietIn 26 = .ok (.ireturn, 1) := by decide +kernel
theorem dX5_with_0 : decode cX5_with 0 = .ok (.aload_n 0, 1) := by decide +kernel
theorem dX5_with_1 : decode cX5_with 1 = .ok (.invokevirtual 209, 3) := by decide +kernel
theorem dX5_with_4 : decode cX5_with 4 = .ok (.aload_n 0, 1) := by decide +kernel
theorem dX5_with_5 : decode cX5_with 5 = .ok (.bipush 12, 2) := by decide +kernel
theorem dX5_with_7 : decode cX5_with 7 = .ok (.iload_n 1, 1) := by decide +kernel
theorem dX5_with_8 : decode cX5_with 8 = .ok (.imul, 1) := by decide +kernel
theorem dX5_with_9 : decode cX5_with 9 = .ok (.iload_n 2, 1) := by decide +kernel
theorem dX5_with_10 : decode cX5_with 10 = .ok (.iadd, 1) := by decide +kernel
theorem dX5_with_11 : decode cX5_with 11 = .ok (.invokevirtual 120, 3) := by decide +kernel
theorem dX5_with_14 : decode cX5_with 14 = .ok (.aload_n 0, 1) := by decide +kernel
theorem dX5_with_15 : decode cX5_with 15 = .ok (.iload_n 1, 1) := by decide +kernel
theorem dX5_with_16 : decode cX5_with 16 = .ok (.invokevirtual 218, 3) := by decide +kernel
theorem dX5_with_19 : decode cX5_with 19 = .ok (.ireturn, 1) := by decide +kernel
theorem dX5_believersWith_0 : decode cX5_believersWith 0 = .ok (.aload_n 0, 1) := by decide +kernel
theorem dX5_believersWith_1 : decode cX5_believersWith 1 = .ok (.iconst 0, 1) := by decide +kernel
theorem dX5_believersWith_2 : decode cX5_believersWith 2 = .ok (.putfield 63, 3) := by decide +kernel
theorem dX5_believersWith_5 : decode cX5_believersWith 5 = .ok (.aload_n 0, 1) := by decide +kernel
theorem dX5_believersWith_6 : decode cX5_believersWith 6 = .ok (.iload_n 1, 1) := by decide +kernel
theorem dX5_believersWith_7 : decode cX5_believersWith 7 = .ok (.invokevirtual 166, 3) := by decide +kernel
theorem dX5_believersWith_10 : decode cX5_believersWith 10 = .ok (.ifCond .eq 20, 3) := by decide +kernel
theorem dX5_believersWith_13 : decode cX5_believersWith 13 = .ok (.aload_n 0, 1) := by decide +kernel
theorem dX5_believersWith_14 : decode cX5_believersWith 14 = .ok (.iload_n 2, 1) := by decide +kernel
theorem dX5_believersWith_15 : decode cX5_believersWith 15 = .ok (.invokevirtual 146, 3) := by decide +kernel
theorem dX5_believersWith_18 : decode cX5_believersWith 18 = .ok (.ifCond .eq 12, 3) := by decide +kernel
theorem dX5_believersWith_21 : decode cX5_believersWith 21 = .ok (.aload_n 0, 1) := by decide +kernel
theorem dX5_believersWith_22 : decode cX5_believersWith 22 = .ok (.iload_n 1, 1) := by decide +kernel
theorem dX5_believersWith_23 : decode cX5_believersWith 23 = .ok (.iload_n 2, 1) := by decide +kernel
theorem dX5_believersWith_24 : decode cX5_believersWith 24 = .ok (.invokevirtual 230, 3) := by decide +kernel
theorem dX5_believersWith_27 : decode cX5_believersWith 27 = .ok (.goto 8, 3) := by decide +kernel
theorem dX5_believersWith_30 : decode cX5_believersWith 30 = .ok (.aload_n 0, 1) := by decide +kernel
theorem dX5_believersWith_31 : decode cX5_believersWith 31 = .ok (.iconst 1, 1) := by decide +kernel
theorem dX5_believersWith_32 : decode cX5_believersWith 32 = .ok (.invokevirtual 143, 3) := by decide +kernel
theorem dX5_believersWith_35 : decode cX5_believersWith 35 = .ok (.ireturn, 1) := by decide +kernel
theorem dX5_denial_0 : decode cX5_denial 0 = .ok (.iconst 0, 1) := by decide +kernel
theorem dX5_denial_1 : decode cX5_denial 1 = .ok (.istore_n 2, 1) := by decide +kernel
theorem dX5_denial_2 : decode cX5_denial 2 = .ok (.aload_n 0, 1) := by decide +kernel
theorem dX5_denial_3 : decode cX5_denial 3 = .ok (.iload_n 1, 1) := by decide +kernel
theorem dX5_denial_4 : decode cX5_denial 4 = .ok (.iconst 0, 1) := by decide +kernel
theorem dX5_denial_5 : decode cX5_denial 5 = .ok (.invokevirtual 230, 3) := by decide +kernel
theorem dX5_denial_8 : decode cX5_denial 8 = .ok (.istore_n 3, 1) := by decide +kernel
theorem dX5_denial_9 : decode cX5_denial 9 = .ok (.iconst 1, 1) := by decide +kernel
theorem dX5_denial_10 : decode cX5_denial 10 = .ok (.istore 4, 2) := by decide +kernel
theorem dX5_denial_12 : decode cX5_denial 12 = .ok (.iload 4, 2) := by decide +kernel
theorem dX5_denial_14 : decode cX5_denial 14 = .ok (.aload_n 0, 1) := by decide +kernel
theorem dX5_denial_15 : decode cX5_denial 15 = .ok (.getfield 67, 3) := by decide +kernel
theorem dX5_denial_18 : decode cX5_denial 18 = .ok (.if_icmp .ge 33, 3) := by decide +kernel
theorem dX5_denial_21 : decode cX5_denial 21 = .ok (.aload_n 0, 1) := by decide +kernel
theorem dX5_denial_22 : decode cX5_denial 22 = .ok (.iload_n 1, 1) := by decide +kernel
theorem dX5_denial_23 : decode cX5_denial 23 = .ok (.iload 4, 2) := by decide +kernel
theorem dX5_denial_25 : decode cX5_denial 25 = .ok (.invokevirtual 230, 3) := by decide +kernel
theorem dX5_denial_28 : decode cX5_denial 28 = .ok (.istore 5, 2) := by decide +kernel
theorem dX5_denial_30 : decode cX5_denial 30 = .ok (.iload 5, 2) := by decide +kernel
theorem dX5_denial_32 : decode cX5_denial 32 = .ok (.iload_n 3, 1) := by decide +kernel
theorem dX5_denial_33 : decode cX5_denial 33 = .ok (.if_icmp .lt 6, 3) := by decide +kernel
theorem dX5_denial_36 : decode cX5_denial 36 = .ok (.goto 9, 3) := by decide +kernel
theorem dX5_denial_39 : decode cX5_denial 39 = .ok (.iload 4, 2) := by decide +kernel
theorem dX5_denial_41 : decode cX5_denial 41 = .ok (.istore_n 2, 1) := by decide +kernel
theorem dX5_denial_42 : decode cX5_denial 42 = .ok (.iload 5, 2) := by decide +kernel
theorem dX5_denial_44 : decode cX5_denial 44 = .ok (.istore_n 3, 1) := by decide +kernel
theorem dX5_denial_45 : decode cX5_denial 45 = .ok (.iinc 4 1, 3) := by decide +kernel
theorem dX5_denial_48 : decode cX5_denial 48 = .ok (.goto (-36), 3) := by decide +kernel
theorem dX5_denial_51 : decode cX5_denial 51 = .ok (.iload_n 2, 1) := by decide +kernel
theorem dX5_denial_52 : decode cX5_denial 52 = .ok (.ireturn, 1) := by decide +kernel
theorem dX5_bestDenial_0 : decode cX5_bestDenial 0 = .ok (.aload_n 0, 1) := by decide +kernel
theorem dX5_bestDenial_1 : decode cX5_bestDenial 1 = .ok (.iconst 0, 1) := by decide +kernel
theorem dX5_bestDenial_2 : decode cX5_bestDenial 2 = .ok (.putfield 63, 3) := by decide +kernel
theorem dX5_bestDenial_5 : decode cX5_bestDenial 5 = .ok (.aload_n 0, 1) := by decide +kernel
theorem dX5_bestDenial_6 : decode cX5_bestDenial 6 = .ok (.iload_n 1, 1) := by decide +kernel
theorem dX5_bestDenial_7 : decode cX5_bestDenial 7 = .ok (.invokevirtual 166, 3) := by decide +kernel
theorem dX5_bestDenial_10 : decode cX5_bestDenial 10 = .ok (.ifCond .eq 11, 3) := by decide +kernel
theorem dX5_bestDenial_13 : decode cX5_bestDenial 13 = .ok (.aload_n 0, 1) := by decide +kernel
theorem dX5_bestDenial_14 : decode cX5_bestDenial 14 = .ok (.iload_n 1, 1) := by decide +kernel
theorem dX5_bestDenial_15 : decode cX5_bestDenial 15 = .ok (.invokevirtual 233, 3) := by decide +kernel
theorem dX5_bestDenial_18 : decode cX5_bestDenial 18 = .ok (.goto 8, 3) := by decide +kernel
theorem dX5_bestDenial_21 : decode cX5_bestDenial 21 = .ok (.aload_n 0, 1) := by decide +kernel
theorem dX5_bestDenial_22 : decode cX5_bestDenial 22 = .ok (.iconst 1, 1) := by decide +kernel
theorem dX5_bestDenial_23 : decode cX5_bestDenial 23 = .ok (.invokevirtual 143, 3) := by decide +kernel
theorem dX5_bestDenial_26 : decode cX5_bestDenial 26 = .ok (.ireturn, 1) := by decide +kernel
theorem dX5_toShut_0 : decode cX5_toShut 0 = .ok (.iconst (-1), 1) := by decide +kernel
theorem dX5_toShut_1 : decode cX5_toShut 1 = .ok (.istore_n 2, 1) := by decide +kernel
theorem dX5_toShut_2 : decode cX5_toShut 2 = .ok (.aload_n 0, 1) := by decide +kernel
theorem dX5_toShut_3 : decode cX5_toShut 3 = .ok (.iload_n 1, 1) := by decide +kernel
theorem dX5_toShut_4 : decode cX5_toShut 4 = .ok (.invokevirtual 221, 3) := by decide +kernel
theorem dX5_toShut_7 : decode cX5_toShut 7 = .ok (.istore_n 3, 1) := by decide +kernel
theorem dX5_toShut_8 : decode cX5_toShut 8 = .ok (.iconst 0, 1) := by decide +kernel
theorem dX5_toShut_9 : decode cX5_toShut 9 = .ok (.istore 4, 2) := by decide +kernel
theorem dX5_toShut_11 : decode cX5_toShut 11 = .ok (.iload 4, 2) := by decide +kernel
theorem dX5_toShut_13 : decode cX5_toShut 13 = .ok (.aload_n 0, 1) := by decide +kernel
theorem dX5_toShut_14 : decode cX5_toShut 14 = .ok (.getfield 67, 3) := by decide +kernel
theorem dX5_toShut_17 : decode cX5_toShut 17 = .ok (.iconst 1, 1) := by decide +kernel
theorem dX5_toShut_18 : decode cX5_toShut 18 = .ok (.isub, 1) := by decide +kernel
theorem dX5_toShut_19 : decode cX5_toShut 19 = .ok (.if_icmp .ge 60, 3) := by decide +kernel
theorem dX5_toShut_22 : decode cX5_toShut 22 = .ok (.aload_n 0, 1) := by decide +kernel
theorem dX5_toShut_23 : decode cX5_toShut 23 = .ok (.getfield 19, 3) := by decide +kernel
theorem dX5_toShut_26 : decode cX5_toShut 26 = .ok (.iload 4, 2) := by decide +kernel
theorem dX5_toShut_28 : decode cX5_toShut 28 = .ok (.baload, 1) := by decide +kernel
theorem dX5_toShut_29 : decode cX5_toShut 29 = .ok (.ifCond .ne 6, 3) := by decide +kernel
theorem dX5_toShut_32 : decode cX5_toShut 32 = .ok (.goto 41, 3) := by decide +kernel
theorem dX5_toShut_35 : decode cX5_toShut 35 = .ok (.aload_n 0, 1) := by decide +kernel
theorem dX5_toShut_36 : decode cX5_toShut 36 = .ok (.getfield 19, 3) := by decide +kernel
theorem dX5_toShut_39 : decode cX5_toShut 39 = .ok (.iload 4, 2) := by decide +kernel
theorem dX5_toShut_41 : decode cX5_toShut 41 = .ok (.iconst 0, 1) := by decide +kernel
theorem dX5_toShut_42 : decode cX5_toShut 42 = .ok (.bastore, 1) := by decide +kernel
theorem dX5_toShut_43 : decode cX5_toShut 43 = .ok (.aload_n 0, 1) := by decide +kernel
theorem dX5_toShut_44 : decode cX5_toShut 44 = .ok (.iload_n 1, 1) := by decide +kernel
theorem dX5_toShut_45 : decode cX5_toShut 45 = .ok (.invokevirtual 221, 3) := by decide +kernel
theorem dX5_toShut_48 : decode cX5_toShut 48 = .ok (.istore 5, 2) := by decide +kernel
theorem dX5_toShut_50 : decode cX5_toShut 50 = .ok (.aload_n 0, 1) := by decide +kernel
theorem dX5_toShut_51 : decode cX5_toShut 51 = .ok (.getfield 19, 3) := by decide +kernel
theorem dX5_toShut_54 : decode cX5_toShut 54 = .ok (.iload 4, 2) := by decide +kernel
theorem dX5_toShut_56 : decode cX5_toShut 56 = .ok (.iconst 1, 1) := by decide +kernel
theorem dX5_toShut_57 : decode cX5_toShut 57 = .ok (.bastore, 1) := by decide +kernel
theorem dX5_toShut_58 : decode cX5_toShut 58 = .ok (.iload 5, 2) := by decide +kernel
theorem dX5_toShut_60 : decode cX5_toShut 60 = .ok (.iload_n 3, 1) := by decide +kernel
theorem dX5_toShut_61 : decode cX5_toShut 61 = .ok (.if_icmp .lt 6, 3) := by decide +kernel
theorem dX5_toShut_64 : decode cX5_toShut 64 = .ok (.goto 9, 3) := by decide +kernel
theorem dX5_toShut_67 : decode cX5_toShut 67 = .ok (.iload 4, 2) := by decide +kernel
theorem dX5_toShut_69 : decode cX5_toShut 69 = .ok (.istore_n 2, 1) := by decide +kernel
theorem dX5_toShut_70 : decode cX5_toShut 70 = .ok (.iload 5, 2) := by decide +kernel
theorem dX5_toShut_72 : decode cX5_toShut 72 = .ok (.istore_n 3, 1) := by decide +kernel
theorem dX5_toShut_73 : decode cX5_toShut 73 = .ok (.iinc 4 1, 3) := by decide +kernel
theorem dX5_toShut_76 : decode cX5_toShut 76 = .ok (.goto (-65), 3) := by decide +kernel
theorem dX5_toShut_79 : decode cX5_toShut 79 = .ok (.iload_n 2, 1) := by decide +kernel
theorem dX5_toShut_80 : decode cX5_toShut 80 = .ok (.ireturn, 1) := by decide +kernel
theorem dX5_bestStairsToShut_0 : decode cX5_bestStairsToShut 0 = .ok (.aload_n 0, 1) := by decide +kernel
theorem dX5_bestStairsToShut_1 : decode cX5_bestStairsToShut 1 = .ok (.iconst 0, 1) := by decide +kernel
theorem dX5_bestStairsToShut_2 : decode cX5_bestStairsToShut 2 = .ok (.putfield 63, 3) := by decide +kernel
theorem dX5_bestStairsToShut_5 : decode cX5_bestStairsToShut 5 = .ok (.aload_n 0, 1) := by decide +kernel
theorem dX5_bestStairsToShut_6 : decode cX5_bestStairsToShut 6 = .ok (.iload_n 1, 1) := by decide +kernel
theorem dX5_bestStairsToShut_7 : decode cX5_bestStairsToShut 7 = .ok (.invokevirtual 166, 3) := by decide +kernel
theorem dX5_bestStairsToShut_10 : decode cX5_bestStairsToShut 10 = .ok (.ifCond .eq 11, 3) := by decide +kernel
theorem dX5_bestStairsToShut_13 : decode cX5_bestStairsToShut 13 = .ok (.aload_n 0, 1) := by decide +kernel
theorem dX5_bestStairsToShut_14 : decode cX5_bestStairsToShut 14 = .ok (.iload_n 1, 1) := by decide +kernel
theorem dX5_bestStairsToShut_15 : decode cX5_bestStairsToShut 15 = .ok (.invokevirtual 236, 3) := by decide +kernel
theorem dX5_bestStairsToShut_18 : decode cX5_bestStairsToShut 18 = .ok (.goto 8, 3) := by decide +kernel
theorem dX5_bestStairsToShut_21 : decode cX5_bestStairsToShut 21 = .ok (.aload_n 0, 1) := by decide +kernel
theorem dX5_bestStairsToShut_22 : decode cX5_bestStairsToShut 22 = .ok (.iconst 1, 1) := by decide +kernel
theorem dX5_bestStairsToShut_23 : decode cX5_bestStairsToShut 23 = .ok (.invokevirtual 143, 3) := by decide +kernel
theorem dX5_bestStairsToShut_26 : decode cX5_bestStairsToShut 26 = .ok (.ireturn, 1) := by decide +kernel
theorem dX5_meanHeads_0 : decode cX5_meanHeads 0 = .ok (.aload_n 0, 1) := by decide +kernel
theorem dX5_meanHeads_1 : decode cX5_meanHeads 1 = .ok (.iconst 0, 1) := by decide +kernel
theorem dX5_meanHeads_2 : decode cX5_meanHeads 2 = .ok (.putfield 63, 3) := by decide +kernel
theorem dX5_meanHeads_5 : decode cX5_meanHeads 5 = .ok (.iconst 0, 1) := by decide +kernel
theorem dX5_meanHeads_6 : decode cX5_meanHeads 6 = .ok (.istore_n 1, 1) := by decide +kernel
theorem dX5_meanHeads_7 : decode cX5_meanHeads 7 = .ok (.iconst 0, 1) := by decide +kernel
theorem dX5_meanHeads_8 : decode cX5_meanHeads 8 = .ok (.istore_n 2, 1) := by decide +kernel
theorem dX5_meanHeads_9 : decode cX5_meanHeads 9 = .ok (.iload_n 2, 1) := by decide +kernel
theorem dX5_meanHeads_10 : decode cX5_meanHeads 10 = .ok (.aload_n 0, 1) := by decide +kernel
theorem dX5_meanHeads_11 : decode cX5_meanHeads 11 = .ok (.getfield 67, 3) := by decide +kernel
theorem dX5_meanHeads_14 : decode cX5_meanHeads 14 = .ok (.if_icmp .ge 18, 3) := by decide +kernel
theorem dX5_meanHeads_17 : decode cX5_meanHeads 17 = .ok (.iload_n 1, 1) := by decide +kernel
theorem dX5_meanHeads_18 : decode cX5_meanHeads 18 = .ok (.aload_n 0, 1) := by decide +kernel
theorem dX5_meanHeads_19 : decode cX5_meanHeads 19 = .ok (.getfield 9, 3) := by decide +kernel
theorem dX5_meanHeads_22 : decode cX5_meanHeads 22 = .ok (.iload_n 2, 1) := by decide +kernel
theorem dX5_meanHeads_23 : decode cX5_meanHeads 23 = .ok (.iaload, 1) := by decide +kernel
theorem dX5_meanHeads_24 : decode cX5_meanHeads 24 = .ok (.iadd, 1) := by decide +kernel
theorem dX5_meanHeads_25 : decode cX5_meanHeads 25 = .ok (.istore_n 1, 1) := by decide +kernel
theorem dX5_meanHeads_26 : decode cX5_meanHeads 26 = .ok (.iinc 2 1, 3) := by decide +kernel
theorem dX5_meanHeads_29 : decode cX5_meanHeads 29 = .ok (.goto (-20), 3) := by decide +kernel
theorem dX5_meanHeads_32 : decode cX5_meanHeads 32 = .ok (.iload_n 1, 1) := by decide +kernel
theorem dX5_meanHeads_33 : decode cX5_meanHeads 33 = .ok (.i2d, 1) := by decide +kernel
theorem dX5_meanHeads_34 : decode cX5_meanHeads 34 = .ok (.aload_n 0, 1) := by decide +kernel
theorem dX5_meanHeads_35 : decode cX5_meanHeads 35 = .ok (.getfield 67, 3) := by decide +kernel
theorem dX5_meanHeads_38 : decode cX5_meanHeads 38 = .ok (.i2d, 1) := by decide +kernel
theorem dX5_meanHeads_39 : decode cX5_meanHeads 39 = .ok (.ddiv, 1) := by decide +kernel
theorem dX5_meanHeads_40 : decode cX5_meanHeads 40 = .ok (.dreturn, 1) := by decide +kernel
theorem dX5_digest_0 : decode cX5_digest 0 = .ok (.aload_n 0, 1) := by decide +kernel
theorem dX5_digest_1 : decode cX5_digest 1 = .ok (.iconst 0, 1) := by decide +kernel
theorem dX5_digest_2 : decode cX5_digest 2 = .ok (.putfield 63, 3) := by decide +kernel
theorem dX5_digest_5 : decode cX5_digest 5 = .ok (.bipush 6, 2) := by decide +kernel
theorem dX5_digest_7 : decode cX5_digest 7 = .ok (.newarray .int, 2) := by decide +kernel
theorem dX5_digest_9 : decode cX5_digest 9 = .ok (.dup, 1) := by decide +kernel
theorem dX5_digest_10 : decode cX5_digest 10 = .ok (.iconst 0, 1) := by decide +kernel
theorem dX5_digest_11 : decode cX5_digest 11 = .ok (.aload_n 0, 1) := by decide +kernel
theorem dX5_digest_12 : decode cX5_digest 12 = .ok (.getfield 67, 3) := by decide +kernel
theorem dX5_digest_15 : decode cX5_digest 15 = .ok (.iastore, 1) := by decide +kernel
theorem dX5_digest_16 : decode cX5_digest 16 = .ok (.dup, 1) := by decide +kernel
theorem dX5_digest_17 : decode cX5_digest 17 = .ok (.iconst 1, 1) := by decide +kernel
theorem dX5_digest_18 : decode cX5_digest 18 = .ok (.aload_n 0, 1) := by decide +kernel
theorem dX5_digest_19 : decode cX5_digest 19 = .ok (.getfield 44, 3) := by decide +kernel
theorem dX5_digest_22 : decode cX5_digest 22 = .ok (.sipush 864, 3) := by decide +kernel
theorem dX5_digest_25 : decode cX5_digest 25 = .ok (.iaload, 1) := by decide +kernel
theorem dX5_digest_26 : decode cX5_digest 26 = .ok (.iastore, 1) := by decide +kernel
theorem dX5_digest_27 : decode cX5_digest 27 = .ok (.dup, 1) := by decide +kernel
theorem dX5_digest_28 : decode cX5_digest 28 = .ok (.iconst 2, 1) := by decide +kernel
theorem dX5_digest_29 : decode cX5_digest 29 = .ok (.aload_n 0, 1) := by decide +kernel
theorem dX5_digest_30 : decode cX5_digest 30 = .ok (.getfield 74, 3) := by decide +kernel
theorem dX5_digest_33 : decode cX5_digest 33 = .ok (.iastore, 1) := by decide +kernel
theorem dX5_digest_34 : decode cX5_digest 34 = .ok (.dup, 1) := by decide +kernel
theorem dX5_digest_35 : decode cX5_digest 35 = .ok (.iconst 3, 1) := by decide +kernel
theorem dX5_digest_36 : decode cX5_digest 36 = .ok (.aload_n 0, 1) := by decide +kernel
theorem dX5_digest_37 : decode cX5_digest 37 = .ok (.getfield 77, 3) := by decide +kernel
theorem dX5_digest_40 : decode cX5_digest 40 = .ok (.iastore, 1) := by decide +kernel
theorem dX5_digest_41 : decode cX5_digest 41 = .ok (.dup, 1) := by decide +kernel
theorem dX5_digest_42 : decode cX5_digest 42 = .ok (.iconst 4, 1) := by decide +kernel
theorem dX5_digest_43 : decode cX5_digest 43 = .ok (.aload_n 0, 1) := by decide +kernel
theorem dX5_digest_44 : decode cX5_digest 44 = .ok (.invokevirtual 199, 3) := by decide +kernel
theorem dX5_digest_47 : decode cX5_digest 47 = .ok (.iastore, 1) := by decide +kernel
theorem dX5_digest_48 : decode cX5_digest 48 = .ok (.dup, 1) := by decide +kernel
theorem dX5_digest_49 : decode cX5_digest 49 = .ok (.iconst 5, 1) := by decide +kernel
theorem dX5_digest_50 : decode cX5_digest 50 = .ok (.aload_n 0, 1) := by decide +kernel
theorem dX5_digest_51 : decode cX5_digest 51 = .ok (.invokevirtual 202, 3) := by decide +kernel
theorem dX5_digest_54 : decode cX5_digest 54 = .ok (.iastore, 1) := by decide +kernel
theorem dX5_digest_55 : decode cX5_digest 55 = .ok (.astore_n 1, 1) := by decide +kernel
theorem dX5_digest_56 : decode cX5_digest 56 = .ok (.ldc2_w 239, 3) := by decide +kernel
theorem dX5_digest_59 : decode cX5_digest 59 = .ok (.lstore_n 2, 1) := by decide +kernel
theorem dX5_digest_60 : decode cX5_digest 60 = .ok (.aload_n 1, 1) := by decide +kernel
theorem dX5_digest_61 : decode cX5_digest 61 = .ok (.astore 4, 2) := by decide +kernel
theorem dX5_digest_63 : decode cX5_digest 63 = .ok (.aload 4, 2) := by decide +kernel
theorem dX5_digest_65 : decode cX5_digest 65 = .ok (.arraylength, 1) := by decide +kernel
theorem dX5_digest_66 : decode cX5_digest 66 = .ok (.istore 5, 2) := by decide +kernel
theorem dX5_digest_68 : decode cX5_digest 68 = .ok (.iconst 0, 1) := by decide +kernel
theorem dX5_digest_69 : decode cX5_digest 69 = .ok (.istore 6, 2) := by decide +kernel
theorem dX5_digest_71 : decode cX5_digest 71 = .ok (.iload 6, 2) := by decide +kernel
theorem dX5_digest_73 : decode cX5_digest 73 = .ok (.iload 5, 2) := by decide +kernel
theorem dX5_digest_75 : decode cX5_digest 75 = .ok (.if_icmp .ge 26, 3) := by decide +kernel
theorem dX5_digest_78 : decode cX5_digest 78 = .ok (.aload 4, 2) := by decide +kernel
theorem dX5_digest_80 : decode cX5_digest 80 = .ok (.iload 6, 2) := by decide +kernel
theorem dX5_digest_82 : decode cX5_digest 82 = .ok (.iaload, 1) := by decide +kernel
theorem dX5_digest_83 : decode cX5_digest 83 = .ok (.istore 7, 2) := by decide +kernel
theorem dX5_digest_85 : decode cX5_digest 85 = .ok (.lload_n 2, 1) := by decide +kernel
theorem dX5_digest_86 : decode cX5_digest 86 = .ok (.ldc2_w 241, 3) := by decide +kernel
theorem dX5_digest_89 : decode cX5_digest 89 = .ok (.lmul, 1) := by decide +kernel
theorem dX5_digest_90 : decode cX5_digest 90 = .ok (.iload 7, 2) := by decide +kernel
theorem dX5_digest_92 : decode cX5_digest 92 = .ok (.i2l, 1) := by decide +kernel
theorem dX5_digest_93 : decode cX5_digest 93 = .ok (.ladd, 1) := by decide +kernel
theorem dX5_digest_94 : decode cX5_digest 94 = .ok (.lstore_n 2, 1) := by decide +kernel
theorem dX5_digest_95 : decode cX5_digest 95 = .ok (.iinc 6 1, 3) := by decide +kernel
theorem dX5_digest_98 : decode cX5_digest 98 = .ok (.goto (-27), 3) := by decide +kernel
theorem dX5_digest_101 : decode cX5_digest 101 = .ok (.iconst 0, 1) := by decide +kernel
theorem dX5_digest_102 : decode cX5_digest 102 = .ok (.istore 4, 2) := by decide +kernel
theorem dX5_digest_104 : decode cX5_digest 104 = .ok (.iload 4, 2) := by decide +kernel
theorem dX5_digest_106 : decode cX5_digest 106 = .ok (.aload_n 0, 1) := by decide +kernel
theorem dX5_digest_107 : decode cX5_digest 107 = .ok (.getfield 67, 3) := by decide +kernel
theorem dX5_digest_110 : decode cX5_digest 110 = .ok (.if_icmp .ge 104, 3) := by decide +kernel
theorem dX5_digest_113 : decode cX5_digest 113 = .ok (.iconst 5, 1) := by decide +kernel
theorem dX5_digest_114 : decode cX5_digest 114 = .ok (.newarray .int, 2) := by decide +kernel
theorem dX5_digest_116 : decode cX5_digest 116 = .ok (.dup, 1) := by decide +kernel
theorem dX5_digest_117 : decode cX5_digest 117 = .ok (.iconst 0, 1) := by decide +kernel
theorem dX5_digest_118 : decode cX5_digest 118 = .ok (.aload_n 0, 1) := by decide +kernel
theorem dX5_digest_119 : decode cX5_digest 119 = .ok (.getfield 9, 3) := by decide +kernel
theorem dX5_digest_122 : decode cX5_digest 122 = .ok (.iload 4, 2) := by decide +kernel
theorem dX5_digest_124 : decode cX5_digest 124 = .ok (.iaload, 1) := by decide +kernel
theorem dX5_digest_125 : decode cX5_digest 125 = .ok (.iastore, 1) := by decide +kernel
theorem dX5_digest_126 : decode cX5_digest 126 = .ok (.dup, 1) := by decide +kernel
theorem dX5_digest_127 : decode cX5_digest 127 = .ok (.iconst 1, 1) := by decide +kernel
theorem dX5_digest_128 : decode cX5_digest 128 = .ok (.aload_n 0, 1) := by decide +kernel
theorem dX5_digest_129 : decode cX5_digest 129 = .ok (.getfield 13, 3) := by decide +kernel
theorem dX5_digest_132 : decode cX5_digest 132 = .ok (.iload 4, 2) := by decide +kernel
theorem dX5_digest_134 : decode cX5_digest 134 = .ok (.iaload, 1) := by decide +kernel
theorem dX5_digest_135 : decode cX5_digest 135 = .ok (.iastore, 1) := by decide +kernel
theorem dX5_digest_136 : decode cX5_digest 136 = .ok (.dup, 1) := by decide +kernel
theorem dX5_digest_137 : decode cX5_digest 137 = .ok (.iconst 2, 1) := by decide +kernel
theorem dX5_digest_138 : decode cX5_digest 138 = .ok (.aload_n 0, 1) := by decide +kernel
theorem dX5_digest_139 : decode cX5_digest 139 = .ok (.iload 4, 2) := by decide +kernel
theorem dX5_digest_141 : decode cX5_digest 141 = .ok (.invokevirtual 183, 3) := by decide +kernel
theorem dX5_digest_144 : decode cX5_digest 144 = .ok (.iastore, 1) := by decide +kernel
theorem dX5_digest_145 : decode cX5_digest 145 = .ok (.dup, 1) := by decide +kernel
theorem dX5_digest_146 : decode cX5_digest 146 = .ok (.iconst 3, 1) := by decide +kernel
theorem dX5_digest_147 : decode cX5_digest 147 = .ok (.aload_n 0, 1) := by decide +kernel
theorem dX5_digest_148 : decode cX5_digest 148 = .ok (.iload 4, 2) := by decide +kernel
theorem dX5_digest_150 : decode cX5_digest 150 = .ok (.invokevirtual 108, 3) := by decide +kernel
theorem dX5_digest_153 : decode cX5_digest 153 = .ok (.iastore, 1) := by decide +kernel
theorem dX5_digest_154 : decode cX5_digest 154 = .ok (.dup, 1) := by decide +kernel
theorem dX5_digest_155 : decode cX5_digest 155 = .ok (.iconst 4, 1) := by decide +kernel
theorem dX5_digest_156 : decode cX5_digest 156 = .ok (.aload_n 0, 1) := by decide +kernel
theorem dX5_digest_157 : decode cX5_digest 157 = .ok (.iconst 0, 1) := by decide +kernel
theorem dX5_digest_158 : decode cX5_digest 158 = .ok (.iload 4, 2) := by decide +kernel
theorem dX5_digest_160 : decode cX5_digest 160 = .ok (.invokevirtual 196, 3) := by decide +kernel
theorem dX5_digest_163 : decode cX5_digest 163 = .ok (.iastore, 1) := by decide +kernel
theorem dX5_digest_164 : decode cX5_digest 164 = .ok (.astore 5, 2) := by decide +kernel
theorem dX5_digest_166 : decode cX5_digest 166 = .ok (.aload 5, 2) := by decide +kernel
theorem dX5_digest_168 : decode cX5_digest 168 = .ok (.astore 6, 2) := by decide +kernel
theorem dX5_digest_170 : decode cX5_digest 170 = .ok (.aload 6, 2) := by decide +kernel
theorem dX5_digest_172 : decode cX5_digest 172 = .ok (.arraylength, 1) := by decide +kernel
theorem dX5_digest_173 : decode cX5_digest 173 = .ok (.istore 7, 2) := by decide +kernel
theorem dX5_digest_175 : decode cX5_digest 175 = .ok (.iconst 0, 1) := by decide +kernel
theorem dX5_digest_176 : decode cX5_digest 176 = .ok (.istore 8, 2) := by decide +kernel
theorem dX5_digest_178 : decode cX5_digest 178 = .ok (.iload 8, 2) := by decide +kernel
theorem dX5_digest_180 : decode cX5_digest 180 = .ok (.iload 7, 2) := by decide +kernel
theorem dX5_digest_182 : decode cX5_digest 182 = .ok (.if_icmp .ge 26, 3) := by decide +kernel
theorem dX5_digest_185 : decode cX5_digest 185 = .ok (.aload 6, 2) := by decide +kernel
theorem dX5_digest_187 : decode cX5_digest 187 = .ok (.iload 8, 2) := by decide +kernel
theorem dX5_digest_189 : decode cX5_digest 189 = .ok (.iaload, 1) := by decide +kernel
theorem dX5_digest_190 : decode cX5_digest 190 = .ok (.istore 9, 2) := by decide +kernel
theorem dX5_digest_192 : decode cX5_digest 192 = .ok (.lload_n 2, 1) := by decide +kernel
theorem dX5_digest_193 : decode cX5_digest 193 = .ok (.ldc2_w 241, 3) := by decide +kernel
theorem dX5_digest_196 : decode cX5_digest 196 = .ok (.lmul, 1) := by decide +kernel
theorem dX5_digest_197 : decode cX5_digest 197 = .ok (.iload 9, 2) := by decide +kernel
theorem dX5_digest_199 : decode cX5_digest 199 = .ok (.i2l, 1) := by decide +kernel
theorem dX5_digest_200 : decode cX5_digest 200 = .ok (.ladd, 1) := by decide +kernel
theorem dX5_digest_201 : decode cX5_digest 201 = .ok (.lstore_n 2, 1) := by decide +kernel
theorem dX5_digest_202 : decode cX5_digest 202 = .ok (.iinc 8 1, 3) := by decide +kernel
theorem dX5_digest_205 : decode cX5_digest 205 = .ok (.goto (-27), 3) := by decide +kernel
theorem dX5_digest_208 : decode cX5_digest 208 = .ok (.iinc 4 1, 3) := by decide +kernel
theorem dX5_digest_211 : decode cX5_digest 211 = .ok (.goto (-107), 3) := by decide +kernel
theorem dX5_digest_214 : decode cX5_digest 214 = .ok (.iconst 0, 1) := by decide +kernel
theorem dX5_digest_215 : decode cX5_digest 215 = .ok (.istore 4, 2) := by decide +kernel
theorem dX5_digest_217 : decode cX5_digest 217 = .ok (.iload 4, 2) := by decide +kernel
theorem dX5_digest_219 : decode cX5_digest 219 = .ok (.aload_n 0, 1) := by decide +kernel
theorem dX5_digest_220 : decode cX5_digest 220 = .ok (.getfield 67, 3) := by decide +kernel
theorem dX5_digest_223 : decode cX5_digest 223 = .ok (.iconst 1, 1) := by decide +kernel
theorem dX5_digest_224 : decode cX5_digest 224 = .ok (.isub, 1) := by decide +kernel
theorem dX5_digest_225 : decode cX5_digest 225 = .ok (.if_icmp .ge 45, 3) := by decide +kernel
theorem dX5_digest_228 : decode cX5_digest 228 = .ok (.lload_n 2, 1) := by decide +kernel
theorem dX5_digest_229 : decode cX5_digest 229 = .ok (.ldc2_w 241, 3) := by decide +kernel
theorem dX5_digest_232 : decode cX5_digest 232 = .ok (.lmul, 1) := by decide +kernel
theorem dX5_digest_233 : decode cX5_digest 233 = .ok (.aload_n 0, 1) := by decide +kernel
theorem dX5_digest_234 : decode cX5_digest 234 = .ok (.getfield 16, 3) := by decide +kernel
theorem dX5_digest_237 : decode cX5_digest 237 = .ok (.iload 4, 2) := by decide +kernel
theorem dX5_digest_239 : decode cX5_digest 239 = .ok (.iaload, 1) := by decide +kernel
theorem dX5_digest_240 : decode cX5_digest 240 = .ok (.i2l, 1) := by decide +kernel
theorem dX5_digest_241 : decode cX5_digest 241 = .ok (.ladd, 1) := by decide +kernel
theorem dX5_digest_242 : decode cX5_digest 242 = .ok (.ldc2_w 241, 3) := by decide +kernel
theorem dX5_digest_245 : decode cX5_digest 245 = .ok (.lmul, 1) := by decide +kernel
theorem dX5_digest_246 : decode cX5_digest 246 = .ok (.aload_n 0, 1) := by decide +kernel
theorem dX5_digest_247 : decode cX5_digest 247 = .ok (.getfield 19, 3) := by decide +kernel
theorem dX5_digest_250 : decode cX5_digest 250 = .ok (.iload 4, 2) := by decide +kernel
theorem dX5_digest_252 : decode cX5_digest 252 = .ok (.baload, 1) := by decide +kernel
theorem dX5_digest_253 : decode cX5_digest 253 = .ok (.ifCond .eq 7, 3) := by decide +kernel
theorem dX5_digest_256 : decode cX5_digest 256 = .ok (.iconst 1, 1) := by decide +kernel
theorem dX5_digest_257 : decode cX5_digest 257 = .ok (.goto 4, 3) := by decide +kernel
theorem dX5_digest_260 : decode cX5_digest 260 = .ok (.iconst 0, 1) := by decide +kernel
theorem dX5_digest_261 : decode cX5_digest 261 = .ok (.i2l, 1) := by decide +kernel
theorem dX5_digest_262 : decode cX5_digest 262 = .ok (.ladd, 1) := by decide +kernel
theorem dX5_digest_263 : decode cX5_digest 263 = .ok (.lstore_n 2, 1) := by decide +kernel
theorem dX5_digest_264 : decode cX5_digest 264 = .ok (.iinc 4 1, 3) := by decide +kernel
theorem dX5_digest_267 : decode cX5_digest 267 = .ok (.goto (-50), 3) := by decide +kernel
theorem dX5_digest_270 : decode cX5_digest 270 = .ok (.iconst 0, 1) := by decide +kernel
theorem dX5_digest_271 : decode cX5_digest 271 = .ok (.istore 4, 2) := by decide +kernel
theorem dX5_digest_273 : decode cX5_digest 273 = .ok (.iload 4, 2) := by decide +kernel
theorem dX5_digest_275 : decode cX5_digest 275 = .ok (.aload_n 0, 1) := by decide +kernel
theorem dX5_digest_276 : decode cX5_digest 276 = .ok (.getfield 74, 3) := by decide +kernel
theorem dX5_digest_279 : decode cX5_digest 279 = .ok (.if_icmp .ge 32, 3) := by decide +kernel
theorem dX5_digest_282 : decode cX5_digest 282 = .ok (.lload_n 2, 1) := by decide +kernel
theorem dX5_digest_283 : decode cX5_digest 283 = .ok (.ldc2_w 241, 3) := by decide +kernel
theorem dX5_digest_286 : decode cX5_digest 286 = .ok (.lmul, 1) := by decide +kernel
theorem dX5_digest_287 : decode cX5_digest 287 = .ok (.aload_n 0, 1) := by decide +kernel
theorem dX5_digest_288 : decode cX5_digest 288 = .ok (.getfield 35, 3) := by decide +kernel
theorem dX5_digest_291 : decode cX5_digest 291 = .ok (.iload 4, 2) := by decide +kernel
theorem dX5_digest_293 : decode cX5_digest 293 = .ok (.baload, 1) := by decide +kernel
theorem dX5_digest_294 : decode cX5_digest 294 = .ok (.ifCond .eq 7, 3) := by decide +kernel
theorem dX5_digest_297 : decode cX5_digest 297 = .ok (.iconst 1, 1) := by decide +kernel
theorem dX5_digest_298 : decode cX5_digest 298 = .ok (.goto 4, 3) := by decide +kernel
theorem dX5_digest_301 : decode cX5_digest 301 = .ok (.iconst 0, 1) := by decide +kernel
theorem dX5_digest_302 : decode cX5_digest 302 = .ok (.i2l, 1) := by decide +kernel
theorem dX5_digest_303 : decode cX5_digest 303 = .ok (.ladd, 1) := by decide +kernel
theorem dX5_digest_304 : decode cX5_digest 304 = .ok (.lstore_n 2, 1) := by decide +kernel
theorem dX5_digest_305 : decode cX5_digest 305 = .ok (.iinc 4 1, 3) := by decide +kernel
theorem dX5_digest_308 : decode cX5_digest 308 = .ok (.goto (-35), 3) := by decide +kernel
theorem dX5_digest_311 : decode cX5_digest 311 = .ok (.iconst 0, 1) := by decide +kernel
theorem dX5_digest_312 : decode cX5_digest 312 = .ok (.istore 4, 2) := by decide +kernel
theorem dX5_digest_314 : decode cX5_digest 314 = .ok (.iload 4, 2) := by decide +kernel
theorem dX5_digest_316 : decode cX5_digest 316 = .ok (.aload_n 0, 1) := by decide +kernel
theorem dX5_digest_317 : decode cX5_digest 317 = .ok (.getfield 77, 3) := by decide +kernel
theorem dX5_digest_320 : decode cX5_digest 320 = .ok (.if_icmp .ge 240, 3) := by decide +kernel
theorem dX5_digest_323 : decode cX5_digest 323 = .ok (.bipush 9, 2) := by decide +kernel
theorem dX5_digest_325 : decode cX5_digest 325 = .ok (.newarray .int, 2) := by decide +kernel
theorem dX5_digest_327 : decode cX5_digest 327 = .ok (.dup, 1) := by decide +kernel
theorem dX5_digest_328 : decode cX5_digest 328 = .ok (.iconst 0, 1) := by decide +kernel
theorem dX5_digest_329 : decode cX5_digest 329 = .ok (.aload_n 0, 1) := by decide +kernel
theorem dX5_digest_330 : decode cX5_digest 330 = .ok (.getfield 38, 3) := by decide +kernel
theorem dX5_digest_333 : decode cX5_digest 333 = .ok (.iload 4, 2) := by decide +kernel
theorem dX5_digest_335 : decode cX5_digest 335 = .ok (.iaload, 1) := by decide +kernel
theorem dX5_digest_336 : decode cX5_digest 336 = .ok (.iastore, 1) := by decide +kernel
theorem dX5_digest_337 : decode cX5_digest 337 = .ok (.dup, 1) := by decide +kernel
theorem dX5_digest_338 : decode cX5_digest 338 = .ok (.iconst 1, 1) := by decide +kernel
theorem dX5_digest_339 : decode cX5_digest 339 = .ok (.aload_n 0, 1) := by decide +kernel
theorem dX5_digest_340 : decode cX5_digest 340 = .ok (.getfield 41, 3) := by decide +kernel
theorem dX5_digest_343 : decode cX5_digest 343 = .ok (.iload 4, 2) := by decide +kernel
theorem dX5_digest_345 : decode cX5_digest 345 = .ok (.iaload, 1) := by decide +kernel
theorem dX5_digest_346 : decode cX5_digest 346 = .ok (.iastore, 1) := by decide +kernel
theorem dX5_digest_347 : decode cX5_digest 347 = .ok (.dup, 1) := by decide +kernel
theorem dX5_digest_348 : decode cX5_digest 348 = .ok (.iconst 2, 1) := by decide +kernel
theorem dX5_digest_349 : decode cX5_digest 349 = .ok (.aload_n 0, 1) := by decide +kernel
theorem dX5_digest_350 : decode cX5_digest 350 = .ok (.iload 4, 2) := by decide +kernel
theorem dX5_digest_352 : decode cX5_digest 352 = .ok (.invokevirtual 190, 3) := by decide +kernel
theorem dX5_digest_355 : decode cX5_digest 355 = .ok (.iastore, 1) := by decide +kernel
theorem dX5_digest_356 : decode cX5_digest 356 = .ok (.dup, 1) := by decide +kernel
theorem dX5_digest_357 : decode cX5_digest 357 = .ok (.iconst 3, 1) := by decide +kernel
theorem dX5_digest_358 : decode cX5_digest 358 = .ok (.aload_n 0, 1) := by decide +kernel
theorem dX5_digest_359 : decode cX5_digest 359 = .ok (.iload 4, 2) := by decide +kernel
theorem dX5_digest_361 : decode cX5_digest 361 = .ok (.invokevirtual 136, 3) := by decide +kernel
theorem dX5_digest_364 : decode cX5_digest 364 = .ok (.iastore, 1) := by decide +kernel
theorem dX5_digest_365 : decode cX5_digest 365 = .ok (.dup, 1) := by decide +kernel
theorem dX5_digest_366 : decode cX5_digest 366 = .ok (.iconst 4, 1) := by decide +kernel
theorem dX5_digest_367 : decode cX5_digest 367 = .ok (.aload_n 0, 1) := by decide +kernel
theorem dX5_digest_368 : decode cX5_digest 368 = .ok (.iload 4, 2) := by decide +kernel
theorem dX5_digest_370 : decode cX5_digest 370 = .ok (.invokevirtual 193, 3) := by decide +kernel
theorem dX5_digest_373 : decode cX5_digest 373 = .ok (.iastore, 1) := by decide +kernel
theorem dX5_digest_374 : decode cX5_digest 374 = .ok (.dup, 1) := by decide +kernel
theorem dX5_digest_375 : decode cX5_digest 375 = .ok (.iconst 5, 1) := by decide +kernel
theorem dX5_digest_376 : decode cX5_digest 376 = .ok (.aload_n 0, 1) := by decide +kernel
theorem dX5_digest_377 : decode cX5_digest 377 = .ok (.iload 4, 2) := by decide +kernel
theorem dX5_digest_379 : decode cX5_digest 379 = .ok (.invokevirtual 227, 3) := by decide +kernel
theorem dX5_digest_382 : decode cX5_digest 382 = .ok (.iastore, 1) := by decide +kernel
theorem dX5_digest_383 : decode cX5_digest 383 = .ok (.dup, 1) := by decide +kernel
theorem dX5_digest_384 : decode cX5_digest 384 = .ok (.bipush 6, 2) := by decide +kernel
theorem dX5_digest_386 : decode cX5_digest 386 = .ok (.aload_n 0, 1) := by decide +kernel
theorem dX5_digest_387 : decode cX5_digest 387 = .ok (.iload 4, 2) := by decide +kernel
theorem dX5_digest_389 : decode cX5_digest 389 = .ok (.invokevirtual 221, 3) := by decide +kernel
theorem dX5_digest_392 : decode cX5_digest 392 = .ok (.iastore, 1) := by decide +kernel
theorem dX5_digest_393 : decode cX5_digest 393 = .ok (.dup, 1) := by decide +kernel
theorem dX5_digest_394 : decode cX5_digest 394 = .ok (.bipush 7, 2) := by decide +kernel
theorem dX5_digest_396 : decode cX5_digest 396 = .ok (.aload_n 0, 1) := by decide +kernel
theorem dX5_digest_397 : decode cX5_digest 397 = .ok (.iload 4, 2) := by decide +kernel
theorem dX5_digest_399 : decode cX5_digest 399 = .ok (.invokevirtual 233, 3) := by decide +kernel
theorem dX5_digest_402 : decode cX5_digest 402 = .ok (.iastore, 1) := by decide +kernel
theorem dX5_digest_403 : decode cX5_digest 403 = .ok (.dup, 1) := by decide +kernel
theorem dX5_digest_404 : decode cX5_digest 404 = .ok (.bipush 8, 2) := by decide +kernel
theorem dX5_digest_406 : decode cX5_digest 406 = .ok (.aload_n 0, 1) := by decide +kernel
theorem dX5_digest_407 : decode cX5_digest 407 = .ok (.iload 4, 2) := by decide +kernel
theorem dX5_digest_409 : decode cX5_digest 409 = .ok (.invokevirtual 236, 3) := by decide +kernel
theorem dX5_digest_412 : decode cX5_digest 412 = .ok (.iastore, 1) := by decide +kernel
theorem dX5_digest_413 : decode cX5_digest 413 = .ok (.astore 5, 2) := by decide +kernel
theorem dX5_digest_415 : decode cX5_digest 415 = .ok (.aload 5, 2) := by decide +kernel
theorem dX5_digest_417 : decode cX5_digest 417 = .ok (.astore 6, 2) := by decide +kernel
theorem dX5_digest_419 : decode cX5_digest 419 = .ok (.aload 6, 2) := by decide +kernel
theorem dX5_digest_421 : decode cX5_digest 421 = .ok (.arraylength, 1) := by decide +kernel
theorem dX5_digest_422 : decode cX5_digest 422 = .ok (.istore 7, 2) := by decide +kernel
theorem dX5_digest_424 : decode cX5_digest 424 = .ok (.iconst 0, 1) := by decide +kernel
theorem dX5_digest_425 : decode cX5_digest 425 = .ok (.istore 8, 2) := by decide +kernel
theorem dX5_digest_427 : decode cX5_digest 427 = .ok (.iload 8, 2) := by decide +kernel
theorem dX5_digest_429 : decode cX5_digest 429 = .ok (.iload 7, 2) := by decide +kernel
theorem dX5_digest_431 : decode cX5_digest 431 = .ok (.if_icmp .ge 26, 3) := by decide +kernel
theorem dX5_digest_434 : decode cX5_digest 434 = .ok (.aload 6, 2) := by decide +kernel
theorem dX5_digest_436 : decode cX5_digest 436 = .ok (.iload 8, 2) := by decide +kernel
theorem dX5_digest_438 : decode cX5_digest 438 = .ok (.iaload, 1) := by decide +kernel
theorem dX5_digest_439 : decode cX5_digest 439 = .ok (.istore 9, 2) := by decide +kernel
theorem dX5_digest_441 : decode cX5_digest 441 = .ok (.lload_n 2, 1) := by decide +kernel
theorem dX5_digest_442 : decode cX5_digest 442 = .ok (.ldc2_w 241, 3) := by decide +kernel
theorem dX5_digest_445 : decode cX5_digest 445 = .ok (.lmul, 1) := by decide +kernel
theorem dX5_digest_446 : decode cX5_digest 446 = .ok (.iload 9, 2) := by decide +kernel
theorem dX5_digest_448 : decode cX5_digest 448 = .ok (.i2l, 1) := by decide +kernel
theorem dX5_digest_449 : decode cX5_digest 449 = .ok (.ladd, 1) := by decide +kernel
theorem dX5_digest_450 : decode cX5_digest 450 = .ok (.lstore_n 2, 1) := by decide +kernel
theorem dX5_digest_451 : decode cX5_digest 451 = .ok (.iinc 8 1, 3) := by decide +kernel
theorem dX5_digest_454 : decode cX5_digest 454 = .ok (.goto (-27), 3) := by decide +kernel
theorem dX5_digest_457 : decode cX5_digest 457 = .ok (.iconst 0, 1) := by decide +kernel
theorem dX5_digest_458 : decode cX5_digest 458 = .ok (.istore 6, 2) := by decide +kernel
theorem dX5_digest_460 : decode cX5_digest 460 = .ok (.iload 6, 2) := by decide +kernel
theorem dX5_digest_462 : decode cX5_digest 462 = .ok (.aload_n 0, 1) := by decide +kernel
theorem dX5_digest_463 : decode cX5_digest 463 = .ok (.getfield 67, 3) := by decide +kernel
theorem dX5_digest_466 : decode cX5_digest 466 = .ok (.if_icmp .ge 88, 3) := by decide +kernel
theorem dX5_digest_469 : decode cX5_digest 469 = .ok (.bipush 12, 2) := by decide +kernel
theorem dX5_digest_471 : decode cX5_digest 471 = .ok (.iload 4, 2) := by decide +kernel
theorem dX5_digest_473 : decode cX5_digest 473 = .ok (.imul, 1) := by decide +kernel
theorem dX5_digest_474 : decode cX5_digest 474 = .ok (.iload 6, 2) := by decide +kernel
theorem dX5_digest_476 : decode cX5_digest 476 = .ok (.iadd, 1) := by decide +kernel
theorem dX5_digest_477 : decode cX5_digest 477 = .ok (.istore 7, 2) := by decide +kernel
theorem dX5_digest_479 : decode cX5_digest 479 = .ok (.lload_n 2, 1) := by decide +kernel
theorem dX5_digest_480 : decode cX5_digest 480 = .ok (.ldc2_w 241, 3) := by decide +kernel
theorem dX5_digest_483 : decode cX5_digest 483 = .ok (.lmul, 1) := by decide +kernel
theorem dX5_digest_484 : decode cX5_digest 484 = .ok (.aload_n 0, 1) := by decide +kernel
theorem dX5_digest_485 : decode cX5_digest 485 = .ok (.getfield 44, 3) := by decide +kernel
theorem dX5_digest_488 : decode cX5_digest 488 = .ok (.iconst 0, 1) := by decide +kernel
theorem dX5_digest_489 : decode cX5_digest 489 = .ok (.iload 7, 2) := by decide +kernel
theorem dX5_digest_491 : decode cX5_digest 491 = .ok (.iadd, 1) := by decide +kernel
theorem dX5_digest_492 : decode cX5_digest 492 = .ok (.iaload, 1) := by decide +kernel
theorem dX5_digest_493 : decode cX5_digest 493 = .ok (.i2l, 1) := by decide +kernel
theorem dX5_digest_494 : decode cX5_digest 494 = .ok (.ladd, 1) := by decide +kernel
theorem dX5_digest_495 : decode cX5_digest 495 = .ok (.ldc2_w 241, 3) := by decide +kernel
theorem dX5_digest_498 : decode cX5_digest 498 = .ok (.lmul, 1) := by decide +kernel
theorem dX5_digest_499 : decode cX5_digest 499 = .ok (.aload_n 0, 1) := by decide +kernel
theorem dX5_digest_500 : decode cX5_digest 500 = .ok (.getfield 44, 3) := by decide +kernel
theorem dX5_digest_503 : decode cX5_digest 503 = .ok (.bipush 96, 2) := by decide +kernel
theorem dX5_digest_505 : decode cX5_digest 505 = .ok (.iload 7, 2) := by decide +kernel
theorem dX5_digest_507 : decode cX5_digest 507 = .ok (.iadd, 1) := by decide +kernel
theorem dX5_digest_508 : decode cX5_digest 508 = .ok (.iaload, 1) := by decide +kernel
theorem dX5_digest_509 : decode cX5_digest 509 = .ok (.i2l, 1) := by decide +kernel
theorem dX5_digest_510 : decode cX5_digest 510 = .ok (.ladd, 1) := by decide +kernel
theorem dX5_digest_511 : decode cX5_digest 511 = .ok (.ldc2_w 241, 3) := by decide +kernel
theorem dX5_digest_514 : decode cX5_digest 514 = .ok (.lmul, 1) := by decide +kernel
theorem dX5_digest_515 : decode cX5_digest 515 = .ok (.aload_n 0, 1) := by decide +kernel
theorem dX5_digest_516 : decode cX5_digest 516 = .ok (.getfield 44, 3) := by decide +kernel
theorem dX5_digest_519 : decode cX5_digest 519 = .ok (.sipush 288, 3) := by decide +kernel
theorem dX5_digest_522 : decode cX5_digest 522 = .ok (.iload 7, 2) := by decide +kernel
theorem dX5_digest_524 : decode cX5_digest 524 = .ok (.iadd, 1) := by decide +kernel
theorem dX5_digest_525 : decode cX5_digest 525 = .ok (.iaload, 1) := by decide +kernel
theorem dX5_digest_526 : decode cX5_digest 526 = .ok (.i2l, 1) := by decide +kernel
theorem dX5_digest_527 : decode cX5_digest 527 = .ok (.ladd, 1) := by decide +kernel
theorem dX5_digest_528 : decode cX5_digest 528 = .ok (.lstore_n 2, 1) := by decide +kernel
theorem dX5_digest_529 : decode cX5_digest 529 = .ok (.lload_n 2, 1) := by decide +kernel
theorem dX5_digest_530 : decode cX5_digest 530 = .ok (.ldc2_w 241, 3) := by decide +kernel
theorem dX5_digest_533 : decode cX5_digest 533 = .ok (.lmul, 1) := by decide +kernel
theorem dX5_digest_534 : decode cX5_digest 534 = .ok (.aload_n 0, 1) := by decide +kernel
theorem dX5_digest_535 : decode cX5_digest 535 = .ok (.getfield 44, 3) := by decide +kernel
theorem dX5_digest_538 : decode cX5_digest 538 = .ok (.sipush 192, 3) := by decide +kernel
theorem dX5_digest_541 : decode cX5_digest 541 = .ok (.iload 7, 2) := by decide +kernel
theorem dX5_digest_543 : decode cX5_digest 543 = .ok (.iadd, 1) := by decide +kernel
theorem dX5_digest_544 : decode cX5_digest 544 = .ok (.iaload, 1) := by decide +kernel
theorem dX5_digest_545 : decode cX5_digest 545 = .ok (.i2l, 1) := by decide +kernel
theorem dX5_digest_546 : decode cX5_digest 546 = .ok (.ladd, 1) := by decide +kernel
theorem dX5_digest_547 : decode cX5_digest 547 = .ok (.lstore_n 2, 1) := by decide +kernel
theorem dX5_digest_548 : decode cX5_digest 548 = .ok (.iinc 6 1, 3) := by decide +kernel
theorem dX5_digest_551 : decode cX5_digest 551 = .ok (.goto (-91), 3) := by decide +kernel
theorem dX5_digest_554 : decode cX5_digest 554 = .ok (.iinc 4 1, 3) := by decide +kernel
theorem dX5_digest_557 : decode cX5_digest 557 = .ok (.goto (-243), 3) := by decide +kernel
theorem dX5_digest_560 : decode cX5_digest 560 = .ok (.lload_n 2, 1) := by decide +kernel
theorem dX5_digest_561 : decode cX5_digest 561 = .ok (.lreturn, 1) := by decide +kernel
theorem dJ9_max_7cf53_0 : decode cJ9_max_7cf53 0 = .ok (.iload_n 0, 1) := by decide +kernel
theorem dJ9_max_7cf53_1 : decode cJ9_max_7cf53 1 = .ok (.iload_n 1, 1) := by decide +kernel
theorem dJ9_max_7cf53_2 : decode cJ9_max_7cf53 2 = .ok (.if_icmp .lt 7, 3) := by decide +kernel
theorem dJ9_max_7cf53_5 : decode cJ9_max_7cf53 5 = .ok (.iload_n 0, 1) := by decide +kernel
theorem dJ9_max_7cf53_6 : decode cJ9_max_7cf53 6 = .ok (.goto 4, 3) := by decide +kernel
theorem dJ9_max_7cf53_9 : decode cJ9_max_7cf53 9 = .ok (.iload_n 1, 1) := by decide +kernel
theorem dJ9_max_7cf53_10 : decode cJ9_max_7cf53 10 = .ok (.ireturn, 1) := by decide +kernel
theorem dJ9_min_7cf53_0 : decode cJ9_min_7cf53 0 = .ok (.iload_n 0, 1) := by decide +kernel
theorem dJ9_min_7cf53_1 : decode cJ9_min_7cf53 1 = .ok (.iload_n 1, 1) := by decide +kernel
theorem dJ9_min_7cf53_2 : decode cJ9_min_7cf53 2 = .ok (.if_icmp .gt 7, 3) := by decide +kernel
theorem dJ9_min_7cf53_5 : decode cJ9_min_7cf53 5 = .ok (.iload_n 0, 1) := by decide +kernel
theorem dJ9_min_7cf53_6 : decode cJ9_min_7cf53 6 = .ok (.goto 4, 3) := by decide +kernel
theorem dJ9_min_7cf53_9 : decode cJ9_min_7cf53 9 = .ok (.iload_n 1, 1) := by decide +kernel
theorem dJ9_min_7cf53_10 : decode cJ9_min_7cf53 10 = .ok (.ireturn, 1) := by decide +kernel
theorem dL_build_0 : decode cL_build 0 = .ok (.aload_n 2, 1) := by decide +kernel
theorem dL_build_1 : decode cL_build 1 = .ok (.iconst 0, 1) := by decide +kernel
theorem dL_build_2 : decode cL_build 2 = .ok (.aload_n 0, 1) := by decide +kernel
theorem dL_build_3 : decode cL_build 3 = .ok (.iload_n 1, 1) := by decide +kernel
theorem dL_build_4 : decode cL_build 4 = .ok (.invokevirtual 7, 3) := by decide +kernel
theorem dL_build_7 : decode cL_build 7 = .ok (.i2l, 1) := by decide +kernel
theorem dL_build_8 : decode cL_build 8 = .ok (.lastore, 1) := by decide +kernel
theorem dL_build_9 : decode cL_build 9 = .ok (.goto 6, 3) := by decide +kernel
theorem dL_build_12 : decode cL_build 12 = .ok (.astore_n 3, 1) := by decide +kernel
theorem dL_build_13 : decode cL_build 13 = .ok (.iconst 1, 1) := by decide +kernel
theorem dL_build_14 : decode cL_build 14 = .ok (.ireturn, 1) := by decide +kernel
theorem dL_build_15 : decode cL_build 15 = .ok (.iconst 0, 1) := by decide +kernel
theorem dL_build_16 : decode cL_build 16 = .ok (.ireturn, 1) := by decide +kernel
theorem dL_setStay_0 : decode cL_setStay 0 = .ok (.aload_n 3, 1) := by decide +kernel
theorem dL_setStay_1 : decode cL_setStay 1 = .ok (.iconst 0, 1) := by decide +kernel
theorem dL_setStay_2 : decode cL_setStay 2 = .ok (.aload_n 0, 1) := by decide +kernel
theorem dL_setStay_3 : decode cL_setStay 3 = .ok (.iload_n 1, 1) := by decide +kernel
theorem dL_setStay_4 : decode cL_setStay 4 = .ok (.iload_n 2, 1) := by decide +kernel
theorem dL_setStay_5 : decode cL_setStay 5 = .ok (.invokevirtual 15, 3) := by decide +kernel
theorem dL_setStay_8 : decode cL_setStay 8 = .ok (.i2l, 1) := by decide +kernel
theorem dL_setStay_9 : decode cL_setStay 9 = .ok (.lastore, 1) := by decide +kernel
theorem dL_setStay_10 : decode cL_setStay 10 = .ok (.goto 11, 3) := by decide +kernel
theorem dL_setStay_13 : decode cL_setStay 13 = .ok (.astore 4, 2) := by decide +kernel
theorem dL_setStay_15 : decode cL_setStay 15 = .ok (.iconst 1, 1) := by decide +kernel
theorem dL_setStay_16 : decode cL_setStay 16 = .ok (.ireturn, 1) := by decide +kernel
theorem dL_setStay_17 : decode cL_setStay 17 = .ok (.astore 4, 2) := by decide +kernel
theorem dL_setStay_19 : decode cL_setStay 19 = .ok (.iconst 2, 1) := by decide +kernel
theorem dL_setStay_20 : decode cL_setStay 20 = .ok (.ireturn, 1) := by decide +kernel
theorem dL_setStay_21 : decode cL_setStay 21 = .ok (.iconst 0, 1) := by decide +kernel
theorem dL_setStay_22 : decode cL_setStay 22 = .ok (.ireturn, 1) := by decide +kernel
theorem dL_setHeads_0 : decode cL_setHeads 0 = .ok (.aload_n 3, 1) := by decide +kernel
theorem dL_setHeads_1 : decode cL_setHeads 1 = .ok (.iconst 0, 1) := by decide +kernel
theorem dL_setHeads_2 : decode cL_setHeads 2 = .ok (.aload_n 0, 1) := by decide +kernel
theorem dL_setHeads_3 : decode cL_setHeads 3 = .ok (.iload_n 1, 1) := by decide +kernel
theorem dL_setHeads_4 : decode cL_setHeads 4 = .ok (.iload_n 2, 1) := by decide +kernel
theorem dL_setHeads_5 : decode cL_setHeads 5 = .ok (.invokevirtual 21, 3) := by decide +kernel
theorem dL_setHeads_8 : decode cL_setHeads 8 = .ok (.i2l, 1) := by decide +kernel
theorem dL_setHeads_9 : decode cL_setHeads 9 = .ok (.lastore, 1) := by decide +kernel
theorem dL_setHeads_10 : decode cL_setHeads 10 = .ok (.goto 11, 3) := by decide +kernel
theorem dL_setHeads_13 : decode cL_setHeads 13 = .ok (.astore 4, 2) := by decide +kernel
theorem dL_setHeads_15 : decode cL_setHeads 15 = .ok (.iconst 1, 1) := by decide +kernel
theorem dL_setHeads_16 : decode cL_setHeads 16 = .ok (.ireturn, 1) := by decide +kernel
theorem dL_setHeads_17 : decode cL_setHeads 17 = .ok (.astore 4, 2) := by decide +kernel
theorem dL_setHeads_19 : decode cL_setHeads 19 = .ok (.iconst 2, 1) := by decide +kernel
theorem dL_setHeads_20 : decode cL_setHeads 20 = .ok (.ireturn, 1) := by decide +kernel
theorem dL_setHeads_21 : decode cL_setHeads 21 = .ok (.iconst 0, 1) := by decide +kernel
theorem dL_setHeads_22 : decode cL_setHeads 22 = .ok (.ireturn, 1) := by decide +kernel
theorem dL_setStairs_0 : decode cL_setStairs 0 = .ok (.aload_n 3, 1) := by decide +kernel
theorem dL_setStairs_1 : decode cL_setStairs 1 = .ok (.iconst 0, 1) := by decide +kernel
theorem dL_setStairs_2 : decode cL_setStairs 2 = .ok (.aload_n 0, 1) := by decide +kernel
theorem dL_setStairs_3 : decode cL_setStairs 3 = .ok (.iload_n 1, 1) := by decide +kernel
theorem dL_setStairs_4 : decode cL_setStairs 4 = .ok (.iload_n 2, 1) := by decide +kernel
theorem dL_setStairs_5 : decode cL_setStairs 5 = .ok (.invokevirtual 24, 3) := by decide +kernel
theorem dL_setStairs_8 : decode cL_setStairs 8 = .ok (.i2l, 1) := by decide +kernel
theorem dL_setStairs_9 : decode cL_setStairs 9 = .ok (.lastore, 1) := by decide +kernel
theorem dL_setStairs_10 : decode cL_setStairs 10 = .ok (.goto 11, 3) := by decide +kernel
theorem dL_setStairs_13 : decode cL_setStairs 13 = .ok (.astore 4, 2) := by decide +kernel
theorem dL_setStairs_15 : decode cL_setStairs 15 = .ok (.iconst 1, 1) := by decide +kernel
theorem dL_setStairs_16 : decode cL_setStairs 16 = .ok (.ireturn, 1) := by decide +kernel
theorem dL_setStairs_17 : decode cL_setStairs 17 = .ok (.astore 4, 2) := by decide +kernel
theorem dL_setStairs_19 : decode cL_setStairs 19 = .ok (.iconst 2, 1) := by decide +kernel
theorem dL_setStairs_20 : decode cL_setStairs 20 = .ok (.ireturn, 1) := by decide +kernel
theorem dL_setStairs_21 : decode cL_setStairs 21 = .ok (.iconst 0, 1) := by decide +kernel
theorem dL_setStairs_22 : decode cL_setStairs 22 = .ok (.ireturn, 1) := by decide +kernel
theorem dL_turnStairs_0 : decode cL_turnStairs 0 = .ok (.aload_n 2, 1) := by decide +kernel
theorem dL_turnStairs_1 : decode cL_turnStairs 1 = .ok (.iconst 0, 1) := by decide +kernel
theorem dL_turnStairs_2 : decode cL_turnStairs 2 = .ok (.aload_n 0, 1) := by decide +kernel
theorem dL_turnStairs_3 : decode cL_turnStairs 3 = .ok (.iload_n 1, 1) := by decide +kernel
theorem dL_turnStairs_4 : decode cL_turnStairs 4 = .ok (.invokevirtual 27, 3) := by decide +kernel
theorem dL_turnStairs_7 : decode cL_turnStairs 7 = .ok (.ifCond .eq 7, 3) := by decide +kernel
theorem dL_turnStairs_10 : decode cL_turnStairs 10 = .ok (.lconst 1, 1) := by decide +kernel
theorem dL_turnStairs_11 : decode cL_turnStairs 11 = .ok (.goto 4, 3) := by decide +kernel
theorem dL_turnStairs_14 : decode cL_turnStairs 14 = .ok (.lconst 0, 1) := by decide +kernel
theorem dL_turnStairs_15 : decode cL_turnStairs 15 = .ok (.lastore, 1) := by decide +kernel
theorem dL_turnStairs_16 : decode cL_turnStairs 16 = .ok (.goto 6, 3) := by decide +kernel
theorem dL_turnStairs_19 : decode cL_turnStairs 19 = .ok (.astore_n 3, 1) := by decide +kernel
theorem dL_turnStairs_20 : decode cL_turnStairs 20 = .ok (.iconst 1, 1) := by decide +kernel
theorem dL_turnStairs_21 : decode cL_turnStairs 21 = .ok (.ireturn, 1) := by decide +kernel
theorem dL_turnStairs_22 : decode cL_turnStairs 22 = .ok (.iconst 0, 1) := by decide +kernel
theorem dL_turnStairs_23 : decode cL_turnStairs 23 = .ok (.ireturn, 1) := by decide +kernel
theorem dL_addLift_0 : decode cL_addLift 0 = .ok (.aload 5, 2) := by decide +kernel
theorem dL_addLift_2 : decode cL_addLift 2 = .ok (.iconst 0, 1) := by decide +kernel
theorem dL_addLift_3 : decode cL_addLift 3 = .ok (.aload_n 0, 1) := by decide +kernel
theorem dL_addLift_4 : decode cL_addLift 4 = .ok (.iload_n 1, 1) := by decide +kernel
theorem dL_addLift_5 : decode cL_addLift 5 = .ok (.iload_n 2, 1) := by decide +kernel
theorem dL_addLift_6 : decode cL_addLift 6 = .ok (.iload_n 3, 1) := by decide +kernel
theorem dL_addLift_7 : decode cL_addLift 7 = .ok (.iload 4, 2) := by decide +kernel
theorem dL_addLift_9 : decode cL_addLift 9 = .ok (.invokevirtual 31, 3) := by decide +kernel
theorem dL_addLift_12 : decode cL_addLift 12 = .ok (.i2l, 1) := by decide +kernel
theorem dL_addLift_13 : decode cL_addLift 13 = .ok (.lastore, 1) := by decide +kernel
theorem dL_addLift_14 : decode cL_addLift 14 = .ok (.goto 15, 3) := by decide +kernel
theorem dL_addLift_17 : decode cL_addLift 17 = .ok (.astore 6, 2) := by decide +kernel
theorem dL_addLift_19 : decode cL_addLift 19 = .ok (.iconst 1, 1) := by decide +kernel
theorem dL_addLift_20 : decode cL_addLift 20 = .ok (.ireturn, 1) := by decide +kernel
theorem dL_addLift_21 : decode cL_addLift 21 = .ok (.astore 6, 2) := by decide +kernel
theorem dL_addLift_23 : decode cL_addLift 23 = .ok (.iconst 2, 1) := by decide +kernel
theorem dL_addLift_24 : decode cL_addLift 24 = .ok (.ireturn, 1) := by decide +kernel
theorem dL_addLift_25 : decode cL_addLift 25 = .ok (.astore 6, 2) := by decide +kernel
theorem dL_addLift_27 : decode cL_addLift 27 = .ok (.iconst 3, 1) := by decide +kernel
theorem dL_addLift_28 : decode cL_addLift 28 = .ok (.ireturn, 1) := by decide +kernel
theorem dL_addLift_29 : decode cL_addLift 29 = .ok (.iconst 0, 1) := by decide +kernel
theorem dL_addLift_30 : decode cL_addLift 30 = .ok (.ireturn, 1) := by decide +kernel
theorem dL_turnLift_0 : decode cL_turnLift 0 = .ok (.aload_n 2, 1) := by decide +kernel
theorem dL_turnLift_1 : decode cL_turnLift 1 = .ok (.iconst 0, 1) := by decide +kernel
theorem dL_turnLift_2 : decode cL_turnLift 2 = .ok (.aload_n 0, 1) := by decide +kernel
theorem dL_turnLift_3 : decode cL_turnLift 3 = .ok (.iload_n 1, 1) := by decide +kernel
theorem dL_turnLift_4 : decode cL_turnLift 4 = .ok (.invokevirtual 37, 3) := by decide +kernel
theorem dL_turnLift_7 : decode cL_turnLift 7 = .ok (.ifCond .eq 7, 3) := by decide +kernel
theorem dL_turnLift_10 : decode cL_turnLift 10 = .ok (.lconst 1, 1) := by decide +kernel
theorem dL_turnLift_11 : decode cL_turnLift 11 = .ok (.goto 4, 3) := by decide +kernel
theorem dL_turnLift_14 : decode cL_turnLift 14 = .ok (.lconst 0, 1) := by decide +kernel
theorem dL_turnLift_15 : decode cL_turnLift 15 = .ok (.lastore, 1) := by decide +kernel
theorem dL_turnLift_16 : decode cL_turnLift 16 = .ok (.goto 6, 3) := by decide +kernel
theorem dL_turnLift_19 : decode cL_turnLift 19 = .ok (.astore_n 3, 1) := by decide +kernel
theorem dL_turnLift_20 : decode cL_turnLift 20 = .ok (.iconst 1, 1) := by decide +kernel
theorem dL_turnLift_21 : decode cL_turnLift 21 = .ok (.ireturn, 1) := by decide +kernel
theorem dL_turnLift_22 : decode cL_turnLift 22 = .ok (.iconst 0, 1) := by decide +kernel
theorem dL_turnLift_23 : decode cL_turnLift 23 = .ok (.ireturn, 1) := by decide +kernel
theorem dL_startRumour_0 : decode cL_startRumour 0 = .ok (.aload_n 3, 1) := by decide +kernel
theorem dL_startRumour_1 : decode cL_startRumour 1 = .ok (.iconst 0, 1) := by decide +kernel
theorem dL_startRumour_2 : decode cL_startRumour 2 = .ok (.aload_n 0, 1) := by decide +kernel
theorem dL_startRumour_3 : decode cL_startRumour 3 = .ok (.iload_n 1, 1) := by decide +kernel
theorem dL_startRumour_4 : decode cL_startRumour 4 = .ok (.iload_n 2, 1) := by decide +kernel
theorem dL_startRumour_5 : decode cL_startRumour 5 = .ok (.invokevirtual 40, 3) := by decide +kernel
theorem dL_startRumour_8 : decode cL_startRumour 8 = .ok (.i2l, 1) := by decide +kernel
theorem dL_startRumour_9 : decode cL_startRumour 9 = .ok (.lastore, 1) := by decide +kernel
theorem dL_startRumour_10 : decode cL_startRumour 10 = .ok (.goto 15, 3) := by decide +kernel
theorem dL_startRumour_13 : decode cL_startRumour 13 = .ok (.astore 4, 2) := by decide +kernel
theorem dL_startRumour_15 : decode cL_startRumour 15 = .ok (.iconst 1, 1) := by decide +kernel
theorem dL_startRumour_16 : decode cL_startRumour 16 = .ok (.ireturn, 1) := by decide +kernel
theorem dL_startRumour_17 : decode cL_startRumour 17 = .ok (.astore 4, 2) := by decide +kernel
theorem dL_startRumour_19 : decode cL_startRumour 19 = .ok (.iconst 2, 1) := by decide +kernel
theorem dL_startRumour_20 : decode cL_startRumour 20 = .ok (.ireturn, 1) := by decide +kernel
theorem dL_startRumour_21 : decode cL_startRumour 21 = .ok (.astore 4, 2) := by decide +kernel
theorem dL_startRumour_23 : decode cL_startRumour 23 = .ok (.iconst 3, 1) := by decide +kernel
theorem dL_startRumour_24 : decode cL_startRumour 24 = .ok (.ireturn, 1) := by decide +kernel
theorem dL_startRumour_25 : decode cL_startRumour 25 = .ok (.iconst 0, 1) := by decide +kernel
theorem dL_startRumour_26 : decode cL_startRumour 26 = .ok (.ireturn, 1) := by decide +kernel
theorem dL_startDenial_0 : decode cL_startDenial 0 = .ok (.aload_n 3, 1) := by decide +kernel
theorem dL_startDenial_1 : decode cL_startDenial 1 = .ok (.iconst 0, 1) := by decide +kernel
theorem dL_startDenial_2 : decode cL_startDenial 2 = .ok (.aload_n 0, 1) := by decide +kernel
theorem dL_startDenial_3 : decode cL_startDenial 3 = .ok (.iload_n 1, 1) := by decide +kernel
theorem dL_startDenial_4 : decode cL_startDenial 4 = .ok (.iload_n 2, 1) := by decide +kernel
theorem dL_startDenial_5 : decode cL_startDenial 5 = .ok (.invokevirtual 43, 3) := by decide +kernel
theorem dL_startDenial_8 : decode cL_startDenial 8 = .ok (.i2l, 1) := by decide +kernel
theorem dL_startDenial_9 : decode cL_startDenial 9 = .ok (.lastore, 1) := by decide +kernel
theorem dL_startDenial_10 : decode cL_startDenial 10 = .ok (.goto 11, 3) := by decide +kernel
theorem dL_startDenial_13 : decode cL_startDenial 13 = .ok (.astore 4, 2) := by decide +kernel
theorem dL_startDenial_15 : decode cL_startDenial 15 = .ok (.iconst 1, 1) := by decide +kernel
theorem dL_startDenial_16 : decode cL_startDenial 16 = .ok (.ireturn, 1) := by decide +kernel
theorem dL_startDenial_17 : decode cL_startDenial 17 = .ok (.astore 4, 2) := by decide +kernel
theorem dL_startDenial_19 : decode cL_startDenial 19 = .ok (.iconst 2, 1) := by decide +kernel
theorem dL_startDenial_20 : decode cL_startDenial 20 = .ok (.ireturn, 1) := by decide +kernel
theorem dL_startDenial_21 : decode cL_startDenial 21 = .ok (.iconst 0, 1) := by decide +kernel
theorem dL_startDenial_22 : decode cL_startDenial 22 = .ok (.ireturn, 1) := by decide +kernel
theorem dL_passHours_0 : decode cL_passHours 0 = .ok (.aload_n 2, 1) := by decide +kernel
theorem dL_passHours_1 : decode cL_passHours 1 = .ok (.iconst 0, 1) := by decide +kernel
theorem dL_passHours_2 : decode cL_passHours 2 = .ok (.aload_n 0, 1) := by decide +kernel
theorem dL_passHours_3 : decode cL_passHours 3 = .ok (.iload_n 1, 1) := by decide +kernel
theorem dL_passHours_4 : decode cL_passHours 4 = .ok (.invokevirtual 46, 3) := by decide +kernel
theorem dL_passHours_7 : decode cL_passHours 7 = .ok (.i2l, 1) := by decide +kernel
theorem dL_passHours_8 : decode cL_passHours 8 = .ok (.lastore, 1) := by decide +kernel
theorem dL_passHours_9 : decode cL_passHours 9 = .ok (.goto 6, 3) := by decide +kernel
theorem dL_passHours_12 : decode cL_passHours 12 = .ok (.astore_n 3, 1) := by decide +kernel
theorem dL_passHours_13 : decode cL_passHours 13 = .ok (.iconst 1, 1) := by decide +kernel
theorem dL_passHours_14 : decode cL_passHours 14 = .ok (.ireturn, 1) := by decide +kernel
theorem dL_passHours_15 : decode cL_passHours 15 = .ok (.iconst 0, 1) := by decide +kernel
theorem dL_passHours_16 : decode cL_passHours 16 = .ok (.ireturn, 1) := by decide +kernel
theorem dL_headsOf_0 : decode cL_headsOf 0 = .ok (.aload_n 2, 1) := by decide +kernel
theorem dL_headsOf_1 : decode cL_headsOf 1 = .ok (.iconst 0, 1) := by decide +kernel
theorem dL_headsOf_2 : decode cL_headsOf 2 = .ok (.aload_n 0, 1) := by decide +kernel
theorem dL_headsOf_3 : decode cL_headsOf 3 = .ok (.iload_n 1, 1) := by decide +kernel
theorem dL_headsOf_4 : decode cL_headsOf 4 = .ok (.invokevirtual 49, 3) := by decide +kernel
theorem dL_headsOf_7 : decode cL_headsOf 7 = .ok (.i2l, 1) := by decide +kernel
theorem dL_headsOf_8 : decode cL_headsOf 8 = .ok (.lastore, 1) := by decide +kernel
theorem dL_headsOf_9 : decode cL_headsOf 9 = .ok (.goto 6, 3) := by decide +kernel
theorem dL_headsOf_12 : decode cL_headsOf 12 = .ok (.astore_n 3, 1) := by decide +kernel
theorem dL_headsOf_13 : decode cL_headsOf 13 = .ok (.iconst 1, 1) := by decide +kernel
theorem dL_headsOf_14 : decode cL_headsOf 14 = .ok (.ireturn, 1) := by decide +kernel
theorem dL_headsOf_15 : decode cL_headsOf 15 = .ok (.iconst 0, 1) := by decide +kernel
theorem dL_headsOf_16 : decode cL_headsOf 16 = .ok (.ireturn, 1) := by decide +kernel
theorem dL_stayOf_0 : decode cL_stayOf 0 = .ok (.aload_n 2, 1) := by decide +kernel
theorem dL_stayOf_1 : decode cL_stayOf 1 = .ok (.iconst 0, 1) := by decide +kernel
theorem dL_stayOf_2 : decode cL_stayOf 2 = .ok (.aload_n 0, 1) := by decide +kernel
theorem dL_stayOf_3 : decode cL_stayOf 3 = .ok (.iload_n 1, 1) := by decide +kernel
theorem dL_stayOf_4 : decode cL_stayOf 4 = .ok (.invokevirtual 52, 3) := by decide +kernel
theorem dL_stayOf_7 : decode cL_stayOf 7 = .ok (.i2l, 1) := by decide +kernel
theorem dL_stayOf_8 : decode cL_stayOf 8 = .ok (.lastore, 1) := by decide +kernel
theorem dL_stayOf_9 : decode cL_stayOf 9 = .ok (.goto 6, 3) := by decide +kernel
theorem dL_stayOf_12 : decode cL_stayOf 12 = .ok (.astore_n 3, 1) := by decide +kernel
theorem dL_stayOf_13 : decode cL_stayOf 13 = .ok (.iconst 1, 1) := by decide +kernel
theorem dL_stayOf_14 : decode cL_stayOf 14 = .ok (.ireturn, 1) := by decide +kernel
theorem dL_stayOf_15 : decode cL_stayOf 15 = .ok (.iconst 0, 1) := by decide +kernel
theorem dL_stayOf_16 : decode cL_stayOf 16 = .ok (.ireturn, 1) := by decide +kernel
theorem dL_stairsOf_0 : decode cL_stairsOf 0 = .ok (.aload_n 2, 1) := by decide +kernel
theorem dL_stairsOf_1 : decode cL_stairsOf 1 = .ok (.iconst 0, 1) := by decide +kernel
theorem dL_stairsOf_2 : decode cL_stairsOf 2 = .ok (.aload_n 0, 1) := by decide +kernel
theorem dL_stairsOf_3 : decode cL_stairsOf 3 = .ok (.iload_n 1, 1) := by decide +kernel
theorem dL_stairsOf_4 : decode cL_stairsOf 4 = .ok (.invokevirtual 55, 3) := by decide +kernel
theorem dL_stairsOf_7 : decode cL_stairsOf 7 = .ok (.i2l, 1) := by decide +kernel
theorem dL_stairsOf_8 : decode cL_stairsOf 8 = .ok (.lastore, 1) := by decide +kernel
theorem dL_stairsOf_9 : decode cL_stairsOf 9 = .ok (.goto 6, 3) := by decide +kernel
theorem dL_stairsOf_12 : decode cL_stairsOf 12 = .ok (.astore_n 3, 1) := by decide +kernel
theorem dL_stairsOf_13 : decode cL_stairsOf 13 = .ok (.iconst 1, 1) := by decide +kernel
theorem dL_stairsOf_14 : decode cL_stairsOf 14 = .ok (.ireturn, 1) := by decide +kernel
theorem dL_stairsOf_15 : decode cL_stairsOf 15 = .ok (.iconst 0, 1) := by decide +kernel
theorem dL_stairsOf_16 : decode cL_stairsOf 16 = .ok (.ireturn, 1) := by decide +kernel
theorem dL_isOpen_0 : decode cL_isOpen 0 = .ok (.aload_n 2, 1) := by decide +kernel
theorem dL_isOpen_1 : decode cL_isOpen 1 = .ok (.iconst 0, 1) := by decide +kernel
theorem dL_isOpen_2 : decode cL_isOpen 2 = .ok (.aload_n 0, 1) := by decide +kernel
theorem dL_isOpen_3 : decode cL_isOpen 3 = .ok (.iload_n 1, 1) := by decide +kernel
theorem dL_isOpen_4 : decode cL_isOpen 4 = .ok (.invokevirtual 58, 3) := by decide +kernel
theorem dL_isOpen_7 : decode cL_isOpen 7 = .ok (.ifCond .eq 7, 3) := by decide +kernel
theorem dL_isOpen_10 : decode cL_isOpen 10 = .ok (.lconst 1, 1) := by decide +kernel
theorem dL_isOpen_11 : decode cL_isOpen 11 = .ok (.goto 4, 3) := by decide +kernel
theorem dL_isOpen_14 : decode cL_isOpen 14 = .ok (.lconst 0, 1) := by decide +kernel
theorem dL_isOpen_15 : decode cL_isOpen 15 = .ok (.lastore, 1) := by decide +kernel
theorem dL_isOpen_16 : decode cL_isOpen 16 = .ok (.goto 6, 3) := by decide +kernel
theorem dL_isOpen_19 : decode cL_isOpen 19 = .ok (.astore_n 3, 1) := by decide +kernel
theorem dL_isOpen_20 : decode cL_isOpen 20 = .ok (.iconst 1, 1) := by decide +kernel
theorem dL_isOpen_21 : decode cL_isOpen 21 = .ok (.ireturn, 1) := by decide +kernel
theorem dL_isOpen_22 : decode cL_isOpen 22 = .ok (.iconst 0, 1) := by decide +kernel
theorem dL_isOpen_23 : decode cL_isOpen 23 = .ok (.ireturn, 1) := by decide +kernel
theorem dL_runs_0 : decode cL_runs 0 = .ok (.aload_n 2, 1) := by decide +kernel
theorem dL_runs_1 : decode cL_runs 1 = .ok (.iconst 0, 1) := by decide +kernel
theorem dL_runs_2 : decode cL_runs 2 = .ok (.aload_n 0, 1) := by decide +kernel
theorem dL_runs_3 : decode cL_runs 3 = .ok (.iload_n 1, 1) := by decide +kernel
theorem dL_runs_4 : decode cL_runs 4 = .ok (.invokevirtual 61, 3) := by decide +kernel
theorem dL_runs_7 : decode cL_runs 7 = .ok (.ifCond .eq 7, 3) := by decide +kernel
theorem dL_runs_10 : decode cL_runs 10 = .ok (.lconst 1, 1) := by decide +kernel
theorem dL_runs_11 : decode cL_runs 11 = .ok (.goto 4, 3) := by decide +kernel
theorem dL_runs_14 : decode cL_runs 14 = .ok (.lconst 0, 1) := by decide +kernel
theorem dL_runs_15 : decode cL_runs 15 = .ok (.lastore, 1) := by decide +kernel
theorem dL_runs_16 : decode cL_runs 16 = .ok (.goto 6, 3) := by decide +kernel
theorem dL_runs_19 : decode cL_runs 19 = .ok (.astore_n 3, 1) := by decide +kernel
theorem dL_runs_20 : decode cL_runs 20 = .ok (.iconst 1, 1) := by decide +kernel
theorem dL_runs_21 : decode cL_runs 21 = .ok (.ireturn, 1) := by decide +kernel
theorem dL_runs_22 : decode cL_runs 22 = .ok (.iconst 0, 1) := by decide +kernel
theorem dL_runs_23 : decode cL_runs 23 = .ok (.ireturn, 1) := by decide +kernel
theorem dL_serves_0 : decode cL_serves 0 = .ok (.aload_n 3, 1) := by decide +kernel
theorem dL_serves_1 : decode cL_serves 1 = .ok (.iconst 0, 1) := by decide +kernel
theorem dL_serves_2 : decode cL_serves 2 = .ok (.aload_n 0, 1) := by decide +kernel
theorem dL_serves_3 : decode cL_serves 3 = .ok (.iload_n 1, 1) := by decide +kernel
theorem dL_serves_4 : decode cL_serves 4 = .ok (.iload_n 2, 1) := by decide +kernel
theorem dL_serves_5 : decode cL_serves 5 = .ok (.invokevirtual 64, 3) := by decide +kernel
theorem dL_serves_8 : decode cL_serves 8 = .ok (.ifCond .eq 7, 3) := by decide +kernel
theorem dL_serves_11 : decode cL_serves 11 = .ok (.lconst 1, 1) := by decide +kernel
theorem dL_serves_12 : decode cL_serves 12 = .ok (.goto 4, 3) := by decide +kernel
theorem dL_serves_15 : decode cL_serves 15 = .ok (.lconst 0, 1) := by decide +kernel
theorem dL_serves_16 : decode cL_serves 16 = .ok (.lastore, 1) := by decide +kernel
theorem dL_serves_17 : decode cL_serves 17 = .ok (.goto 7, 3) := by decide +kernel
theorem dL_serves_20 : decode cL_serves 20 = .ok (.astore 4, 2) := by decide +kernel
theorem dL_serves_22 : decode cL_serves 22 = .ok (.iconst 1, 1) := by decide +kernel
theorem dL_serves_23 : decode cL_serves 23 = .ok (.ireturn, 1) := by decide +kernel
theorem dL_serves_24 : decode cL_serves 24 = .ok (.iconst 0, 1) := by decide +kernel
theorem dL_serves_25 : decode cL_serves 25 = .ok (.ireturn, 1) := by decide +kernel
theorem dL_pipe_0 : decode cL_pipe 0 = .ok (.aload_n 3, 1) := by decide +kernel
theorem dL_pipe_1 : decode cL_pipe 1 = .ok (.iconst 0, 1) := by decide +kernel
theorem dL_pipe_2 : decode cL_pipe 2 = .ok (.aload_n 0, 1) := by decide +kernel
theorem dL_pipe_3 : decode cL_pipe 3 = .ok (.iload_n 1, 1) := by decide +kernel
theorem dL_pipe_4 : decode cL_pipe 4 = .ok (.iload_n 2, 1) := by decide +kernel
theorem dL_pipe_5 : decode cL_pipe 5 = .ok (.invokevirtual 68, 3) := by decide +kernel
theorem dL_pipe_8 : decode cL_pipe 8 = .ok (.i2l, 1) := by decide +kernel
theorem dL_pipe_9 : decode cL_pipe 9 = .ok (.lastore, 1) := by decide +kernel
theorem dL_pipe_10 : decode cL_pipe 10 = .ok (.goto 7, 3) := by decide +kernel
theorem dL_pipe_13 : decode cL_pipe 13 = .ok (.astore 4, 2) := by decide +kernel
theorem dL_pipe_15 : decode cL_pipe 15 = .ok (.iconst 1, 1) := by decide +kernel
theorem dL_pipe_16 : decode cL_pipe 16 = .ok (.ireturn, 1) := by decide +kernel
theorem dL_pipe_17 : decode cL_pipe 17 = .ok (.iconst 0, 1) := by decide +kernel
theorem dL_pipe_18 : decode cL_pipe 18 = .ok (.ireturn, 1) := by decide +kernel
theorem dL_neighbours_0 : decode cL_neighbours 0 = .ok (.aload_n 2, 1) := by decide +kernel
theorem dL_neighbours_1 : decode cL_neighbours 1 = .ok (.iconst 0, 1) := by decide +kernel
theorem dL_neighbours_2 : decode cL_neighbours 2 = .ok (.aload_n 0, 1) := by decide +kernel
theorem dL_neighbours_3 : decode cL_neighbours 3 = .ok (.iload_n 1, 1) := by decide +kernel
theorem dL_neighbours_4 : decode cL_neighbours 4 = .ok (.invokevirtual 71, 3) := by decide +kernel
theorem dL_neighbours_7 : decode cL_neighbours 7 = .ok (.i2l, 1) := by decide +kernel
theorem dL_neighbours_8 : decode cL_neighbours 8 = .ok (.lastore, 1) := by decide +kernel
theorem dL_neighbours_9 : decode cL_neighbours 9 = .ok (.goto 6, 3) := by decide +kernel
theorem dL_neighbours_12 : decode cL_neighbours 12 = .ok (.astore_n 3, 1) := by decide +kernel
theorem dL_neighbours_13 : decode cL_neighbours 13 = .ok (.iconst 1, 1) := by decide +kernel
theorem dL_neighbours_14 : decode cL_neighbours 14 = .ok (.ireturn, 1) := by decide +kernel
theorem dL_neighbours_15 : decode cL_neighbours 15 = .ok (.iconst 0, 1) := by decide +kernel
theorem dL_neighbours_16 : decode cL_neighbours 16 = .ok (.ireturn, 1) := by decide +kernel
theorem dL_originOf_0 : decode cL_originOf 0 = .ok (.aload_n 2, 1) := by decide +kernel
theorem dL_originOf_1 : decode cL_originOf 1 = .ok (.iconst 0, 1) := by decide +kernel
theorem dL_originOf_2 : decode cL_originOf 2 = .ok (.aload_n 0, 1) := by decide +kernel
theorem dL_originOf_3 : decode cL_originOf 3 = .ok (.iload_n 1, 1) := by decide +kernel
theorem dL_originOf_4 : decode cL_originOf 4 = .ok (.invokevirtual 74, 3) := by decide +kernel
theorem dL_originOf_7 : decode cL_originOf 7 = .ok (.i2l, 1) := by decide +kernel
theorem dL_originOf_8 : decode cL_originOf 8 = .ok (.lastore, 1) := by decide +kernel
theorem dL_originOf_9 : decode cL_originOf 9 = .ok (.goto 6, 3) := by decide +kernel
theorem dL_originOf_12 : decode cL_originOf 12 = .ok (.astore_n 3, 1) := by decide +kernel
theorem dL_originOf_13 : decode cL_originOf 13 = .ok (.iconst 1, 1) := by decide +kernel
theorem dL_originOf_14 : decode cL_originOf 14 = .ok (.ireturn, 1) := by decide +kernel
theorem dL_originOf_15 : decode cL_originOf 15 = .ok (.iconst 0, 1) := by decide +kernel
theorem dL_originOf_16 : decode cL_originOf 16 = .ok (.ireturn, 1) := by decide +kernel
theorem dL_reachOf_0 : decode cL_reachOf 0 = .ok (.aload_n 2, 1) := by decide +kernel
theorem dL_reachOf_1 : decode cL_reachOf 1 = .ok (.iconst 0, 1) := by decide +kernel
theorem dL_reachOf_2 : decode cL_reachOf 2 = .ok (.aload_n 0, 1) := by decide +kernel
theorem dL_reachOf_3 : decode cL_reachOf 3 = .ok (.iload_n 1, 1) := by decide +kernel
theorem dL_reachOf_4 : decode cL_reachOf 4 = .ok (.invokevirtual 77, 3) := by decide +kernel
theorem dL_reachOf_7 : decode cL_reachOf 7 = .ok (.i2l, 1) := by decide +kernel
theorem dL_reachOf_8 : decode cL_reachOf 8 = .ok (.lastore, 1) := by decide +kernel
theorem dL_reachOf_9 : decode cL_reachOf 9 = .ok (.goto 6, 3) := by decide +kernel
theorem dL_reachOf_12 : decode cL_reachOf 12 = .ok (.astore_n 3, 1) := by decide +kernel
theorem dL_reachOf_13 : decode cL_reachOf 13 = .ok (.iconst 1, 1) := by decide +kernel
theorem dL_reachOf_14 : decode cL_reachOf 14 = .ok (.ireturn, 1) := by decide +kernel
theorem dL_reachOf_15 : decode cL_reachOf 15 = .ok (.iconst 0, 1) := by decide +kernel
theorem dL_reachOf_16 : decode cL_reachOf 16 = .ok (.ireturn, 1) := by decide +kernel
theorem dL_stateOf_0 : decode cL_stateOf 0 = .ok (.aload_n 3, 1) := by decide +kernel
theorem dL_stateOf_1 : decode cL_stateOf 1 = .ok (.iconst 0, 1) := by decide +kernel
theorem dL_stateOf_2 : decode cL_stateOf 2 = .ok (.aload_n 0, 1) := by decide +kernel
theorem dL_stateOf_3 : decode cL_stateOf 3 = .ok (.iload_n 1, 1) := by decide +kernel
theorem dL_stateOf_4 : decode cL_stateOf 4 = .ok (.iload_n 2, 1) := by decide +kernel
theorem dL_stateOf_5 : decode cL_stateOf 5 = .ok (.invokevirtual 80, 3) := by decide +kernel
theorem dL_stateOf_8 : decode cL_stateOf 8 = .ok (.i2l, 1) := by decide +kernel
theorem dL_stateOf_9 : decode cL_stateOf 9 = .ok (.lastore, 1) := by decide +kernel
theorem dL_stateOf_10 : decode cL_stateOf 10 = .ok (.goto 7, 3) := by decide +kernel
theorem dL_stateOf_13 : decode cL_stateOf 13 = .ok (.astore 4, 2) := by decide +kernel
theorem dL_stateOf_15 : decode cL_stateOf 15 = .ok (.iconst 1, 1) := by decide +kernel
theorem dL_stateOf_16 : decode cL_stateOf 16 = .ok (.ireturn, 1) := by decide +kernel
theorem dL_stateOf_17 : decode cL_stateOf 17 = .ok (.iconst 0, 1) := by decide +kernel
theorem dL_stateOf_18 : decode cL_stateOf 18 = .ok (.ireturn, 1) := by decide +kernel
theorem dL_heardAt_0 : decode cL_heardAt 0 = .ok (.aload_n 3, 1) := by decide +kernel
theorem dL_heardAt_1 : decode cL_heardAt 1 = .ok (.iconst 0, 1) := by decide +kernel
theorem dL_heardAt_2 : decode cL_heardAt 2 = .ok (.aload_n 0, 1) := by decide +kernel
theorem dL_heardAt_3 : decode cL_heardAt 3 = .ok (.iload_n 1, 1) := by decide +kernel
theorem dL_heardAt_4 : decode cL_heardAt 4 = .ok (.iload_n 2, 1) := by decide +kernel
theorem dL_heardAt_5 : decode cL_heardAt 5 = .ok (.invokevirtual 83, 3) := by decide +kernel
theorem dL_heardAt_8 : decode cL_heardAt 8 = .ok (.i2l, 1) := by decide +kernel
theorem dL_heardAt_9 : decode cL_heardAt 9 = .ok (.lastore, 1) := by decide +kernel
theorem dL_heardAt_10 : decode cL_heardAt 10 = .ok (.goto 7, 3) := by decide +kernel
theorem dL_heardAt_13 : decode cL_heardAt 13 = .ok (.astore 4, 2) := by decide +kernel
theorem dL_heardAt_15 : decode cL_heardAt 15 = .ok (.iconst 1, 1) := by decide +kernel
theorem dL_heardAt_16 : decode cL_heardAt 16 = .ok (.ireturn, 1) := by decide +kernel
theorem dL_heardAt_17 : decode cL_heardAt 17 = .ok (.iconst 0, 1) := by decide +kernel
theorem dL_heardAt_18 : decode cL_heardAt 18 = .ok (.ireturn, 1) := by decide +kernel
theorem dL_deniedAt_0 : decode cL_deniedAt 0 = .ok (.aload_n 3, 1) := by decide +kernel
theorem dL_deniedAt_1 : decode cL_deniedAt 1 = .ok (.iconst 0, 1) := by decide +kernel
theorem dL_deniedAt_2 : decode cL_deniedAt 2 = .ok (.aload_n 0, 1) := by decide +kernel
theorem dL_deniedAt_3 : decode cL_deniedAt 3 = .ok (.iload_n 1, 1) := by decide +kernel
theorem dL_deniedAt_4 : decode cL_deniedAt 4 = .ok (.iload_n 2, 1) := by decide +kernel
theorem dL_deniedAt_5 : decode cL_deniedAt 5 = .ok (.invokevirtual 86, 3) := by decide +kernel
theorem dL_deniedAt_8 : decode cL_deniedAt 8 = .ok (.i2l, 1) := by decide +kernel
theorem dL_deniedAt_9 : decode cL_deniedAt 9 = .ok (.lastore, 1) := by decide +kernel
theorem dL_deniedAt_10 : decode cL_deniedAt 10 = .ok (.goto 7, 3) := by decide +kernel
theorem dL_deniedAt_13 : decode cL_deniedAt 13 = .ok (.astore 4, 2) := by decide +kernel
theorem dL_deniedAt_15 : decode cL_deniedAt 15 = .ok (.iconst 1, 1) := by decide +kernel
theorem dL_deniedAt_16 : decode cL_deniedAt 16 = .ok (.ireturn, 1) := by decide +kernel
theorem dL_deniedAt_17 : decode cL_deniedAt 17 = .ok (.iconst 0, 1) := by decide +kernel
theorem dL_deniedAt_18 : decode cL_deniedAt 18 = .ok (.ireturn, 1) := by decide +kernel
theorem dL_pipesTo_0 : decode cL_pipesTo 0 = .ok (.aload_n 3, 1) := by decide +kernel
theorem dL_pipesTo_1 : decode cL_pipesTo 1 = .ok (.iconst 0, 1) := by decide +kernel
theorem dL_pipesTo_2 : decode cL_pipesTo 2 = .ok (.aload_n 0, 1) := by decide +kernel
theorem dL_pipesTo_3 : decode cL_pipesTo 3 = .ok (.iload_n 1, 1) := by decide +kernel
theorem dL_pipesTo_4 : decode cL_pipesTo 4 = .ok (.iload_n 2, 1) := by decide +kernel
theorem dL_pipesTo_5 : decode cL_pipesTo 5 = .ok (.invokevirtual 89, 3) := by decide +kernel
theorem dL_pipesTo_8 : decode cL_pipesTo 8 = .ok (.i2l, 1) := by decide +kernel
theorem dL_pipesTo_9 : decode cL_pipesTo 9 = .ok (.lastore, 1) := by decide +kernel
theorem dL_pipesTo_10 : decode cL_pipesTo 10 = .ok (.goto 7, 3) := by decide +kernel
theorem dL_pipesTo_13 : decode cL_pipesTo 13 = .ok (.astore 4, 2) := by decide +kernel
theorem dL_pipesTo_15 : decode cL_pipesTo 15 = .ok (.iconst 1, 1) := by decide +kernel
theorem dL_pipesTo_16 : decode cL_pipesTo 16 = .ok (.ireturn, 1) := by decide +kernel
theorem dL_pipesTo_17 : decode cL_pipesTo 17 = .ok (.iconst 0, 1) := by decide +kernel
theorem dL_pipesTo_18 : decode cL_pipesTo 18 = .ok (.ireturn, 1) := by decide +kernel
theorem dL_believers_0 : decode cL_believers 0 = .ok (.aload_n 2, 1) := by decide +kernel
theorem dL_believers_1 : decode cL_believers 1 = .ok (.iconst 0, 1) := by decide +kernel
theorem dL_believers_2 : decode cL_believers 2 = .ok (.aload_n 0, 1) := by decide +kernel
theorem dL_believers_3 : decode cL_believers 3 = .ok (.iload_n 1, 1) := by decide +kernel
theorem dL_believers_4 : decode cL_believers 4 = .ok (.invokevirtual 92, 3) := by decide +kernel
theorem dL_believers_7 : decode cL_believers 7 = .ok (.i2l, 1) := by decide +kernel
theorem dL_believers_8 : decode cL_believers 8 = .ok (.lastore, 1) := by decide +kernel
theorem dL_believers_9 : decode cL_believers 9 = .ok (.goto 6, 3) := by decide +kernel
theorem dL_believers_12 : decode cL_believers 12 = .ok (.astore_n 3, 1) := by decide +kernel
theorem dL_believers_13 : decode cL_believers 13 = .ok (.iconst 1, 1) := by decide +kernel
theorem dL_believers_14 : decode cL_believers 14 = .ok (.ireturn, 1) := by decide +kernel
theorem dL_believers_15 : decode cL_believers 15 = .ok (.iconst 0, 1) := by decide +kernel
theorem dL_believers_16 : decode cL_believers 16 = .ok (.ireturn, 1) := by decide +kernel
theorem dL_reached_0 : decode cL_reached 0 = .ok (.aload_n 2, 1) := by decide +kernel
theorem dL_reached_1 : decode cL_reached 1 = .ok (.iconst 0, 1) := by decide +kernel
theorem dL_reached_2 : decode cL_reached 2 = .ok (.aload_n 0, 1) := by decide +kernel
theorem dL_reached_3 : decode cL_reached 3 = .ok (.iload_n 1, 1) := by decide +kernel
theorem dL_reached_4 : decode cL_reached 4 = .ok (.invokevirtual 95, 3) := by decide +kernel
theorem dL_reached_7 : decode cL_reached 7 = .ok (.i2l, 1) := by decide +kernel
theorem dL_reached_8 : decode cL_reached 8 = .ok (.lastore, 1) := by decide +kernel
theorem dL_reached_9 : decode cL_reached 9 = .ok (.goto 6, 3) := by decide +kernel
theorem dL_reached_12 : decode cL_reached 12 = .ok (.astore_n 3, 1) := by decide +kernel
theorem dL_reached_13 : decode cL_reached 13 = .ok (.iconst 1, 1) := by decide +kernel
theorem dL_reached_14 : decode cL_reached 14 = .ok (.ireturn, 1) := by decide +kernel
theorem dL_reached_15 : decode cL_reached 15 = .ok (.iconst 0, 1) := by decide +kernel
theorem dL_reached_16 : decode cL_reached 16 = .ok (.ireturn, 1) := by decide +kernel
theorem dL_underWay_0 : decode cL_underWay 0 = .ok (.aload_n 2, 1) := by decide +kernel
theorem dL_underWay_1 : decode cL_underWay 1 = .ok (.iconst 0, 1) := by decide +kernel
theorem dL_underWay_2 : decode cL_underWay 2 = .ok (.aload_n 0, 1) := by decide +kernel
theorem dL_underWay_3 : decode cL_underWay 3 = .ok (.iload_n 1, 1) := by decide +kernel
theorem dL_underWay_4 : decode cL_underWay 4 = .ok (.invokevirtual 98, 3) := by decide +kernel
theorem dL_underWay_7 : decode cL_underWay 7 = .ok (.i2l, 1) := by decide +kernel
theorem dL_underWay_8 : decode cL_underWay 8 = .ok (.lastore, 1) := by decide +kernel
theorem dL_underWay_9 : decode cL_underWay 9 = .ok (.goto 6, 3) := by decide +kernel
theorem dL_underWay_12 : decode cL_underWay 12 = .ok (.astore_n 3, 1) := by decide +kernel
theorem dL_underWay_13 : decode cL_underWay 13 = .ok (.iconst 1, 1) := by decide +kernel
theorem dL_underWay_14 : decode cL_underWay 14 = .ok (.ireturn, 1) := by decide +kernel
theorem dL_underWay_15 : decode cL_underWay 15 = .ok (.iconst 0, 1) := by decide +kernel
theorem dL_underWay_16 : decode cL_underWay 16 = .ok (.ireturn, 1) := by decide +kernel
theorem dL_quickest_0 : decode cL_quickest 0 = .ok (.aload_n 3, 1) := by decide +kernel
theorem dL_quickest_1 : decode cL_quickest 1 = .ok (.iconst 0, 1) := by decide +kernel
theorem dL_quickest_2 : decode cL_quickest 2 = .ok (.aload_n 0, 1) := by decide +kernel
theorem dL_quickest_3 : decode cL_quickest 3 = .ok (.iload_n 1, 1) := by decide +kernel
theorem dL_quickest_4 : decode cL_quickest 4 = .ok (.iload_n 2, 1) := by decide +kernel
theorem dL_quickest_5 : decode cL_quickest 5 = .ok (.invokevirtual 101, 3) := by decide +kernel
theorem dL_quickest_8 : decode cL_quickest 8 = .ok (.i2l, 1) := by decide +kernel
theorem dL_quickest_9 : decode cL_quickest 9 = .ok (.lastore, 1) := by decide +kernel
theorem dL_quickest_10 : decode cL_quickest 10 = .ok (.goto 7, 3) := by decide +kernel
theorem dL_quickest_13 : decode cL_quickest 13 = .ok (.astore 4, 2) := by decide +kernel
theorem dL_quickest_15 : decode cL_quickest 15 = .ok (.iconst 1, 1) := by decide +kernel
theorem dL_quickest_16 : decode cL_quickest 16 = .ok (.ireturn, 1) := by decide +kernel
theorem dL_quickest_17 : decode cL_quickest 17 = .ok (.iconst 0, 1) := by decide +kernel
theorem dL_quickest_18 : decode cL_quickest 18 = .ok (.ireturn, 1) := by decide +kernel
theorem dL_pipesBetween_0 : decode cL_pipesBetween 0 = .ok (.aload_n 3, 1) := by decide +kernel
theorem dL_pipesBetween_1 : decode cL_pipesBetween 1 = .ok (.iconst 0, 1) := by decide +kernel
theorem dL_pipesBetween_2 : decode cL_pipesBetween 2 = .ok (.aload_n 0, 1) := by decide +kernel
theorem dL_pipesBetween_3 : decode cL_pipesBetween 3 = .ok (.iload_n 1, 1) := by decide +kernel
theorem dL_pipesBetween_4 : decode cL_pipesBetween 4 = .ok (.iload_n 2, 1) := by decide +kernel
theorem dL_pipesBetween_5 : decode cL_pipesBetween 5 = .ok (.invokevirtual 104, 3) := by decide +kernel
theorem dL_pipesBetween_8 : decode cL_pipesBetween 8 = .ok (.i2l, 1) := by decide +kernel
theorem dL_pipesBetween_9 : decode cL_pipesBetween 9 = .ok (.lastore, 1) := by decide +kernel
theorem dL_pipesBetween_10 : decode cL_pipesBetween 10 = .ok (.goto 7, 3) := by decide +kernel
theorem dL_pipesBetween_13 : decode cL_pipesBetween 13 = .ok (.astore 4, 2) := by decide +kernel
theorem dL_pipesBetween_15 : decode cL_pipesBetween 15 = .ok (.iconst 1, 1) := by decide +kernel
theorem dL_pipesBetween_16 : decode cL_pipesBetween 16 = .ok (.ireturn, 1) := by decide +kernel
theorem dL_pipesBetween_17 : decode cL_pipesBetween 17 = .ok (.iconst 0, 1) := by decide +kernel
theorem dL_pipesBetween_18 : decode cL_pipesBetween 18 = .ok (.ireturn, 1) := by decide +kernel
theorem dL_farthestFrom_0 : decode cL_farthestFrom 0 = .ok (.aload_n 2, 1) := by decide +kernel
theorem dL_farthestFrom_1 : decode cL_farthestFrom 1 = .ok (.iconst 0, 1) := by decide +kernel
theorem dL_farthestFrom_2 : decode cL_farthestFrom 2 = .ok (.aload_n 0, 1) := by decide +kernel
theorem dL_farthestFrom_3 : decode cL_farthestFrom 3 = .ok (.iload_n 1, 1) := by decide +kernel
theorem dL_farthestFrom_4 : decode cL_farthestFrom 4 = .ok (.invokevirtual 107, 3) := by decide +kernel
theorem dL_farthestFrom_7 : decode cL_farthestFrom 7 = .ok (.i2l, 1) := by decide +kernel
theorem dL_farthestFrom_8 : decode cL_farthestFrom 8 = .ok (.lastore, 1) := by decide +kernel
theorem dL_farthestFrom_9 : decode cL_farthestFrom 9 = .ok (.goto 6, 3) := by decide +kernel
theorem dL_farthestFrom_12 : decode cL_farthestFrom 12 = .ok (.astore_n 3, 1) := by decide +kernel
theorem dL_farthestFrom_13 : decode cL_farthestFrom 13 = .ok (.iconst 1, 1) := by decide +kernel
theorem dL_farthestFrom_14 : decode cL_farthestFrom 14 = .ok (.ireturn, 1) := by decide +kernel
theorem dL_farthestFrom_15 : decode cL_farthestFrom 15 = .ok (.iconst 0, 1) := by decide +kernel
theorem dL_farthestFrom_16 : decode cL_farthestFrom 16 = .ok (.ireturn, 1) := by decide +kernel
theorem dL_gainBy_0 : decode cL_gainBy 0 = .ok (.aload 4, 2) := by decide +kernel
theorem dL_gainBy_2 : decode cL_gainBy 2 = .ok (.iconst 0, 1) := by decide +kernel
theorem dL_gainBy_3 : decode cL_gainBy 3 = .ok (.aload_n 0, 1) := by decide +kernel
theorem dL_gainBy_4 : decode cL_gainBy 4 = .ok (.iload_n 1, 1) := by decide +kernel
theorem dL_gainBy_5 : decode cL_gainBy 5 = .ok (.iload_n 2, 1) := by decide +kernel
theorem dL_gainBy_6 : decode cL_gainBy 6 = .ok (.iload_n 3, 1) := by decide +kernel
theorem dL_gainBy_7 : decode cL_gainBy 7 = .ok (.invokevirtual 110, 3) := by decide +kernel
theorem dL_gainBy_10 : decode cL_gainBy 10 = .ok (.i2l, 1) := by decide +kernel
theorem dL_gainBy_11 : decode cL_gainBy 11 = .ok (.lastore, 1) := by decide +kernel
theorem dL_gainBy_12 : decode cL_gainBy 12 = .ok (.goto 7, 3) := by decide +kernel
theorem dL_gainBy_15 : decode cL_gainBy 15 = .ok (.astore 5, 2) := by decide +kernel
theorem dL_gainBy_17 : decode cL_gainBy 17 = .ok (.iconst 1, 1) := by decide +kernel
theorem dL_gainBy_18 : decode cL_gainBy 18 = .ok (.ireturn, 1) := by decide +kernel
theorem dL_gainBy_19 : decode cL_gainBy 19 = .ok (.iconst 0, 1) := by decide +kernel
theorem dL_gainBy_20 : decode cL_gainBy 20 = .ok (.ireturn, 1) := by decide +kernel
theorem dL_wouldHear_0 : decode cL_wouldHear 0 = .ok (.aload_n 3, 1) := by decide +kernel
theorem dL_wouldHear_1 : decode cL_wouldHear 1 = .ok (.iconst 0, 1) := by decide +kernel
theorem dL_wouldHear_2 : decode cL_wouldHear 2 = .ok (.aload_n 0, 1) := by decide +kernel
theorem dL_wouldHear_3 : decode cL_wouldHear 3 = .ok (.iload_n 1, 1) := by decide +kernel
theorem dL_wouldHear_4 : decode cL_wouldHear 4 = .ok (.iload_n 2, 1) := by decide +kernel
theorem dL_wouldHear_5 : decode cL_wouldHear 5 = .ok (.invokevirtual 114, 3) := by decide +kernel
theorem dL_wouldHear_8 : decode cL_wouldHear 8 = .ok (.i2l, 1) := by decide +kernel
theorem dL_wouldHear_9 : decode cL_wouldHear 9 = .ok (.lastore, 1) := by decide +kernel
theorem dL_wouldHear_10 : decode cL_wouldHear 10 = .ok (.goto 7, 3) := by decide +kernel
theorem dL_wouldHear_13 : decode cL_wouldHear 13 = .ok (.astore 4, 2) := by decide +kernel
theorem dL_wouldHear_15 : decode cL_wouldHear 15 = .ok (.iconst 1, 1) := by decide +kernel
theorem dL_wouldHear_16 : decode cL_wouldHear 16 = .ok (.ireturn, 1) := by decide +kernel
theorem dL_wouldHear_17 : decode cL_wouldHear 17 = .ok (.iconst 0, 1) := by decide +kernel
theorem dL_wouldHear_18 : decode cL_wouldHear 18 = .ok (.ireturn, 1) := by decide +kernel
theorem dL_believersInTheEnd_0 : decode cL_believersInTheEnd 0 = .ok (.aload_n 2, 1) := by decide +kernel
theorem dL_believersInTheEnd_1 : decode cL_believersInTheEnd 1 = .ok (.iconst 0, 1) := by decide +kernel
theorem dL_believersInTheEnd_2 : decode cL_believersInTheEnd 2 = .ok (.aload_n 0, 1) := by decide +kernel
theorem dL_believersInTheEnd_3 : decode cL_believersInTheEnd 3 = .ok (.iload_n 1, 1) := by decide +kernel
theorem dL_believersInTheEnd_4 : decode cL_believersInTheEnd 4 = .ok (.invokevirtual 117, 3) := by decide +kernel
theorem dL_believersInTheEnd_7 : decode cL_believersInTheEnd 7 = .ok (.i2l, 1) := by decide +kernel
theorem dL_believersInTheEnd_8 : decode cL_believersInTheEnd 8 = .ok (.lastore, 1) := by decide +kernel
theorem dL_believersInTheEnd_9 : decode cL_believersInTheEnd 9 = .ok (.goto 6, 3) := by decide +kernel
theorem dL_believersInTheEnd_12 : decode cL_believersInTheEnd 12 = .ok (.astore_n 3, 1) := by decide +kernel
theorem dL_believersInTheEnd_13 : decode cL_believersInTheEnd 13 = .ok (.iconst 1, 1) := by decide +kernel
theorem dL_believersInTheEnd_14 : decode cL_believersInTheEnd 14 = .ok (.ireturn, 1) := by decide +kernel
theorem dL_believersInTheEnd_15 : decode cL_believersInTheEnd 15 = .ok (.iconst 0, 1) := by decide +kernel
theorem dL_believersInTheEnd_16 : decode cL_believersInTheEnd 16 = .ok (.ireturn, 1) := by decide +kernel
theorem dL_quietIn_0 : decode cL_quietIn 0 = .ok (.aload_n 2, 1) := by decide +kernel
theorem dL_quietIn_1 : decode cL_quietIn 1 = .ok (.iconst 0, 1) := by decide +kernel
theorem dL_quietIn_2 : decode cL_quietIn 2 = .ok (.aload_n 0, 1) := by decide +kernel
theorem dL_quietIn_3 : decode cL_quietIn 3 = .ok (.iload_n 1, 1) := by decide +kernel
theorem dL_quietIn_4 : decode cL_quietIn 4 = .ok (.invokevirtual 120, 3) := by decide +kernel
theorem dL_quietIn_7 : decode cL_quietIn 7 = .ok (.i2l, 1) := by decide +kernel
theorem dL_quietIn_8 : decode cL_quietIn 8 = .ok (.lastore, 1) := by decide +kernel
theorem dL_quietIn_9 : decode cL_quietIn 9 = .ok (.goto 6, 3) := by decide +kernel
theorem dL_quietIn_12 : decode cL_quietIn 12 = .ok (.astore_n 3, 1) := by decide +kernel
theorem dL_quietIn_13 : decode cL_quietIn 13 = .ok (.iconst 1, 1) := by decide +kernel
theorem dL_quietIn_14 : decode cL_quietIn 14 = .ok (.ireturn, 1) := by decide +kernel
theorem dL_quietIn_15 : decode cL_quietIn 15 = .ok (.iconst 0, 1) := by decide +kernel
theorem dL_quietIn_16 : decode cL_quietIn 16 = .ok (.ireturn, 1) := by decide +kernel
theorem dL_believersWith_0 : decode cL_believersWith 0 = .ok (.aload_n 3, 1) := by decide +kernel
theorem dL_believersWith_1 : decode cL_believersWith 1 = .ok (.iconst 0, 1) := by decide +kernel
theorem dL_believersWith_2 : decode cL_believersWith 2 = .ok (.aload_n 0, 1) := by decide +kernel
theorem dL_believersWith_3 : decode cL_believersWith 3 = .ok (.iload_n 1, 1) := by decide +kernel
theorem dL_believersWith_4 : decode cL_believersWith 4 = .ok (.iload_n 2, 1) := by decide +kernel
theorem dL_believersWith_5 : decode cL_believersWith 5 = .ok (.invokevirtual 123, 3) := by decide +kernel
theorem dL_believersWith_8 : decode cL_believersWith 8 = .ok (.i2l, 1) := by decide +kernel
theorem dL_believersWith_9 : decode cL_believersWith 9 = .ok (.lastore, 1) := by decide +kernel
theorem dL_believersWith_10 : decode cL_believersWith 10 = .ok (.goto 7, 3) := by decide +kernel
theorem dL_believersWith_13 : decode cL_believersWith 13 = .ok (.astore 4, 2) := by decide +kernel
theorem dL_believersWith_15 : decode cL_believersWith 15 = .ok (.iconst 1, 1) := by decide +kernel
theorem dL_believersWith_16 : decode cL_believersWith 16 = .ok (.ireturn, 1) := by decide +kernel
theorem dL_believersWith_17 : decode cL_believersWith 17 = .ok (.iconst 0, 1) := by decide +kernel
theorem dL_believersWith_18 : decode cL_believersWith 18 = .ok (.ireturn, 1) := by decide +kernel
theorem dL_bestDenial_0 : decode cL_bestDenial 0 = .ok (.aload_n 2, 1) := by decide +kernel
theorem dL_bestDenial_1 : decode cL_bestDenial 1 = .ok (.iconst 0, 1) := by decide +kernel
theorem dL_bestDenial_2 : decode cL_bestDenial 2 = .ok (.aload_n 0, 1) := by decide +kernel
theorem dL_bestDenial_3 : decode cL_bestDenial 3 = .ok (.iload_n 1, 1) := by decide +kernel
theorem dL_bestDenial_4 : decode cL_bestDenial 4 = .ok (.invokevirtual 126, 3) := by decide +kernel
theorem dL_bestDenial_7 : decode cL_bestDenial 7 = .ok (.i2l, 1) := by decide +kernel
theorem dL_bestDenial_8 : decode cL_bestDenial 8 = .ok (.lastore, 1) := by decide +kernel
theorem dL_bestDenial_9 : decode cL_bestDenial 9 = .ok (.goto 6, 3) := by decide +kernel
theorem dL_bestDenial_12 : decode cL_bestDenial 12 = .ok (.astore_n 3, 1) := by decide +kernel
theorem dL_bestDenial_13 : decode cL_bestDenial 13 = .ok (.iconst 1, 1) := by decide +kernel
theorem dL_bestDenial_14 : decode cL_bestDenial 14 = .ok (.ireturn, 1) := by decide +kernel
theorem dL_bestDenial_15 : decode cL_bestDenial 15 = .ok (.iconst 0, 1) := by decide +kernel
theorem dL_bestDenial_16 : decode cL_bestDenial 16 = .ok (.ireturn, 1) := by decide +kernel
theorem dL_bestStairsToShut_0 : decode cL_bestStairsToShut 0 = .ok (.aload_n 2, 1) := by decide +kernel
theorem dL_bestStairsToShut_1 : decode cL_bestStairsToShut 1 = .ok (.iconst 0, 1) := by decide +kernel
theorem dL_bestStairsToShut_2 : decode cL_bestStairsToShut 2 = .ok (.aload_n 0, 1) := by decide +kernel
theorem dL_bestStairsToShut_3 : decode cL_bestStairsToShut 3 = .ok (.iload_n 1, 1) := by decide +kernel
theorem dL_bestStairsToShut_4 : decode cL_bestStairsToShut 4 = .ok (.invokevirtual 129, 3) := by decide +kernel
theorem dL_bestStairsToShut_7 : decode cL_bestStairsToShut 7 = .ok (.i2l, 1) := by decide +kernel
theorem dL_bestStairsToShut_8 : decode cL_bestStairsToShut 8 = .ok (.lastore, 1) := by decide +kernel
theorem dL_bestStairsToShut_9 : decode cL_bestStairsToShut 9 = .ok (.goto 6, 3) := by decide +kernel
theorem dL_bestStairsToShut_12 : decode cL_bestStairsToShut 12 = .ok (.astore_n 3, 1) := by decide +kernel
theorem dL_bestStairsToShut_13 : decode cL_bestStairsToShut 13 = .ok (.iconst 1, 1) := by decide +kernel
theorem dL_bestStairsToShut_14 : decode cL_bestStairsToShut 14 = .ok (.ireturn, 1) := by decide +kernel
theorem dL_bestStairsToShut_15 : decode cL_bestStairsToShut 15 = .ok (.iconst 0, 1) := by decide +kernel
theorem dL_bestStairsToShut_16 : decode cL_bestStairsToShut 16 = .ok (.ireturn, 1) := by decide +kernel
abbrev vwCl : List vw_C := [(RX0, TX0, 3), (RX1, TX1, 11), (RX2, TX2, 8), (RX3, TX3, 3), (RX4, TX4, 6), (RX5, TX5, 20)]
end
section
theorem dL_law_0 : decode cL_law 0 = .ok (.new 8, 3) := by decide +kernel
theorem dL_law_3 : decode cL_law 3 = .ok (.dup, 1) := by decide +kernel
theorem dL_law_4 : decode cL_law 4 = .ok (.invokespecial 132, 3) := by decide +kernel
theorem dL_law_7 : decode cL_law 7 = .ok (.astore_n 1, 1) := by decide +kernel
theorem dL_law_8 : decode cL_law 8 = .ok (.new 133, 3) := by decide +kernel
theorem dL_law_11 : decode cL_law 11 = .ok (.dup, 1) := by decide +kernel
theorem dL_law_12 : decode cL_law 12 = .ok (.invokespecial 135, 3) := by decide +kernel
theorem dL_law_15 : decode cL_law 15 = .ok (.astore_n 2, 1) := by decide +kernel
theorem dL_law_16 : decode cL_law 16 = .ok (.iconst 1, 1) := by decide +kernel
theorem dL_law_17 : decode cL_law 17 = .ok (.newarray .long, 2) := by decide +kernel
theorem dL_law_19 : decode cL_law 19 = .ok (.astore_n 3, 1) := by decide +kernel
theorem dL_law_20 : decode cL_law 20 = .ok (.iconst 0, 1) := by decide +kernel
theorem dL_law_21 : decode cL_law 21 = .ok (.istore 4, 2) := by decide +kernel
theorem dL_law_23 : decode cL_law 23 = .ok (.iload 4, 2) := by decide +kernel
theorem dL_law_25 : decode cL_law 25 = .ok (.aload_n 0, 1) := by decide +kernel
theorem dL_law_26 : decode cL_law 26 = .ok (.arraylength, 1) := by decide +kernel
theorem dL_law_27 : decode cL_law 27 = .ok (.iconst 5, 1) := by decide +kernel
theorem dL_law_28 : decode cL_law 28 = .ok (.isub, 1) := by decide +kernel
theorem dL_law_29 : decode cL_law 29 = .ok (.if_icmp .gt 2689, 3) := by decide +kernel
theorem dL_law_32 : decode cL_law 32 = .ok (.aload_n 0, 1) := by decide +kernel
theorem dL_law_33 : decode cL_law 33 = .ok (.iload 4, 2) := by decide +kernel
theorem dL_law_35 : decode cL_law 35 = .ok (.iaload, 1) := by decide +kernel
theorem dL_law_36 : decode cL_law 36 = .ok (.bipush 63, 2) := by decide +kernel
theorem dL_law_38 : decode cL_law 38 = .ok (.iand, 1) := by decide +kernel
theorem dL_law_39 : decode cL_law 39 = .ok (.tableswitch 2673 0 44 #[193, 249, 317, 385, 453, 516, 608, 671, 739, 807, 863, 876, 889, 902, 915, 971, 1027, 1083, 1146, 1209, 1284, 1352, 1408, 1464, 1520, 1588, 1656, 1724, 1792, 1848, 1904, 1960, 2028, 2096, 2152, 2165, 2178, 2258, 2326, 2382, 2438, 2506, 2562, 2618, 2659], 193) := by decide +kernel
theorem dL_law_232 : decode cL_law 232 = .ok (.aload_n 1, 1) := by decide +kernel
theorem dL_law_233 : decode cL_law 233 = .ok (.aload_n 0, 1) := by decide +kernel
theorem dL_law_234 : decode cL_law 234 = .ok (.iload 4, 2) := by decide +kernel
theorem dL_law_236 : decode cL_law 236 = .ok (.iconst 1, 1) := by decide +kernel
theorem dL_law_237 : decode cL_law 237 = .ok (.iadd, 1) := by decide +kernel
theorem dL_law_238 : decode cL_law 238 = .ok (.iaload, 1) := by decide +kernel
theorem dL_law_239 : decode cL_law 239 = .ok (.aload_n 3, 1) := by decide +kernel
theorem dL_law_240 : decode cL_law 240 = .ok (.invokestatic 136, 3) := by decide +kernel
theorem dL_law_243 : decode cL_law 243 = .ok (.istore 5, 2) := by decide +kernel
theorem dL_law_245 : decode cL_law 245 = .ok (.aload_n 2, 1) := by decide +kernel
theorem dL_law_246 : decode cL_law 246 = .ok (.aload_n 0, 1) := by decide +kernel
theorem dL_law_247 : decode cL_law 247 = .ok (.iload 4, 2) := by decide +kernel
theorem dL_law_249 : decode cL_law 249 = .ok (.iconst 1, 1) := by decide +kernel
theorem dL_law_250 : decode cL_law 250 = .ok (.iadd, 1) := by decide +kernel
theorem dL_law_251 : decode cL_law 251 = .ok (.iaload, 1) := by decide +kernel
theorem dL_law_252 : decode cL_law 252 = .ok (.invokevirtual 141, 3) := by decide +kernel
theorem dL_law_255 : decode cL_law 255 = .ok (.istore 6, 2) := by decide +kernel
theorem dL_law_257 : decode cL_law 257 = .ok (.aload_n 2, 1) := by decide +kernel
theorem dL_law_258 : decode cL_law 258 = .ok (.invokevirtual 142, 3) := by decide +kernel
theorem dL_law_261 : decode cL_law 261 = .ok (.iload 5, 2) := by decide +kernel
theorem dL_law_263 : decode cL_law 263 = .ok (.if_icmp .eq 5, 3) := by decide +kernel
theorem dL_law_266 : decode cL_law 266 = .ok (.iconst 0, 1) := by decide +kernel
theorem dL_law_267 : decode cL_law 267 = .ok (.ireturn, 1) := by decide +kernel
theorem dL_law_268 : decode cL_law 268 = .ok (.iload 5, 2) := by decide +kernel
theorem dL_law_270 : decode cL_law 270 = .ok (.ifCond .ne 15, 3) := by decide +kernel
theorem dL_law_273 : decode cL_law 273 = .ok (.aload_n 3, 1) := by decide +kernel
theorem dL_law_274 : decode cL_law 274 = .ok (.iconst 0, 1) := by decide +kernel
theorem dL_law_275 : decode cL_law 275 = .ok (.laload, 1) := by decide +kernel
theorem dL_law_276 : decode cL_law 276 = .ok (.iload 6, 2) := by decide +kernel
theorem dL_law_278 : decode cL_law 278 = .ok (.i2l, 1) := by decide +kernel
theorem dL_law_279 : decode cL_law 279 = .ok (.lcmp, 1) := by decide +kernel
theorem dL_law_280 : decode cL_law 280 = .ok (.ifCond .eq 5, 3) := by decide +kernel
theorem dL_law_283 : decode cL_law 283 = .ok (.iconst 0, 1) := by decide +kernel
theorem dL_law_284 : decode cL_law 284 = .ok (.ireturn, 1) := by decide +kernel
theorem dL_law_285 : decode cL_law 285 = .ok (.goto 2427, 3) := by decide +kernel
theorem dL_law_288 : decode cL_law 288 = .ok (.aload_n 1, 1) := by decide +kernel
theorem dL_law_289 : decode cL_law 289 = .ok (.aload_n 0, 1) := by decide +kernel
theorem dL_law_290 : decode cL_law 290 = .ok (.iload 4, 2) := by decide +kernel
theorem dL_law_292 : decode cL_law 292 = .ok (.iconst 1, 1) := by decide +kernel
theorem dL_law_293 : decode cL_law 293 = .ok (.iadd, 1) := by decide +kernel
theorem dL_law_294 : decode cL_law 294 = .ok (.iaload, 1) := by decide +kernel
theorem dL_law_295 : decode cL_law 295 = .ok (.aload_n 0, 1) := by decide +kernel
theorem dL_law_296 : decode cL_law 296 = .ok (.iload 4, 2) := by decide +kernel
theorem dL_law_298 : decode cL_law 298 = .ok (.iconst 2, 1) := by decide +kernel
theorem dL_law_299 : decode cL_law 299 = .ok (.iadd, 1) := by decide +kernel
theorem dL_law_300 : decode cL_law 300 = .ok (.iaload, 1) := by decide +kernel
theorem dL_law_301 : decode cL_law 301 = .ok (.aload_n 3, 1) := by decide +kernel
theorem dL_law_302 : decode cL_law 302 = .ok (.invokestatic 146, 3) := by decide +kernel
theorem dL_law_305 : decode cL_law 305 = .ok (.istore 5, 2) := by decide +kernel
theorem dL_law_307 : decode cL_law 307 = .ok (.aload_n 2, 1) := by decide +kernel
theorem dL_law_308 : decode cL_law 308 = .ok (.aload_n 0, 1) := by decide +kernel
theorem dL_law_309 : decode cL_law 309 = .ok (.iload 4, 2) := by decide +kernel
theorem dL_law_311 : decode cL_law 311 = .ok (.iconst 1, 1) := by decide +kernel
theorem dL_law_312 : decode cL_law 312 = .ok (.iadd, 1) := by decide +kernel
theorem dL_law_313 : decode cL_law 313 = .ok (.iaload, 1) := by decide +kernel
theorem dL_law_314 : decode cL_law 314 = .ok (.aload_n 0, 1) := by decide +kernel
theorem dL_law_315 : decode cL_law 315 = .ok (.iload 4, 2) := by decide +kernel
theorem dL_law_317 : decode cL_law 317 = .ok (.iconst 2, 1) := by decide +kernel
theorem dL_law_318 : decode cL_law 318 = .ok (.iadd, 1) := by decide +kernel
theorem dL_law_319 : decode cL_law 319 = .ok (.iaload, 1) := by decide +kernel
theorem dL_law_320 : decode cL_law 320 = .ok (.invokevirtual 149, 3) := by decide +kernel
theorem dL_law_323 : decode cL_law 323 = .ok (.istore 6, 2) := by decide +kernel
theorem dL_law_325 : decode cL_law 325 = .ok (.aload_n 2, 1) := by decide +kernel
theorem dL_law_326 : decode cL_law 326 = .ok (.invokevirtual 142, 3) := by decide +kernel
theorem dL_law_329 : decode cL_law 329 = .ok (.iload 5, 2) := by decide +kernel
theorem dL_law_331 : decode cL_law 331 = .ok (.if_icmp .eq 5, 3) := by decide +kernel
theorem dL_law_334 : decode cL_law 334 = .ok (.iconst 0, 1) := by decide +kernel
theorem dL_law_335 : decode cL_law 335 = .ok (.ireturn, 1) := by decide +kernel
theorem dL_law_336 : decode cL_law 336 = .ok (.iload 5, 2) := by decide +kernel
theorem dL_law_338 : decode cL_law 338 = .ok (.ifCond .ne 15, 3) := by decide +kernel
theorem dL_law_341 : decode cL_law 341 = .ok (.aload_n 3, 1) := by decide +kernel
theorem dL_law_342 : decode cL_law 342 = .ok (.iconst 0, 1) := by decide +kernel
theorem dL_law_343 : decode cL_law 343 = .ok (.laload, 1) := by decide +kernel
theorem dL_law_344 : decode cL_law 344 = .ok (.iload 6, 2) := by decide +kernel
theorem dL_law_346 : decode cL_law 346 = .ok (.i2l, 1) := by decide +kernel
theorem dL_law_347 : decode cL_law 347 = .ok (.lcmp, 1) := by decide +kernel
theorem dL_law_348 : decode cL_law 348 = .ok (.ifCond .eq 5, 3) := by decide +kernel
theorem dL_law_351 : decode cL_law 351 = .ok (.iconst 0, 1) := by decide +kernel
theorem dL_law_352 : decode cL_law 352 = .ok (.ireturn, 1) := by decide +kernel
theorem dL_law_353 : decode cL_law 353 = .ok (.goto 2359, 3) := by decide +kernel
theorem dL_law_356 : decode cL_law 356 = .ok (.aload_n 1, 1) := by decide +kernel
theorem dL_law_357 : decode cL_law 357 = .ok (.aload_n 0, 1) := by decide +kernel
theorem dL_law_358 : decode cL_law 358 = .ok (.iload 4, 2) := by decide +kernel
theorem dL_law_360 : decode cL_law 360 = .ok (.iconst 1, 1) := by decide +kernel
theorem dL_law_361 : decode cL_law 361 = .ok (.iadd, 1) := by decide +kernel
theorem dL_law_362 : decode cL_law 362 = .ok (.iaload, 1) := by decide +kernel
theorem dL_law_363 : decode cL_law 363 = .ok (.aload_n 0, 1) := by decide +kernel
theorem dL_law_364 : decode cL_law 364 = .ok (.iload 4, 2) := by decide +kernel
theorem dL_law_366 : decode cL_law 366 = .ok (.iconst 2, 1) := by decide +kernel
theorem dL_law_367 : decode cL_law 367 = .ok (.iadd, 1) := by decide +kernel
theorem dL_law_368 : decode cL_law 368 = .ok (.iaload, 1) := by decide +kernel
theorem dL_law_369 : decode cL_law 369 = .ok (.aload_n 3, 1) := by decide +kernel
theorem dL_law_370 : decode cL_law 370 = .ok (.invokestatic 150, 3) := by decide +kernel
theorem dL_law_373 : decode cL_law 373 = .ok (.istore 5, 2) := by decide +kernel
theorem dL_law_375 : decode cL_law 375 = .ok (.aload_n 2, 1) := by decide +kernel
theorem dL_law_376 : decode cL_law 376 = .ok (.aload_n 0, 1) := by decide +kernel
theorem dL_law_377 : decode cL_law 377 = .ok (.iload 4, 2) := by decide +kernel
theorem dL_law_379 : decode cL_law 379 = .ok (.iconst 1, 1) := by decide +kernel
theorem dL_law_380 : decode cL_law 380 = .ok (.iadd, 1) := by decide +kernel
theorem dL_law_381 : decode cL_law 381 = .ok (.iaload, 1) := by decide +kernel
theorem dL_law_382 : decode cL_law 382 = .ok (.aload_n 0, 1) := by decide +kernel
theorem dL_law_383 : decode cL_law 383 = .ok (.iload 4, 2) := by decide +kernel
theorem dL_law_385 : decode cL_law 385 = .ok (.iconst 2, 1) := by decide +kernel
theorem dL_law_386 : decode cL_law 386 = .ok (.iadd, 1) := by decide +kernel
theorem dL_law_387 : decode cL_law 387 = .ok (.iaload, 1) := by decide +kernel
theorem dL_law_388 : decode cL_law 388 = .ok (.invokevirtual 152, 3) := by decide +kernel
theorem dL_law_391 : decode cL_law 391 = .ok (.istore 6, 2) := by decide +kernel
theorem dL_law_393 : decode cL_law 393 = .ok (.aload_n 2, 1) := by decide +kernel
theorem dL_law_394 : decode cL_law 394 = .ok (.invokevirtual 142, 3) := by decide +kernel
theorem dL_law_397 : decode cL_law 397 = .ok (.iload 5, 2) := by decide +kernel
theorem dL_law_399 : decode cL_law 399 = .ok (.if_icmp .eq 5, 3) := by decide +kernel
theorem dL_law_402 : decode cL_law 402 = .ok (.iconst 0, 1) := by decide +kernel
theorem dL_law_403 : decode cL_law 403 = .ok (.ireturn, 1) := by decide +kernel
theorem dL_law_404 : decode cL_law 404 = .ok (.iload 5, 2) := by decide +kernel
theorem dL_law_406 : decode cL_law 406 = .ok (.ifCond .ne 15, 3) := by decide +kernel
theorem dL_law_409 : decode cL_law 409 = .ok (.aload_n 3, 1) := by decide +kernel
theorem dL_law_410 : decode cL_law 410 = .ok (.iconst 0, 1) := by decide +kernel
theorem dL_law_411 : decode cL_law 411 = .ok (.laload, 1) := by decide +kernel
theorem dL_law_412 : decode cL_law 412 = .ok (.iload 6, 2) := by decide +kernel
theorem dL_law_414 : decode cL_law 414 = .ok (.i2l, 1) := by decide +kernel
theorem dL_law_415 : decode cL_law 415 = .ok (.lcmp, 1) := by decide +kernel
theorem dL_law_416 : decode cL_law 416 = .ok (.ifCond .eq 5, 3) := by decide +kernel
theorem dL_law_419 : decode cL_law 419 = .ok (.iconst 0, 1) := by decide +kernel
theorem dL_law_420 : decode cL_law 420 = .ok (.ireturn, 1) := by decide +kernel
theorem dL_law_421 : decode cL_law 421 = .ok (.goto 2291, 3) := by decide +kernel
theorem dL_law_424 : decode cL_law 424 = .ok (.aload_n 1, 1) := by decide +kernel
theorem dL_law_425 : decode cL_law 425 = .ok (.aload_n 0, 1) := by decide +kernel
theorem dL_law_426 : decode cL_law 426 = .ok (.iload 4, 2) := by decide +kernel
theorem dL_law_428 : decode cL_law 428 = .ok (.iconst 1, 1) := by decide +kernel
theorem dL_law_429 : decode cL_law 429 = .ok (.iadd, 1) := by decide +kernel
theorem dL_law_430 : decode cL_law 430 = .ok (.iaload, 1) := by decide +kernel
theorem dL_law_431 : decode cL_law 431 = .ok (.aload_n 0, 1) := by decide +kernel
theorem dL_law_432 : decode cL_law 432 = .ok (.iload 4, 2) := by decide +kernel
theorem dL_law_434 : decode cL_law 434 = .ok (.iconst 2, 1) := by decide +kernel
theorem dL_law_435 : decode cL_law 435 = .ok (.iadd, 1) := by decide +kernel
theorem dL_law_436 : decode cL_law 436 = .ok (.iaload, 1) := by decide +kernel
theorem dL_law_437 : decode cL_law 437 = .ok (.aload_n 3, 1) := by decide +kernel
theorem dL_law_438 : decode cL_law 438 = .ok (.invokestatic 153, 3) := by decide +kernel
theorem dL_law_441 : decode cL_law 441 = .ok (.istore 5, 2) := by decide +kernel
theorem dL_law_443 : decode cL_law 443 = .ok (.aload_n 2, 1) := by decide +kernel
theorem dL_law_444 : decode cL_law 444 = .ok (.aload_n 0, 1) := by decide +kernel
theorem dL_law_445 : decode cL_law 445 = .ok (.iload 4, 2) := by decide +kernel
theorem dL_law_447 : decode cL_law 447 = .ok (.iconst 1, 1) := by decide +kernel
theorem dL_law_448 : decode cL_law 448 = .ok (.iadd, 1) := by decide +kernel
theorem dL_law_449 : decode cL_law 449 = .ok (.iaload, 1) := by decide +kernel
theorem dL_law_450 : decode cL_law 450 = .ok (.aload_n 0, 1) := by decide +kernel
theorem dL_law_451 : decode cL_law 451 = .ok (.iload 4, 2) := by decide +kernel
theorem dL_law_453 : decode cL_law 453 = .ok (.iconst 2, 1) := by decide +kernel
theorem dL_law_454 : decode cL_law 454 = .ok (.iadd, 1) := by decide +kernel
theorem dL_law_455 : decode cL_law 455 = .ok (.iaload, 1) := by decide +kernel
theorem dL_law_456 : decode cL_law 456 = .ok (.invokevirtual 155, 3) := by decide +kernel
theorem dL_law_459 : decode cL_law 459 = .ok (.istore 6, 2) := by decide +kernel
theorem dL_law_461 : decode cL_law 461 = .ok (.aload_n 2, 1) := by decide +kernel
theorem dL_law_462 : decode cL_law 462 = .ok (.invokevirtual 142, 3) := by decide +kernel
theorem dL_law_465 : decode cL_law 465 = .ok (.iload 5, 2) := by decide +kernel
theorem dL_law_467 : decode cL_law 467 = .ok (.if_icmp .eq 5, 3) := by decide +kernel
theorem dL_law_470 : decode cL_law 470 = .ok (.iconst 0, 1) := by decide +kernel
theorem dL_law_471 : decode cL_law 471 = .ok (.ireturn, 1) := by decide +kernel
theorem dL_law_472 : decode cL_law 472 = .ok (.iload 5, 2) := by decide +kernel
theorem dL_law_474 : decode cL_law 474 = .ok (.ifCond .ne 15, 3) := by decide +kernel
theorem dL_law_477 : decode cL_law 477 = .ok (.aload_n 3, 1) := by decide +kernel
theorem dL_law_478 : decode cL_law 478 = .ok (.iconst 0, 1) := by decide +kernel
theorem dL_law_479 : decode cL_law 479 = .ok (.laload, 1) := by decide +kernel
theorem dL_law_480 : decode cL_law 480 = .ok (.iload 6, 2) := by decide +kernel
theorem dL_law_482 : decode cL_law 482 = .ok (.i2l, 1) := by decide +kernel
theorem dL_law_483 : decode cL_law 483 = .ok (.lcmp, 1) := by decide +kernel
theorem dL_law_484 : decode cL_law 484 = .ok (.ifCond .eq 5, 3) := by decide +kernel
theorem dL_law_487 : decode cL_law 487 = .ok (.iconst 0, 1) := by decide +kernel
theorem dL_law_488 : decode cL_law 488 = .ok (.ireturn, 1) := by decide +kernel
theorem dL_law_489 : decode cL_law 489 = .ok (.goto 2223, 3) := by decide +kernel
theorem dL_law_492 : decode cL_law 492 = .ok (.aload_n 1, 1) := by decide +kernel
theorem dL_law_493 : decode cL_law 493 = .ok (.aload_n 0, 1) := by decide +kernel
theorem dL_law_494 : decode cL_law 494 = .ok (.iload 4, 2) := by decide +kernel
theorem dL_law_496 : decode cL_law 496 = .ok (.iconst 1, 1) := by decide +kernel
theorem dL_law_497 : decode cL_law 497 = .ok (.iadd, 1) := by decide +kernel
theorem dL_law_498 : decode cL_law 498 = .ok (.iaload, 1) := by decide +kernel
theorem dL_law_499 : decode cL_law 499 = .ok (.aload_n 3, 1) := by decide +kernel
theorem dL_law_500 : decode cL_law 500 = .ok (.invokestatic 156, 3) := by decide +kernel
theorem dL_law_503 : decode cL_law 503 = .ok (.istore 5, 2) := by decide +kernel
theorem dL_law_505 : decode cL_law 505 = .ok (.aload_n 2, 1) := by decide +kernel
theorem dL_law_506 : decode cL_law 506 = .ok (.aload_n 0, 1) := by decide +kernel
theorem dL_law_507 : decode cL_law 507 = .ok (.iload 4, 2) := by decide +kernel
theorem dL_law_509 : decode cL_law 509 = .ok (.iconst 1, 1) := by decide +kernel
theorem dL_law_510 : decode cL_law 510 = .ok (.iadd, 1) := by decide +kernel
theorem dL_law_511 : decode cL_law 511 = .ok (.iaload, 1) := by decide +kernel
theorem dL_law_512 : decode cL_law 512 = .ok (.invokevirtual 158, 3) := by decide +kernel
theorem dL_law_515 : decode cL_law 515 = .ok (.istore 6, 2) := by decide +kernel
theorem dL_law_517 : decode cL_law 517 = .ok (.aload_n 2, 1) := by decide +kernel
theorem dL_law_518 : decode cL_law 518 = .ok (.invokevirtual 142, 3) := by decide +kernel
theorem dL_law_521 : decode cL_law 521 = .ok (.iload 5, 2) := by decide +kernel
theorem dL_law_523 : decode cL_law 523 = .ok (.if_icmp .eq 5, 3) := by decide +kernel
theorem dL_law_526 : decode cL_law 526 = .ok (.iconst 0, 1) := by decide +kernel
theorem dL_law_527 : decode cL_law 527 = .ok (.ireturn, 1) := by decide +kernel
theorem dL_law_528 : decode cL_law 528 = .ok (.iload 5, 2) := by decide +kernel
theorem dL_law_530 : decode cL_law 530 = .ok (.ifCond .ne 22, 3) := by decide +kernel
theorem dL_law_533 : decode cL_law 533 = .ok (.aload_n 3, 1) := by decide +kernel
theorem dL_law_534 : decode cL_law 534 = .ok (.iconst 0, 1) := by decide +kernel
theorem dL_law_535 : decode cL_law 535 = .ok (.laload, 1) := by decide +kernel
theorem dL_law_536 : decode cL_law 536 = .ok (.iload 6, 2) := by decide +kernel
theorem dL_law_538 : decode cL_law 538 = .ok (.ifCond .eq 7, 3) := by decide +kernel
theorem dL_law_541 : decode cL_law 541 = .ok (.lconst 1, 1) := by decide +kernel
theorem dL_law_542 : decode cL_law 542 = .ok (.goto 4, 3) := by decide +kernel
theorem dL_law_545 : decode cL_law 545 = .ok (.lconst 0, 1) := by decide +kernel
theorem dL_law_546 : decode cL_law 546 = .ok (.lcmp, 1) := by decide +kernel
theorem dL_law_547 : decode cL_law 547 = .ok (.ifCond .eq 5, 3) := by decide +kernel
theorem dL_law_550 : decode cL_law 550 = .ok (.iconst 0, 1) := by decide +kernel
theorem dL_law_551 : decode cL_law 551 = .ok (.ireturn, 1) := by decide +kernel
theorem dL_law_552 : decode cL_law 552 = .ok (.goto 2160, 3) := by decide +kernel
theorem dL_law_555 : decode cL_law 555 = .ok (.aload_n 1, 1) := by decide +kernel
theorem dL_law_556 : decode cL_law 556 = .ok (.aload_n 0, 1) := by decide +kernel
theorem dL_law_557 : decode cL_law 557 = .ok (.iload 4, 2) := by decide +kernel
theorem dL_law_559 : decode cL_law 559 = .ok (.iconst 1, 1) := by decide +kernel
theorem dL_law_560 : decode cL_law 560 = .ok (.iadd, 1) := by decide +kernel
theorem dL_law_561 : decode cL_law 561 = .ok (.iaload, 1) := by decide +kernel
theorem dL_law_562 : decode cL_law 562 = .ok (.aload_n 0, 1) := by decide +kernel
theorem dL_law_563 : decode cL_law 563 = .ok (.iload 4, 2) := by decide +kernel
theorem dL_law_565 : decode cL_law 565 = .ok (.iconst 2, 1) := by decide +kernel
theorem dL_law_566 : decode cL_law 566 = .ok (.iadd, 1) := by decide +kernel
theorem dL_law_567 : decode cL_law 567 = .ok (.iaload, 1) := by decide +kernel
theorem dL_law_568 : decode cL_law 568 = .ok (.aload_n 0, 1) := by decide +kernel
theorem dL_law_569 : decode cL_law 569 = .ok (.iload 4, 2) := by decide +kernel
theorem dL_law_571 : decode cL_law 571 = .ok (.iconst 3, 1) := by decide +kernel
theorem dL_law_572 : decode cL_law 572 = .ok (.iadd, 1) := by decide +kernel
theorem dL_law_573 : decode cL_law 573 = .ok (.iaload, 1) := by decide +kernel
theorem dL_law_574 : decode cL_law 574 = .ok (.aload_n 0, 1) := by decide +kernel
theorem dL_law_575 : decode cL_law 575 = .ok (.iload 4, 2) := by decide +kernel
theorem dL_law_577 : decode cL_law 577 = .ok (.iconst 4, 1) := by decide +kernel
theorem dL_law_578 : decode cL_law 578 = .ok (.iadd, 1) := by decide +kernel
theorem dL_law_579 : decode cL_law 579 = .ok (.iaload, 1) := by decide +kernel
theorem dL_law_580 : decode cL_law 580 = .ok (.aload_n 3, 1) := by decide +kernel
theorem dL_law_581 : decode cL_law 581 = .ok (.invokestatic 159, 3) := by decide +kernel
theorem dL_law_584 : decode cL_law 584 = .ok (.istore 5, 2) := by decide +kernel
theorem dL_law_586 : decode cL_law 586 = .ok (.aload_n 2, 1) := by decide +kernel
theorem dL_law_587 : decode cL_law 587 = .ok (.aload_n 0, 1) := by decide +kernel
theorem dL_law_588 : decode cL_law 588 = .ok (.iload 4, 2) := by decide +kernel
theorem dL_law_590 : decode cL_law 590 = .ok (.iconst 1, 1) := by decide +kernel
theorem dL_law_591 : decode cL_law 591 = .ok (.iadd, 1) := by decide +kernel
theorem dL_law_592 : decode cL_law 592 = .ok (.iaload, 1) := by decide +kernel
theorem dL_law_593 : decode cL_law 593 = .ok (.aload_n 0, 1) := by decide +kernel
theorem dL_law_594 : decode cL_law 594 = .ok (.iload 4, 2) := by decide +kernel
theorem dL_law_596 : decode cL_law 596 = .ok (.iconst 2, 1) := by decide +kernel
theorem dL_law_597 : decode cL_law 597 = .ok (.iadd, 1) := by decide +kernel
theorem dL_law_598 : decode cL_law 598 = .ok (.iaload, 1) := by decide +kernel
theorem dL_law_599 : decode cL_law 599 = .ok (.aload_n 0, 1) := by decide +kernel
theorem dL_law_600 : decode cL_law 600 = .ok (.iload 4, 2) := by decide +kernel
theorem dL_law_602 : decode cL_law 602 = .ok (.iconst 3, 1) := by decide +kernel
theorem dL_law_603 : decode cL_law 603 = .ok (.iadd, 1) := by decide +kernel
theorem dL_law_604 : decode cL_law 604 = .ok (.iaload, 1) := by decide +kernel
theorem dL_law_605 : decode cL_law 605 = .ok (.aload_n 0, 1) := by decide +kernel
theorem dL_law_606 : decode cL_law 606 = .ok (.iload 4, 2) := by decide +kernel
theorem dL_law_608 : decode cL_law 608 = .ok (.iconst 4, 1) := by decide +kernel
theorem dL_law_609 : decode cL_law 609 = .ok (.iadd, 1) := by decide +kernel
theorem dL_law_610 : decode cL_law 610 = .ok (.iaload, 1) := by decide +kernel
theorem dL_law_611 : decode cL_law 611 = .ok (.invokevirtual 162, 3) := by decide +kernel
theorem dL_law_614 : decode cL_law 614 = .ok (.istore 6, 2) := by decide +kernel
theorem dL_law_616 : decode cL_law 616 = .ok (.aload_n 2, 1) := by decide +kernel
theorem dL_law_617 : decode cL_law 617 = .ok (.invokevirtual 142, 3) := by decide +kernel
theorem dL_law_620 : decode cL_law 620 = .ok (.iload 5, 2) := by decide +kernel
theorem dL_law_622 : decode cL_law 622 = .ok (.if_icmp .eq 5, 3) := by decide +kernel
theorem dL_law_625 : decode cL_law 625 = .ok (.iconst 0, 1) := by decide +kernel
theorem dL_law_626 : decode cL_law 626 = .ok (.ireturn, 1) := by decide +kernel
theorem dL_law_627 : decode cL_law 627 = .ok (.iload 5, 2) := by decide +kernel
theorem dL_law_629 : decode cL_law 629 = .ok (.ifCond .ne 15, 3) := by decide +kernel
theorem dL_law_632 : decode cL_law 632 = .ok (.aload_n 3, 1) := by decide +kernel
theorem dL_law_633 : decode cL_law 633 = .ok (.iconst 0, 1) := by decide +kernel
theorem dL_law_634 : decode cL_law 634 = .ok (.laload, 1) := by decide +kernel
theorem dL_law_635 : decode cL_law 635 = .ok (.iload 6, 2) := by decide +kernel
theorem dL_law_637 : decode cL_law 637 = .ok (.i2l, 1) := by decide +kernel
theorem dL_law_638 : decode cL_law 638 = .ok (.lcmp, 1) := by decide +kernel
theorem dL_law_639 : decode cL_law 639 = .ok (.ifCond .eq 5, 3) := by decide +kernel
theorem dL_law_642 : decode cL_law 642 = .ok (.iconst 0, 1) := by decide +kernel
theorem dL_law_643 : decode cL_law 643 = .ok (.ireturn, 1) := by decide +kernel
theorem dL_law_644 : decode cL_law 644 = .ok (.goto 2068, 3) := by decide +kernel
theorem dL_law_647 : decode cL_law 647 = .ok (.aload_n 1, 1) := by decide +kernel
theorem dL_law_648 : decode cL_law 648 = .ok (.aload_n 0, 1) := by decide +kernel
theorem dL_law_649 : decode cL_law 649 = .ok (.iload 4, 2) := by decide +kernel
theorem dL_law_651 : decode cL_law 651 = .ok (.iconst 1, 1) := by decide +kernel
theorem dL_law_652 : decode cL_law 652 = .ok (.iadd, 1) := by decide +kernel
theorem dL_law_653 : decode cL_law 653 = .ok (.iaload, 1) := by decide +kernel
theorem dL_law_654 : decode cL_law 654 = .ok (.aload_n 3, 1) := by decide +kernel
theorem dL_law_655 : decode cL_law 655 = .ok (.invokestatic 163, 3) := by decide +kernel
theorem dL_law_658 : decode cL_law 658 = .ok (.istore 5, 2) := by decide +kernel
theorem dL_law_660 : decode cL_law 660 = .ok (.aload_n 2, 1) := by decide +kernel
theorem dL_law_661 : decode cL_law 661 = .ok (.aload_n 0, 1) := by decide +kernel
theorem dL_law_662 : decode cL_law 662 = .ok (.iload 4, 2) := by decide +kernel
theorem dL_law_664 : decode cL_law 664 = .ok (.iconst 1, 1) := by decide +kernel
theorem dL_law_665 : decode cL_law 665 = .ok (.iadd, 1) := by decide +kernel
theorem dL_law_666 : decode cL_law 666 = .ok (.iaload, 1) := by decide +kernel
theorem dL_law_667 : decode cL_law 667 = .ok (.invokevirtual 165, 3) := by decide +kernel
theorem dL_law_670 : decode cL_law 670 = .ok (.istore 6, 2) := by decide +kernel
theorem dL_law_672 : decode cL_law 672 = .ok (.aload_n 2, 1) := by decide +kernel
theorem dL_law_673 : decode cL_law 673 = .ok (.invokevirtual 142, 3) := by decide +kernel
theorem dL_law_676 : decode cL_law 676 = .ok (.iload 5, 2) := by decide +kernel
theorem dL_law_678 : decode cL_law 678 = .ok (.if_icmp .eq 5, 3) := by decide +kernel
theorem dL_law_681 : decode cL_law 681 = .ok (.iconst 0, 1) := by decide +kernel
theorem dL_law_682 : decode cL_law 682 = .ok (.ireturn, 1) := by decide +kernel
theorem dL_law_683 : decode cL_law 683 = .ok (.iload 5, 2) := by decide +kernel
theorem dL_law_685 : decode cL_law 685 = .ok (.ifCond .ne 22, 3) := by decide +kernel
theorem dL_law_688 : decode cL_law 688 = .ok (.aload_n 3, 1) := by decide +kernel
theorem dL_law_689 : decode cL_law 689 = .ok (.iconst 0, 1) := by decide +kernel
theorem dL_law_690 : decode cL_law 690 = .ok (.laload, 1) := by decide +kernel
theorem dL_law_691 : decode cL_law 691 = .ok (.iload 6, 2) := by decide +kernel
theorem dL_law_693 : decode cL_law 693 = .ok (.ifCond .eq 7, 3) := by decide +kernel
theorem dL_law_696 : decode cL_law 696 = .ok (.lconst 1, 1) := by decide +kernel
theorem dL_law_697 : decode cL_law 697 = .ok (.goto 4, 3) := by decide +kernel
theorem dL_law_700 : decode cL_law 700 = .ok (.lconst 0, 1) := by decide +kernel
theorem dL_law_701 : decode cL_law 701 = .ok (.lcmp, 1) := by decide +kernel
theorem dL_law_702 : decode cL_law 702 = .ok (.ifCond .eq 5, 3) := by decide +kernel
theorem dL_law_705 : decode cL_law 705 = .ok (.iconst 0, 1) := by decide +kernel
theorem dL_law_706 : decode cL_law 706 = .ok (.ireturn, 1) := by decide +kernel
theorem dL_law_707 : decode cL_law 707 = .ok (.goto 2005, 3) := by decide +kernel
theorem dL_law_710 : decode cL_law 710 = .ok (.aload_n 1, 1) := by decide +kernel
theorem dL_law_711 : decode cL_law 711 = .ok (.aload_n 0, 1) := by decide +kernel
theorem dL_law_712 : decode cL_law 712 = .ok (.iload 4, 2) := by decide +kernel
theorem dL_law_714 : decode cL_law 714 = .ok (.iconst 1, 1) := by decide +kernel
theorem dL_law_715 : decode cL_law 715 = .ok (.iadd, 1) := by decide +kernel
theorem dL_law_716 : decode cL_law 716 = .ok (.iaload, 1) := by decide +kernel
theorem dL_law_717 : decode cL_law 717 = .ok (.aload_n 0, 1) := by decide +kernel
theorem dL_law_718 : decode cL_law 718 = .ok (.iload 4, 2) := by decide +kernel
theorem dL_law_720 : decode cL_law 720 = .ok (.iconst 2, 1) := by decide +kernel
theorem dL_law_721 : decode cL_law 721 = .ok (.iadd, 1) := by decide +kernel
theorem dL_law_722 : decode cL_law 722 = .ok (.iaload, 1) := by decide +kernel
theorem dL_law_723 : decode cL_law 723 = .ok (.aload_n 3, 1) := by decide +kernel
theorem dL_law_724 : decode cL_law 724 = .ok (.invokestatic 166, 3) := by decide +kernel
theorem dL_law_727 : decode cL_law 727 = .ok (.istore 5, 2) := by decide +kernel
theorem dL_law_729 : decode cL_law 729 = .ok (.aload_n 2, 1) := by decide +kernel
theorem dL_law_730 : decode cL_law 730 = .ok (.aload_n 0, 1) := by decide +kernel
theorem dL_law_731 : decode cL_law 731 = .ok (.iload 4, 2) := by decide +kernel
theorem dL_law_733 : decode cL_law 733 = .ok (.iconst 1, 1) := by decide +kernel
theorem dL_law_734 : decode cL_law 734 = .ok (.iadd, 1) := by decide +kernel
theorem dL_law_735 : decode cL_law 735 = .ok (.iaload, 1) := by decide +kernel
theorem dL_law_736 : decode cL_law 736 = .ok (.aload_n 0, 1) := by decide +kernel
theorem dL_law_737 : decode cL_law 737 = .ok (.iload 4, 2) := by decide +kernel
theorem dL_law_739 : decode cL_law 739 = .ok (.iconst 2, 1) := by decide +kernel
theorem dL_law_740 : decode cL_law 740 = .ok (.iadd, 1) := by decide +kernel
theorem dL_law_741 : decode cL_law 741 = .ok (.iaload, 1) := by decide +kernel
theorem dL_law_742 : decode cL_law 742 = .ok (.invokevirtual 168, 3) := by decide +kernel
theorem dL_law_745 : decode cL_law 745 = .ok (.istore 6, 2) := by decide +kernel
theorem dL_law_747 : decode cL_law 747 = .ok (.aload_n 2, 1) := by decide +kernel
theorem dL_law_748 : decode cL_law 748 = .ok (.invokevirtual 142, 3) := by decide +kernel
theorem dL_law_751 : decode cL_law 751 = .ok (.iload 5, 2) := by decide +kernel
theorem dL_law_753 : decode cL_law 753 = .ok (.if_icmp .eq 5, 3) := by decide +kernel
theorem dL_law_756 : decode cL_law 756 = .ok (.iconst 0, 1) := by decide +kernel
theorem dL_law_757 : decode cL_law 757 = .ok (.ireturn, 1) := by decide +kernel
theorem dL_law_758 : decode cL_law 758 = .ok (.iload 5, 2) := by decide +kernel
theorem dL_law_760 : decode cL_law 760 = .ok (.ifCond .ne 15, 3) := by decide +kernel
theorem dL_law_763 : decode cL_law 763 = .ok (.aload_n 3, 1) := by decide +kernel
theorem dL_law_764 : decode cL_law 764 = .ok (.iconst 0, 1) := by decide +kernel
theorem dL_law_765 : decode cL_law 765 = .ok (.laload, 1) := by decide +kernel
theorem dL_law_766 : decode cL_law 766 = .ok (.iload 6, 2) := by decide +kernel
theorem dL_law_768 : decode cL_law 768 = .ok (.i2l, 1) := by decide +kernel
theorem dL_law_769 : decode cL_law 769 = .ok (.lcmp, 1) := by decide +kernel
theorem dL_law_770 : decode cL_law 770 = .ok (.ifCond .eq 5, 3) := by decide +kernel
theorem dL_law_773 : decode cL_law 773 = .ok (.iconst 0, 1) := by decide +kernel
theorem dL_law_774 : decode cL_law 774 = .ok (.ireturn, 1) := by decide +kernel
theorem dL_law_775 : decode cL_law 775 = .ok (.goto 1937, 3) := by decide +kernel
theorem dL_law_778 : decode cL_law 778 = .ok (.aload_n 1, 1) := by decide +kernel
theorem dL_law_779 : decode cL_law 779 = .ok (.aload_n 0, 1) := by decide +kernel
theorem dL_law_780 : decode cL_law 780 = .ok (.iload 4, 2) := by decide +kernel
theorem dL_law_782 : decode cL_law 782 = .ok (.iconst 1, 1) := by decide +kernel
theorem dL_law_783 : decode cL_law 783 = .ok (.iadd, 1) := by decide +kernel
theorem dL_law_784 : decode cL_law 784 = .ok (.iaload, 1) := by decide +kernel
theorem dL_law_785 : decode cL_law 785 = .ok (.aload_n 0, 1) := by decide +kernel
theorem dL_law_786 : decode cL_law 786 = .ok (.iload 4, 2) := by decide +kernel
theorem dL_law_788 : decode cL_law 788 = .ok (.iconst 2, 1) := by decide +kernel
theorem dL_law_789 : decode cL_law 789 = .ok (.iadd, 1) := by decide +kernel
theorem dL_law_790 : decode cL_law 790 = .ok (.iaload, 1) := by decide +kernel
theorem dL_law_791 : decode cL_law 791 = .ok (.aload_n 3, 1) := by decide +kernel
theorem dL_law_792 : decode cL_law 792 = .ok (.invokestatic 169, 3) := by decide +kernel
theorem dL_law_795 : decode cL_law 795 = .ok (.istore 5, 2) := by decide +kernel
theorem dL_law_797 : decode cL_law 797 = .ok (.aload_n 2, 1) := by decide +kernel
theorem dL_law_798 : decode cL_law 798 = .ok (.aload_n 0, 1) := by decide +kernel
theorem dL_law_799 : decode cL_law 799 = .ok (.iload 4, 2) := by decide +kernel
theorem dL_law_801 : decode cL_law 801 = .ok (.iconst 1, 1) := by decide +kernel
theorem dL_law_802 : decode cL_law 802 = .ok (.iadd, 1) := by decide +kernel
theorem dL_law_803 : decode cL_law 803 = .ok (.iaload, 1) := by decide +kernel
theorem dL_law_804 : decode cL_law 804 = .ok (.aload_n 0, 1) := by decide +kernel
theorem dL_law_805 : decode cL_law 805 = .ok (.iload 4, 2) := by decide +kernel
theorem dL_law_807 : decode cL_law 807 = .ok (.iconst 2, 1) := by decide +kernel
theorem dL_law_808 : decode cL_law 808 = .ok (.iadd, 1) := by decide +kernel
theorem dL_law_809 : decode cL_law 809 = .ok (.iaload, 1) := by decide +kernel
theorem dL_law_810 : decode cL_law 810 = .ok (.invokevirtual 171, 3) := by decide +kernel
theorem dL_law_813 : decode cL_law 813 = .ok (.istore 6, 2) := by decide +kernel
theorem dL_law_815 : decode cL_law 815 = .ok (.aload_n 2, 1) := by decide +kernel
theorem dL_law_816 : decode cL_law 816 = .ok (.invokevirtual 142, 3) := by decide +kernel
theorem dL_law_819 : decode cL_law 819 = .ok (.iload 5, 2) := by decide +kernel
theorem dL_law_821 : decode cL_law 821 = .ok (.if_icmp .eq 5, 3) := by decide +kernel
theorem dL_law_824 : decode cL_law 824 = .ok (.iconst 0, 1) := by decide +kernel
theorem dL_law_825 : decode cL_law 825 = .ok (.ireturn, 1) := by decide +kernel
theorem dL_law_826 : decode cL_law 826 = .ok (.iload 5, 2) := by decide +kernel
theorem dL_law_828 : decode cL_law 828 = .ok (.ifCond .ne 15, 3) := by decide +kernel
theorem dL_law_831 : decode cL_law 831 = .ok (.aload_n 3, 1) := by decide +kernel
theorem dL_law_832 : decode cL_law 832 = .ok (.iconst 0, 1) := by decide +kernel
theorem dL_law_833 : decode cL_law 833 = .ok (.laload, 1) := by decide +kernel
theorem dL_law_834 : decode cL_law 834 = .ok (.iload 6, 2) := by decide +kernel
theorem dL_law_836 : decode cL_law 836 = .ok (.i2l, 1) := by decide +kernel
theorem dL_law_837 : decode cL_law 837 = .ok (.lcmp, 1) := by decide +kernel
theorem dL_law_838 : decode cL_law 838 = .ok (.ifCond .eq 5, 3) := by decide +kernel
theorem dL_law_841 : decode cL_law 841 = .ok (.iconst 0, 1) := by decide +kernel
theorem dL_law_842 : decode cL_law 842 = .ok (.ireturn, 1) := by decide +kernel
theorem dL_law_843 : decode cL_law 843 = .ok (.goto 1869, 3) := by decide +kernel
theorem dL_law_846 : decode cL_law 846 = .ok (.aload_n 1, 1) := by decide +kernel
theorem dL_law_847 : decode cL_law 847 = .ok (.aload_n 0, 1) := by decide +kernel
theorem dL_law_848 : decode cL_law 848 = .ok (.iload 4, 2) := by decide +kernel
theorem dL_law_850 : decode cL_law 850 = .ok (.iconst 1, 1) := by decide +kernel
theorem dL_law_851 : decode cL_law 851 = .ok (.iadd, 1) := by decide +kernel
theorem dL_law_852 : decode cL_law 852 = .ok (.iaload, 1) := by decide +kernel
theorem dL_law_853 : decode cL_law 853 = .ok (.aload_n 3, 1) := by decide +kernel
theorem dL_law_854 : decode cL_law 854 = .ok (.invokestatic 172, 3) := by decide +kernel
theorem dL_law_857 : decode cL_law 857 = .ok (.istore 5, 2) := by decide +kernel
theorem dL_law_859 : decode cL_law 859 = .ok (.aload_n 2, 1) := by decide +kernel
theorem dL_law_860 : decode cL_law 860 = .ok (.aload_n 0, 1) := by decide +kernel
theorem dL_law_861 : decode cL_law 861 = .ok (.iload 4, 2) := by decide +kernel
theorem dL_law_863 : decode cL_law 863 = .ok (.iconst 1, 1) := by decide +kernel
theorem dL_law_864 : decode cL_law 864 = .ok (.iadd, 1) := by decide +kernel
theorem dL_law_865 : decode cL_law 865 = .ok (.iaload, 1) := by decide +kernel
theorem dL_law_866 : decode cL_law 866 = .ok (.invokevirtual 174, 3) := by decide +kernel
theorem dL_law_869 : decode cL_law 869 = .ok (.istore 6, 2) := by decide +kernel
theorem dL_law_871 : decode cL_law 871 = .ok (.aload_n 2, 1) := by decide +kernel
theorem dL_law_872 : decode cL_law 872 = .ok (.invokevirtual 142, 3) := by decide +kernel
theorem dL_law_875 : decode cL_law 875 = .ok (.iload 5, 2) := by decide +kernel
theorem dL_law_877 : decode cL_law 877 = .ok (.if_icmp .eq 5, 3) := by decide +kernel
theorem dL_law_880 : decode cL_law 880 = .ok (.iconst 0, 1) := by decide +kernel
theorem dL_law_881 : decode cL_law 881 = .ok (.ireturn, 1) := by decide +kernel
theorem dL_law_882 : decode cL_law 882 = .ok (.iload 5, 2) := by decide +kernel
theorem dL_law_884 : decode cL_law 884 = .ok (.ifCond .ne 15, 3) := by decide +kernel
theorem dL_law_887 : decode cL_law 887 = .ok (.aload_n 3, 1) := by decide +kernel
theorem dL_law_888 : decode cL_law 888 = .ok (.iconst 0, 1) := by decide +kernel
theorem dL_law_889 : decode cL_law 889 = .ok (.laload, 1) := by decide +kernel
theorem dL_law_890 : decode cL_law 890 = .ok (.iload 6, 2) := by decide +kernel
theorem dL_law_892 : decode cL_law 892 = .ok (.i2l, 1) := by decide +kernel
theorem dL_law_893 : decode cL_law 893 = .ok (.lcmp, 1) := by decide +kernel
theorem dL_law_894 : decode cL_law 894 = .ok (.ifCond .eq 5, 3) := by decide +kernel
theorem dL_law_897 : decode cL_law 897 = .ok (.iconst 0, 1) := by decide +kernel
theorem dL_law_898 : decode cL_law 898 = .ok (.ireturn, 1) := by decide +kernel
theorem dL_law_899 : decode cL_law 899 = .ok (.goto 1813, 3) := by decide +kernel
theorem dL_law_902 : decode cL_law 902 = .ok (.aload_n 1, 1) := by decide +kernel
theorem dL_law_903 : decode cL_law 903 = .ok (.invokevirtual 175, 3) := by decide +kernel
theorem dL_law_906 : decode cL_law 906 = .ok (.aload_n 2, 1) := by decide +kernel
theorem dL_law_907 : decode cL_law 907 = .ok (.invokevirtual 178, 3) := by decide +kernel
theorem dL_law_910 : decode cL_law 910 = .ok (.if_icmp .eq 1802, 3) := by decide +kernel
theorem dL_law_913 : decode cL_law 913 = .ok (.iconst 0, 1) := by decide +kernel
theorem dL_law_914 : decode cL_law 914 = .ok (.ireturn, 1) := by decide +kernel
theorem dL_law_915 : decode cL_law 915 = .ok (.aload_n 1, 1) := by decide +kernel
theorem dL_law_916 : decode cL_law 916 = .ok (.invokevirtual 179, 3) := by decide +kernel
theorem dL_law_919 : decode cL_law 919 = .ok (.aload_n 2, 1) := by decide +kernel
theorem dL_law_920 : decode cL_law 920 = .ok (.invokevirtual 182, 3) := by decide +kernel
theorem dL_law_923 : decode cL_law 923 = .ok (.if_icmp .eq 1789, 3) := by decide +kernel
theorem dL_law_926 : decode cL_law 926 = .ok (.iconst 0, 1) := by decide +kernel
theorem dL_law_927 : decode cL_law 927 = .ok (.ireturn, 1) := by decide +kernel
theorem dL_law_928 : decode cL_law 928 = .ok (.aload_n 1, 1) := by decide +kernel
theorem dL_law_929 : decode cL_law 929 = .ok (.invokevirtual 183, 3) := by decide +kernel
theorem dL_law_932 : decode cL_law 932 = .ok (.aload_n 2, 1) := by decide +kernel
theorem dL_law_933 : decode cL_law 933 = .ok (.invokevirtual 186, 3) := by decide +kernel
theorem dL_law_936 : decode cL_law 936 = .ok (.if_icmp .eq 1776, 3) := by decide +kernel
theorem dL_law_939 : decode cL_law 939 = .ok (.iconst 0, 1) := by decide +kernel
theorem dL_law_940 : decode cL_law 940 = .ok (.ireturn, 1) := by decide +kernel
theorem dL_law_941 : decode cL_law 941 = .ok (.aload_n 1, 1) := by decide +kernel
theorem dL_law_942 : decode cL_law 942 = .ok (.invokevirtual 187, 3) := by decide +kernel
theorem dL_law_945 : decode cL_law 945 = .ok (.aload_n 2, 1) := by decide +kernel
theorem dL_law_946 : decode cL_law 946 = .ok (.invokevirtual 190, 3) := by decide +kernel
theorem dL_law_949 : decode cL_law 949 = .ok (.if_icmp .eq 1763, 3) := by decide +kernel
theorem dL_law_952 : decode cL_law 952 = .ok (.iconst 0, 1) := by decide +kernel
theorem dL_law_953 : decode cL_law 953 = .ok (.ireturn, 1) := by decide +kernel
theorem dL_law_954 : decode cL_law 954 = .ok (.aload_n 1, 1) := by decide +kernel
theorem dL_law_955 : decode cL_law 955 = .ok (.aload_n 0, 1) := by decide +kernel
theorem dL_law_956 : decode cL_law 956 = .ok (.iload 4, 2) := by decide +kernel
theorem dL_law_958 : decode cL_law 958 = .ok (.iconst 1, 1) := by decide +kernel
theorem dL_law_959 : decode cL_law 959 = .ok (.iadd, 1) := by decide +kernel
theorem dL_law_960 : decode cL_law 960 = .ok (.iaload, 1) := by decide +kernel
theorem dL_law_961 : decode cL_law 961 = .ok (.aload_n 3, 1) := by decide +kernel
theorem dL_law_962 : decode cL_law 962 = .ok (.invokestatic 191, 3) := by decide +kernel
theorem dL_law_965 : decode cL_law 965 = .ok (.istore 5, 2) := by decide +kernel
theorem dL_law_967 : decode cL_law 967 = .ok (.aload_n 2, 1) := by decide +kernel
theorem dL_law_968 : decode cL_law 968 = .ok (.aload_n 0, 1) := by decide +kernel
theorem dL_law_969 : decode cL_law 969 = .ok (.iload 4, 2) := by decide +kernel
theorem dL_law_971 : decode cL_law 971 = .ok (.iconst 1, 1) := by decide +kernel
theorem dL_law_972 : decode cL_law 972 = .ok (.iadd, 1) := by decide +kernel
theorem dL_law_973 : decode cL_law 973 = .ok (.iaload, 1) := by decide +kernel
theorem dL_law_974 : decode cL_law 974 = .ok (.invokevirtual 193, 3) := by decide +kernel
theorem dL_law_977 : decode cL_law 977 = .ok (.istore 6, 2) := by decide +kernel
theorem dL_law_979 : decode cL_law 979 = .ok (.aload_n 2, 1) := by decide +kernel
theorem dL_law_980 : decode cL_law 980 = .ok (.invokevirtual 142, 3) := by decide +kernel
theorem dL_law_983 : decode cL_law 983 = .ok (.iload 5, 2) := by decide +kernel
theorem dL_law_985 : decode cL_law 985 = .ok (.if_icmp .eq 5, 3) := by decide +kernel
theorem dL_law_988 : decode cL_law 988 = .ok (.iconst 0, 1) := by decide +kernel
theorem dL_law_989 : decode cL_law 989 = .ok (.ireturn, 1) := by decide +kernel
theorem dL_law_990 : decode cL_law 990 = .ok (.iload 5, 2) := by decide +kernel
theorem dL_law_992 : decode cL_law 992 = .ok (.ifCond .ne 15, 3) := by decide +kernel
theorem dL_law_995 : decode cL_law 995 = .ok (.aload_n 3, 1) := by decide +kernel
theorem dL_law_996 : decode cL_law 996 = .ok (.iconst 0, 1) := by decide +kernel
theorem dL_law_997 : decode cL_law 997 = .ok (.laload, 1) := by decide +kernel
theorem dL_law_998 : decode cL_law 998 = .ok (.iload 6, 2) := by decide +kernel
theorem dL_law_1000 : decode cL_law 1000 = .ok (.i2l, 1) := by decide +kernel
theorem dL_law_1001 : decode cL_law 1001 = .ok (.lcmp, 1) := by decide +kernel
theorem dL_law_1002 : decode cL_law 1002 = .ok (.ifCond .eq 5, 3) := by decide +kernel
theorem dL_law_1005 : decode cL_law 1005 = .ok (.iconst 0, 1) := by decide +kernel
theorem dL_law_1006 : decode cL_law 1006 = .ok (.ireturn, 1) := by decide +kernel
theorem dL_law_1007 : decode cL_law 1007 = .ok (.goto 1705, 3) := by decide +kernel
theorem dL_law_1010 : decode cL_law 1010 = .ok (.aload_n 1, 1) := by decide +kernel
theorem dL_law_1011 : decode cL_law 1011 = .ok (.aload_n 0, 1) := by decide +kernel
theorem dL_law_1012 : decode cL_law 1012 = .ok (.iload 4, 2) := by decide +kernel
theorem dL_law_1014 : decode cL_law 1014 = .ok (.iconst 1, 1) := by decide +kernel
theorem dL_law_1015 : decode cL_law 1015 = .ok (.iadd, 1) := by decide +kernel
theorem dL_law_1016 : decode cL_law 1016 = .ok (.iaload, 1) := by decide +kernel
theorem dL_law_1017 : decode cL_law 1017 = .ok (.aload_n 3, 1) := by decide +kernel
theorem dL_law_1018 : decode cL_law 1018 = .ok (.invokestatic 194, 3) := by decide +kernel
theorem dL_law_1021 : decode cL_law 1021 = .ok (.istore 5, 2) := by decide +kernel
theorem dL_law_1023 : decode cL_law 1023 = .ok (.aload_n 2, 1) := by decide +kernel
theorem dL_law_1024 : decode cL_law 1024 = .ok (.aload_n 0, 1) := by decide +kernel
theorem dL_law_1025 : decode cL_law 1025 = .ok (.iload 4, 2) := by decide +kernel
theorem dL_law_1027 : decode cL_law 1027 = .ok (.iconst 1, 1) := by decide +kernel
theorem dL_law_1028 : decode cL_law 1028 = .ok (.iadd, 1) := by decide +kernel
theorem dL_law_1029 : decode cL_law 1029 = .ok (.iaload, 1) := by decide +kernel
theorem dL_law_1030 : decode cL_law 1030 = .ok (.invokevirtual 196, 3) := by decide +kernel
theorem dL_law_1033 : decode cL_law 1033 = .ok (.istore 6, 2) := by decide +kernel
theorem dL_law_1035 : decode cL_law 1035 = .ok (.aload_n 2, 1) := by decide +kernel
theorem dL_law_1036 : decode cL_law 1036 = .ok (.invokevirtual 142, 3) := by decide +kernel
theorem dL_law_1039 : decode cL_law 1039 = .ok (.iload 5, 2) := by decide +kernel
theorem dL_law_1041 : decode cL_law 1041 = .ok (.if_icmp .eq 5, 3) := by decide +kernel
theorem dL_law_1044 : decode cL_law 1044 = .ok (.iconst 0, 1) := by decide +kernel
theorem dL_law_1045 : decode cL_law 1045 = .ok (.ireturn, 1) := by decide +kernel
theorem dL_law_1046 : decode cL_law 1046 = .ok (.iload 5, 2) := by decide +kernel
theorem dL_law_1048 : decode cL_law 1048 = .ok (.ifCond .ne 15, 3) := by decide +kernel
theorem dL_law_1051 : decode cL_law 1051 = .ok (.aload_n 3, 1) := by decide +kernel
theorem dL_law_1052 : decode cL_law 1052 = .ok (.iconst 0, 1) := by decide +kernel
theorem dL_law_1053 : decode cL_law 1053 = .ok (.laload, 1) := by decide +kernel
theorem dL_law_1054 : decode cL_law 1054 = .ok (.iload 6, 2) := by decide +kernel
theorem dL_law_1056 : decode cL_law 1056 = .ok (.i2l, 1) := by decide +kernel
theorem dL_law_1057 : decode cL_law 1057 = .ok (.lcmp, 1) := by decide +kernel
theorem dL_law_1058 : decode cL_law 1058 = .ok (.ifCond .eq 5, 3) := by decide +kernel
theorem dL_law_1061 : decode cL_law 1061 = .ok (.iconst 0, 1) := by decide +kernel
theorem dL_law_1062 : decode cL_law 1062 = .ok (.ireturn, 1) := by decide +kernel
theorem dL_law_1063 : decode cL_law 1063 = .ok (.goto 1649, 3) := by decide +kernel
theorem dL_law_1066 : decode cL_law 1066 = .ok (.aload_n 1, 1) := by decide +kernel
theorem dL_law_1067 : decode cL_law 1067 = .ok (.aload_n 0, 1) := by decide +kernel
theorem dL_law_1068 : decode cL_law 1068 = .ok (.iload 4, 2) := by decide +kernel
theorem dL_law_1070 : decode cL_law 1070 = .ok (.iconst 1, 1) := by decide +kernel
theorem dL_law_1071 : decode cL_law 1071 = .ok (.iadd, 1) := by decide +kernel
theorem dL_law_1072 : decode cL_law 1072 = .ok (.iaload, 1) := by decide +kernel
theorem dL_law_1073 : decode cL_law 1073 = .ok (.aload_n 3, 1) := by decide +kernel
theorem dL_law_1074 : decode cL_law 1074 = .ok (.invokestatic 197, 3) := by decide +kernel
theorem dL_law_1077 : decode cL_law 1077 = .ok (.istore 5, 2) := by decide +kernel
theorem dL_law_1079 : decode cL_law 1079 = .ok (.aload_n 2, 1) := by decide +kernel
theorem dL_law_1080 : decode cL_law 1080 = .ok (.aload_n 0, 1) := by decide +kernel
theorem dL_law_1081 : decode cL_law 1081 = .ok (.iload 4, 2) := by decide +kernel
theorem dL_law_1083 : decode cL_law 1083 = .ok (.iconst 1, 1) := by decide +kernel
theorem dL_law_1084 : decode cL_law 1084 = .ok (.iadd, 1) := by decide +kernel
theorem dL_law_1085 : decode cL_law 1085 = .ok (.iaload, 1) := by decide +kernel
theorem dL_law_1086 : decode cL_law 1086 = .ok (.invokevirtual 199, 3) := by decide +kernel
theorem dL_law_1089 : decode cL_law 1089 = .ok (.istore 6, 2) := by decide +kernel
theorem dL_law_1091 : decode cL_law 1091 = .ok (.aload_n 2, 1) := by decide +kernel
theorem dL_law_1092 : decode cL_law 1092 = .ok (.invokevirtual 142, 3) := by decide +kernel
theorem dL_law_1095 : decode cL_law 1095 = .ok (.iload 5, 2) := by decide +kernel
theorem dL_law_1097 : decode cL_law 1097 = .ok (.if_icmp .eq 5, 3) := by decide +kernel
theorem dL_law_1100 : decode cL_law 1100 = .ok (.iconst 0, 1) := by decide +kernel
theorem dL_law_1101 : decode cL_law 1101 = .ok (.ireturn, 1) := by decide +kernel
theorem dL_law_1102 : decode cL_law 1102 = .ok (.iload 5, 2) := by decide +kernel
theorem dL_law_1104 : decode cL_law 1104 = .ok (.ifCond .ne 15, 3) := by decide +kernel
theorem dL_law_1107 : decode cL_law 1107 = .ok (.aload_n 3, 1) := by decide +kernel
theorem dL_law_1108 : decode cL_law 1108 = .ok (.iconst 0, 1) := by decide +kernel
theorem dL_law_1109 : decode cL_law 1109 = .ok (.laload, 1) := by decide +kernel
theorem dL_law_1110 : decode cL_law 1110 = .ok (.iload 6, 2) := by decide +kernel
theorem dL_law_1112 : decode cL_law 1112 = .ok (.i2l, 1) := by decide +kernel
theorem dL_law_1113 : decode cL_law 1113 = .ok (.lcmp, 1) := by decide +kernel
theorem dL_law_1114 : decode cL_law 1114 = .ok (.ifCond .eq 5, 3) := by decide +kernel
theorem dL_law_1117 : decode cL_law 1117 = .ok (.iconst 0, 1) := by decide +kernel
theorem dL_law_1118 : decode cL_law 1118 = .ok (.ireturn, 1) := by decide +kernel
theorem dL_law_1119 : decode cL_law 1119 = .ok (.goto 1593, 3) := by decide +kernel
theorem dL_law_1122 : decode cL_law 1122 = .ok (.aload_n 1, 1) := by decide +kernel
theorem dL_law_1123 : decode cL_law 1123 = .ok (.aload_n 0, 1) := by decide +kernel
theorem dL_law_1124 : decode cL_law 1124 = .ok (.iload 4, 2) := by decide +kernel
theorem dL_law_1126 : decode cL_law 1126 = .ok (.iconst 1, 1) := by decide +kernel
theorem dL_law_1127 : decode cL_law 1127 = .ok (.iadd, 1) := by decide +kernel
theorem dL_law_1128 : decode cL_law 1128 = .ok (.iaload, 1) := by decide +kernel
theorem dL_law_1129 : decode cL_law 1129 = .ok (.aload_n 3, 1) := by decide +kernel
theorem dL_law_1130 : decode cL_law 1130 = .ok (.invokestatic 200, 3) := by decide +kernel
theorem dL_law_1133 : decode cL_law 1133 = .ok (.istore 5, 2) := by decide +kernel
theorem dL_law_1135 : decode cL_law 1135 = .ok (.aload_n 2, 1) := by decide +kernel
theorem dL_law_1136 : decode cL_law 1136 = .ok (.aload_n 0, 1) := by decide +kernel
theorem dL_law_1137 : decode cL_law 1137 = .ok (.iload 4, 2) := by decide +kernel
theorem dL_law_1139 : decode cL_law 1139 = .ok (.iconst 1, 1) := by decide +kernel
theorem dL_law_1140 : decode cL_law 1140 = .ok (.iadd, 1) := by decide +kernel
theorem dL_law_1141 : decode cL_law 1141 = .ok (.iaload, 1) := by decide +kernel
theorem dL_law_1142 : decode cL_law 1142 = .ok (.invokevirtual 202, 3) := by decide +kernel
theorem dL_law_1145 : decode cL_law 1145 = .ok (.istore 6, 2) := by decide +kernel
theorem dL_law_1147 : decode cL_law 1147 = .ok (.aload_n 2, 1) := by decide +kernel
theorem dL_law_1148 : decode cL_law 1148 = .ok (.invokevirtual 142, 3) := by decide +kernel
theorem dL_law_1151 : decode cL_law 1151 = .ok (.iload 5, 2) := by decide +kernel
theorem dL_law_1153 : decode cL_law 1153 = .ok (.if_icmp .eq 5, 3) := by decide +kernel
theorem dL_law_1156 : decode cL_law 1156 = .ok (.iconst 0, 1) := by decide +kernel
theorem dL_law_1157 : decode cL_law 1157 = .ok (.ireturn, 1) := by decide +kernel
theorem dL_law_1158 : decode cL_law 1158 = .ok (.iload 5, 2) := by decide +kernel
theorem dL_law_1160 : decode cL_law 1160 = .ok (.ifCond .ne 22, 3) := by decide +kernel
theorem dL_law_1163 : decode cL_law 1163 = .ok (.aload_n 3, 1) := by decide +kernel
theorem dL_law_1164 : decode cL_law 1164 = .ok (.iconst 0, 1) := by decide +kernel
theorem dL_law_1165 : decode cL_law 1165 = .ok (.laload, 1) := by decide +kernel
theorem dL_law_1166 : decode cL_law 1166 = .ok (.iload 6, 2) := by decide +kernel
theorem dL_law_1168 : decode cL_law 1168 = .ok (.ifCond .eq 7, 3) := by decide +kernel
theorem dL_law_1171 : decode cL_law 1171 = .ok (.lconst 1, 1) := by decide +kernel
theorem dL_law_1172 : decode cL_law 1172 = .ok (.goto 4, 3) := by decide +kernel
theorem dL_law_1175 : decode cL_law 1175 = .ok (.lconst 0, 1) := by decide +kernel
theorem dL_law_1176 : decode cL_law 1176 = .ok (.lcmp, 1) := by decide +kernel
theorem dL_law_1177 : decode cL_law 1177 = .ok (.ifCond .eq 5, 3) := by decide +kernel
theorem dL_law_1180 : decode cL_law 1180 = .ok (.iconst 0, 1) := by decide +kernel
theorem dL_law_1181 : decode cL_law 1181 = .ok (.ireturn, 1) := by decide +kernel
theorem dL_law_1182 : decode cL_law 1182 = .ok (.goto 1530, 3) := by decide +kernel
theorem dL_law_1185 : decode cL_law 1185 = .ok (.aload_n 1, 1) := by decide +kernel
theorem dL_law_1186 : decode cL_law 1186 = .ok (.aload_n 0, 1) := by decide +kernel
theorem dL_law_1187 : decode cL_law 1187 = .ok (.iload 4, 2) := by decide +kernel
theorem dL_law_1189 : decode cL_law 1189 = .ok (.iconst 1, 1) := by decide +kernel
theorem dL_law_1190 : decode cL_law 1190 = .ok (.iadd, 1) := by decide +kernel
theorem dL_law_1191 : decode cL_law 1191 = .ok (.iaload, 1) := by decide +kernel
theorem dL_law_1192 : decode cL_law 1192 = .ok (.aload_n 3, 1) := by decide +kernel
theorem dL_law_1193 : decode cL_law 1193 = .ok (.invokestatic 203, 3) := by decide +kernel
theorem dL_law_1196 : decode cL_law 1196 = .ok (.istore 5, 2) := by decide +kernel
theorem dL_law_1198 : decode cL_law 1198 = .ok (.aload_n 2, 1) := by decide +kernel
theorem dL_law_1199 : decode cL_law 1199 = .ok (.aload_n 0, 1) := by decide +kernel
theorem dL_law_1200 : decode cL_law 1200 = .ok (.iload 4, 2) := by decide +kernel
theorem dL_law_1202 : decode cL_law 1202 = .ok (.iconst 1, 1) := by decide +kernel
theorem dL_law_1203 : decode cL_law 1203 = .ok (.iadd, 1) := by decide +kernel
theorem dL_law_1204 : decode cL_law 1204 = .ok (.iaload, 1) := by decide +kernel
theorem dL_law_1205 : decode cL_law 1205 = .ok (.invokevirtual 205, 3) := by decide +kernel
theorem dL_law_1208 : decode cL_law 1208 = .ok (.istore 6, 2) := by decide +kernel
theorem dL_law_1210 : decode cL_law 1210 = .ok (.aload_n 2, 1) := by decide +kernel
theorem dL_law_1211 : decode cL_law 1211 = .ok (.invokevirtual 142, 3) := by decide +kernel
theorem dL_law_1214 : decode cL_law 1214 = .ok (.iload 5, 2) := by decide +kernel
theorem dL_law_1216 : decode cL_law 1216 = .ok (.if_icmp .eq 5, 3) := by decide +kernel
theorem dL_law_1219 : decode cL_law 1219 = .ok (.iconst 0, 1) := by decide +kernel
theorem dL_law_1220 : decode cL_law 1220 = .ok (.ireturn, 1) := by decide +kernel
theorem dL_law_1221 : decode cL_law 1221 = .ok (.iload 5, 2) := by decide +kernel
theorem dL_law_1223 : decode cL_law 1223 = .ok (.ifCond .ne 22, 3) := by decide +kernel
theorem dL_law_1226 : decode cL_law 1226 = .ok (.aload_n 3, 1) := by decide +kernel
theorem dL_law_1227 : decode cL_law 1227 = .ok (.iconst 0, 1) := by decide +kernel
theorem dL_law_1228 : decode cL_law 1228 = .ok (.laload, 1) := by decide +kernel
theorem dL_law_1229 : decode cL_law 1229 = .ok (.iload 6, 2) := by decide +kernel
theorem dL_law_1231 : decode cL_law 1231 = .ok (.ifCond .eq 7, 3) := by decide +kernel
theorem dL_law_1234 : decode cL_law 1234 = .ok (.lconst 1, 1) := by decide +kernel
theorem dL_law_1235 : decode cL_law 1235 = .ok (.goto 4, 3) := by decide +kernel
theorem dL_law_1238 : decode cL_law 1238 = .ok (.lconst 0, 1) := by decide +kernel
theorem dL_law_1239 : decode cL_law 1239 = .ok (.lcmp, 1) := by decide +kernel
theorem dL_law_1240 : decode cL_law 1240 = .ok (.ifCond .eq 5, 3) := by decide +kernel
theorem dL_law_1243 : decode cL_law 1243 = .ok (.iconst 0, 1) := by decide +kernel
theorem dL_law_1244 : decode cL_law 1244 = .ok (.ireturn, 1) := by decide +kernel
theorem dL_law_1245 : decode cL_law 1245 = .ok (.goto 1467, 3) := by decide +kernel
theorem dL_law_1248 : decode cL_law 1248 = .ok (.aload_n 1, 1) := by decide +kernel
theorem dL_law_1249 : decode cL_law 1249 = .ok (.aload_n 0, 1) := by decide +kernel
theorem dL_law_1250 : decode cL_law 1250 = .ok (.iload 4, 2) := by decide +kernel
theorem dL_law_1252 : decode cL_law 1252 = .ok (.iconst 1, 1) := by decide +kernel
theorem dL_law_1253 : decode cL_law 1253 = .ok (.iadd, 1) := by decide +kernel
theorem dL_law_1254 : decode cL_law 1254 = .ok (.iaload, 1) := by decide +kernel
theorem dL_law_1255 : decode cL_law 1255 = .ok (.aload_n 0, 1) := by decide +kernel
theorem dL_law_1256 : decode cL_law 1256 = .ok (.iload 4, 2) := by decide +kernel
theorem dL_law_1258 : decode cL_law 1258 = .ok (.iconst 2, 1) := by decide +kernel
theorem dL_law_1259 : decode cL_law 1259 = .ok (.iadd, 1) := by decide +kernel
theorem dL_law_1260 : decode cL_law 1260 = .ok (.iaload, 1) := by decide +kernel
theorem dL_law_1261 : decode cL_law 1261 = .ok (.aload_n 3, 1) := by decide +kernel
theorem dL_law_1262 : decode cL_law 1262 = .ok (.invokestatic 206, 3) := by decide +kernel
theorem dL_law_1265 : decode cL_law 1265 = .ok (.istore 5, 2) := by decide +kernel
theorem dL_law_1267 : decode cL_law 1267 = .ok (.aload_n 2, 1) := by decide +kernel
theorem dL_law_1268 : decode cL_law 1268 = .ok (.aload_n 0, 1) := by decide +kernel
theorem dL_law_1269 : decode cL_law 1269 = .ok (.iload 4, 2) := by decide +kernel
theorem dL_law_1271 : decode cL_law 1271 = .ok (.iconst 1, 1) := by decide +kernel
theorem dL_law_1272 : decode cL_law 1272 = .ok (.iadd, 1) := by decide +kernel
theorem dL_law_1273 : decode cL_law 1273 = .ok (.iaload, 1) := by decide +kernel
theorem dL_law_1274 : decode cL_law 1274 = .ok (.aload_n 0, 1) := by decide +kernel
theorem dL_law_1275 : decode cL_law 1275 = .ok (.iload 4, 2) := by decide +kernel
theorem dL_law_1277 : decode cL_law 1277 = .ok (.iconst 2, 1) := by decide +kernel
theorem dL_law_1278 : decode cL_law 1278 = .ok (.iadd, 1) := by decide +kernel
theorem dL_law_1279 : decode cL_law 1279 = .ok (.iaload, 1) := by decide +kernel
theorem dL_law_1280 : decode cL_law 1280 = .ok (.invokevirtual 208, 3) := by decide +kernel
theorem dL_law_1283 : decode cL_law 1283 = .ok (.istore 6, 2) := by decide +kernel
theorem dL_law_1285 : decode cL_law 1285 = .ok (.aload_n 2, 1) := by decide +kernel
theorem dL_law_1286 : decode cL_law 1286 = .ok (.invokevirtual 142, 3) := by decide +kernel
theorem dL_law_1289 : decode cL_law 1289 = .ok (.iload 5, 2) := by decide +kernel
theorem dL_law_1291 : decode cL_law 1291 = .ok (.if_icmp .eq 5, 3) := by decide +kernel
theorem dL_law_1294 : decode cL_law 1294 = .ok (.iconst 0, 1) := by decide +kernel
theorem dL_law_1295 : decode cL_law 1295 = .ok (.ireturn, 1) := by decide +kernel
theorem dL_law_1296 : decode cL_law 1296 = .ok (.iload 5, 2) := by decide +kernel
theorem dL_law_1298 : decode cL_law 1298 = .ok (.ifCond .ne 22, 3) := by decide +kernel
theorem dL_law_1301 : decode cL_law 1301 = .ok (.aload_n 3, 1) := by decide +kernel
theorem dL_law_1302 : decode cL_law 1302 = .ok (.iconst 0, 1) := by decide +kernel
theorem dL_law_1303 : decode cL_law 1303 = .ok (.laload, 1) := by decide +kernel
theorem dL_law_1304 : decode cL_law 1304 = .ok (.iload 6, 2) := by decide +kernel
theorem dL_law_1306 : decode cL_law 1306 = .ok (.ifCond .eq 7, 3) := by decide +kernel
theorem dL_law_1309 : decode cL_law 1309 = .ok (.lconst 1, 1) := by decide +kernel
theorem dL_law_1310 : decode cL_law 1310 = .ok (.goto 4, 3) := by decide +kernel
theorem dL_law_1313 : decode cL_law 1313 = .ok (.lconst 0, 1) := by decide +kernel
theorem dL_law_1314 : decode cL_law 1314 = .ok (.lcmp, 1) := by decide +kernel
theorem dL_law_1315 : decode cL_law 1315 = .ok (.ifCond .eq 5, 3) := by decide +kernel
theorem dL_law_1318 : decode cL_law 1318 = .ok (.iconst 0, 1) := by decide +kernel
theorem dL_law_1319 : decode cL_law 1319 = .ok (.ireturn, 1) := by decide +kernel
theorem dL_law_1320 : decode cL_law 1320 = .ok (.goto 1392, 3) := by decide +kernel
theorem dL_law_1323 : decode cL_law 1323 = .ok (.aload_n 1, 1) := by decide +kernel
theorem dL_law_1324 : decode cL_law 1324 = .ok (.aload_n 0, 1) := by decide +kernel
theorem dL_law_1325 : decode cL_law 1325 = .ok (.iload 4, 2) := by decide +kernel
theorem dL_law_1327 : decode cL_law 1327 = .ok (.iconst 1, 1) := by decide +kernel
theorem dL_law_1328 : decode cL_law 1328 = .ok (.iadd, 1) := by decide +kernel
theorem dL_law_1329 : decode cL_law 1329 = .ok (.iaload, 1) := by decide +kernel
theorem dL_law_1330 : decode cL_law 1330 = .ok (.aload_n 0, 1) := by decide +kernel
theorem dL_law_1331 : decode cL_law 1331 = .ok (.iload 4, 2) := by decide +kernel
theorem dL_law_1333 : decode cL_law 1333 = .ok (.iconst 2, 1) := by decide +kernel
theorem dL_law_1334 : decode cL_law 1334 = .ok (.iadd, 1) := by decide +kernel
theorem dL_law_1335 : decode cL_law 1335 = .ok (.iaload, 1) := by decide +kernel
theorem dL_law_1336 : decode cL_law 1336 = .ok (.aload_n 3, 1) := by decide +kernel
theorem dL_law_1337 : decode cL_law 1337 = .ok (.invokestatic 209, 3) := by decide +kernel
theorem dL_law_1340 : decode cL_law 1340 = .ok (.istore 5, 2) := by decide +kernel
theorem dL_law_1342 : decode cL_law 1342 = .ok (.aload_n 2, 1) := by decide +kernel
theorem dL_law_1343 : decode cL_law 1343 = .ok (.aload_n 0, 1) := by decide +kernel
theorem dL_law_1344 : decode cL_law 1344 = .ok (.iload 4, 2) := by decide +kernel
theorem dL_law_1346 : decode cL_law 1346 = .ok (.iconst 1, 1) := by decide +kernel
theorem dL_law_1347 : decode cL_law 1347 = .ok (.iadd, 1) := by decide +kernel
theorem dL_law_1348 : decode cL_law 1348 = .ok (.iaload, 1) := by decide +kernel
theorem dL_law_1349 : decode cL_law 1349 = .ok (.aload_n 0, 1) := by decide +kernel
theorem dL_law_1350 : decode cL_law 1350 = .ok (.iload 4, 2) := by decide +kernel
theorem dL_law_1352 : decode cL_law 1352 = .ok (.iconst 2, 1) := by decide +kernel
theorem dL_law_1353 : decode cL_law 1353 = .ok (.iadd, 1) := by decide +kernel
theorem dL_law_1354 : decode cL_law 1354 = .ok (.iaload, 1) := by decide +kernel
theorem dL_law_1355 : decode cL_law 1355 = .ok (.invokevirtual 211, 3) := by decide +kernel
theorem dL_law_1358 : decode cL_law 1358 = .ok (.istore 6, 2) := by decide +kernel
theorem dL_law_1360 : decode cL_law 1360 = .ok (.aload_n 2, 1) := by decide +kernel
theorem dL_law_1361 : decode cL_law 1361 = .ok (.invokevirtual 142, 3) := by decide +kernel
theorem dL_law_1364 : decode cL_law 1364 = .ok (.iload 5, 2) := by decide +kernel
theorem dL_law_1366 : decode cL_law 1366 = .ok (.if_icmp .eq 5, 3) := by decide +kernel
theorem dL_law_1369 : decode cL_law 1369 = .ok (.iconst 0, 1) := by decide +kernel
theorem dL_law_1370 : decode cL_law 1370 = .ok (.ireturn, 1) := by decide +kernel
theorem dL_law_1371 : decode cL_law 1371 = .ok (.iload 5, 2) := by decide +kernel
theorem dL_law_1373 : decode cL_law 1373 = .ok (.ifCond .ne 15, 3) := by decide +kernel
theorem dL_law_1376 : decode cL_law 1376 = .ok (.aload_n 3, 1) := by decide +kernel
theorem dL_law_1377 : decode cL_law 1377 = .ok (.iconst 0, 1) := by decide +kernel
theorem dL_law_1378 : decode cL_law 1378 = .ok (.laload, 1) := by decide +kernel
theorem dL_law_1379 : decode cL_law 1379 = .ok (.iload 6, 2) := by decide +kernel
theorem dL_law_1381 : decode cL_law 1381 = .ok (.i2l, 1) := by decide +kernel
theorem dL_law_1382 : decode cL_law 1382 = .ok (.lcmp, 1) := by decide +kernel
theorem dL_law_1383 : decode cL_law 1383 = .ok (.ifCond .eq 5, 3) := by decide +kernel
theorem dL_law_1386 : decode cL_law 1386 = .ok (.iconst 0, 1) := by decide +kernel
theorem dL_law_1387 : decode cL_law 1387 = .ok (.ireturn, 1) := by decide +kernel
theorem dL_law_1388 : decode cL_law 1388 = .ok (.goto 1324, 3) := by decide +kernel
theorem dL_law_1391 : decode cL_law 1391 = .ok (.aload_n 1, 1) := by decide +kernel
theorem dL_law_1392 : decode cL_law 1392 = .ok (.aload_n 0, 1) := by decide +kernel
theorem dL_law_1393 : decode cL_law 1393 = .ok (.iload 4, 2) := by decide +kernel
theorem dL_law_1395 : decode cL_law 1395 = .ok (.iconst 1, 1) := by decide +kernel
theorem dL_law_1396 : decode cL_law 1396 = .ok (.iadd, 1) := by decide +kernel
theorem dL_law_1397 : decode cL_law 1397 = .ok (.iaload, 1) := by decide +kernel
theorem dL_law_1398 : decode cL_law 1398 = .ok (.aload_n 3, 1) := by decide +kernel
theorem dL_law_1399 : decode cL_law 1399 = .ok (.invokestatic 212, 3) := by decide +kernel
theorem dL_law_1402 : decode cL_law 1402 = .ok (.istore 5, 2) := by decide +kernel
theorem dL_law_1404 : decode cL_law 1404 = .ok (.aload_n 2, 1) := by decide +kernel
theorem dL_law_1405 : decode cL_law 1405 = .ok (.aload_n 0, 1) := by decide +kernel
theorem dL_law_1406 : decode cL_law 1406 = .ok (.iload 4, 2) := by decide +kernel
theorem dL_law_1408 : decode cL_law 1408 = .ok (.iconst 1, 1) := by decide +kernel
theorem dL_law_1409 : decode cL_law 1409 = .ok (.iadd, 1) := by decide +kernel
theorem dL_law_1410 : decode cL_law 1410 = .ok (.iaload, 1) := by decide +kernel
theorem dL_law_1411 : decode cL_law 1411 = .ok (.invokevirtual 214, 3) := by decide +kernel
theorem dL_law_1414 : decode cL_law 1414 = .ok (.istore 6, 2) := by decide +kernel
theorem dL_law_1416 : decode cL_law 1416 = .ok (.aload_n 2, 1) := by decide +kernel
theorem dL_law_1417 : decode cL_law 1417 = .ok (.invokevirtual 142, 3) := by decide +kernel
theorem dL_law_1420 : decode cL_law 1420 = .ok (.iload 5, 2) := by decide +kernel
theorem dL_law_1422 : decode cL_law 1422 = .ok (.if_icmp .eq 5, 3) := by decide +kernel
theorem dL_law_1425 : decode cL_law 1425 = .ok (.iconst 0, 1) := by decide +kernel
theorem dL_law_1426 : decode cL_law 1426 = .ok (.ireturn, 1) := by decide +kernel
theorem dL_law_1427 : decode cL_law 1427 = .ok (.iload 5, 2) := by decide +kernel
theorem dL_law_1429 : decode cL_law 1429 = .ok (.ifCond .ne 15, 3) := by decide +kernel
theorem dL_law_1432 : decode cL_law 1432 = .ok (.aload_n 3, 1) := by decide +kernel
theorem dL_law_1433 : decode cL_law 1433 = .ok (.iconst 0, 1) := by decide +kernel
theorem dL_law_1434 : decode cL_law 1434 = .ok (.laload, 1) := by decide +kernel
theorem dL_law_1435 : decode cL_law 1435 = .ok (.iload 6, 2) := by decide +kernel
theorem dL_law_1437 : decode cL_law 1437 = .ok (.i2l, 1) := by decide +kernel
theorem dL_law_1438 : decode cL_law 1438 = .ok (.lcmp, 1) := by decide +kernel
theorem dL_law_1439 : decode cL_law 1439 = .ok (.ifCond .eq 5, 3) := by decide +kernel
theorem dL_law_1442 : decode cL_law 1442 = .ok (.iconst 0, 1) := by decide +kernel
theorem dL_law_1443 : decode cL_law 1443 = .ok (.ireturn, 1) := by decide +kernel
theorem dL_law_1444 : decode cL_law 1444 = .ok (.goto 1268, 3) := by decide +kernel
theorem dL_law_1447 : decode cL_law 1447 = .ok (.aload_n 1, 1) := by decide +kernel
theorem dL_law_1448 : decode cL_law 1448 = .ok (.aload_n 0, 1) := by decide +kernel
theorem dL_law_1449 : decode cL_law 1449 = .ok (.iload 4, 2) := by decide +kernel
theorem dL_law_1451 : decode cL_law 1451 = .ok (.iconst 1, 1) := by decide +kernel
theorem dL_law_1452 : decode cL_law 1452 = .ok (.iadd, 1) := by decide +kernel
theorem dL_law_1453 : decode cL_law 1453 = .ok (.iaload, 1) := by decide +kernel
theorem dL_law_1454 : decode cL_law 1454 = .ok (.aload_n 3, 1) := by decide +kernel
theorem dL_law_1455 : decode cL_law 1455 = .ok (.invokestatic 215, 3) := by decide +kernel
theorem dL_law_1458 : decode cL_law 1458 = .ok (.istore 5, 2) := by decide +kernel
theorem dL_law_1460 : decode cL_law 1460 = .ok (.aload_n 2, 1) := by decide +kernel
theorem dL_law_1461 : decode cL_law 1461 = .ok (.aload_n 0, 1) := by decide +kernel
theorem dL_law_1462 : decode cL_law 1462 = .ok (.iload 4, 2) := by decide +kernel
theorem dL_law_1464 : decode cL_law 1464 = .ok (.iconst 1, 1) := by decide +kernel
theorem dL_law_1465 : decode cL_law 1465 = .ok (.iadd, 1) := by decide +kernel
theorem dL_law_1466 : decode cL_law 1466 = .ok (.iaload, 1) := by decide +kernel
theorem dL_law_1467 : decode cL_law 1467 = .ok (.invokevirtual 217, 3) := by decide +kernel
theorem dL_law_1470 : decode cL_law 1470 = .ok (.istore 6, 2) := by decide +kernel
theorem dL_law_1472 : decode cL_law 1472 = .ok (.aload_n 2, 1) := by decide +kernel
theorem dL_law_1473 : decode cL_law 1473 = .ok (.invokevirtual 142, 3) := by decide +kernel
theorem dL_law_1476 : decode cL_law 1476 = .ok (.iload 5, 2) := by decide +kernel
theorem dL_law_1478 : decode cL_law 1478 = .ok (.if_icmp .eq 5, 3) := by decide +kernel
theorem dL_law_1481 : decode cL_law 1481 = .ok (.iconst 0, 1) := by decide +kernel
theorem dL_law_1482 : decode cL_law 1482 = .ok (.ireturn, 1) := by decide +kernel
theorem dL_law_1483 : decode cL_law 1483 = .ok (.iload 5, 2) := by decide +kernel
theorem dL_law_1485 : decode cL_law 1485 = .ok (.ifCond .ne 15, 3) := by decide +kernel
theorem dL_law_1488 : decode cL_law 1488 = .ok (.aload_n 3, 1) := by decide +kernel
theorem dL_law_1489 : decode cL_law 1489 = .ok (.iconst 0, 1) := by decide +kernel
theorem dL_law_1490 : decode cL_law 1490 = .ok (.laload, 1) := by decide +kernel
theorem dL_law_1491 : decode cL_law 1491 = .ok (.iload 6, 2) := by decide +kernel
theorem dL_law_1493 : decode cL_law 1493 = .ok (.i2l, 1) := by decide +kernel
theorem dL_law_1494 : decode cL_law 1494 = .ok (.lcmp, 1) := by decide +kernel
theorem dL_law_1495 : decode cL_law 1495 = .ok (.ifCond .eq 5, 3) := by decide +kernel
theorem dL_law_1498 : decode cL_law 1498 = .ok (.iconst 0, 1) := by decide +kernel
theorem dL_law_1499 : decode cL_law 1499 = .ok (.ireturn, 1) := by decide +kernel
theorem dL_law_1500 : decode cL_law 1500 = .ok (.goto 1212, 3) := by decide +kernel
theorem dL_law_1503 : decode cL_law 1503 = .ok (.aload_n 1, 1) := by decide +kernel
theorem dL_law_1504 : decode cL_law 1504 = .ok (.aload_n 0, 1) := by decide +kernel
theorem dL_law_1505 : decode cL_law 1505 = .ok (.iload 4, 2) := by decide +kernel
theorem dL_law_1507 : decode cL_law 1507 = .ok (.iconst 1, 1) := by decide +kernel
theorem dL_law_1508 : decode cL_law 1508 = .ok (.iadd, 1) := by decide +kernel
theorem dL_law_1509 : decode cL_law 1509 = .ok (.iaload, 1) := by decide +kernel
theorem dL_law_1510 : decode cL_law 1510 = .ok (.aload_n 3, 1) := by decide +kernel
theorem dL_law_1511 : decode cL_law 1511 = .ok (.invokestatic 218, 3) := by decide +kernel
theorem dL_law_1514 : decode cL_law 1514 = .ok (.istore 5, 2) := by decide +kernel
theorem dL_law_1516 : decode cL_law 1516 = .ok (.aload_n 2, 1) := by decide +kernel
theorem dL_law_1517 : decode cL_law 1517 = .ok (.aload_n 0, 1) := by decide +kernel
theorem dL_law_1518 : decode cL_law 1518 = .ok (.iload 4, 2) := by decide +kernel
theorem dL_law_1520 : decode cL_law 1520 = .ok (.iconst 1, 1) := by decide +kernel
theorem dL_law_1521 : decode cL_law 1521 = .ok (.iadd, 1) := by decide +kernel
theorem dL_law_1522 : decode cL_law 1522 = .ok (.iaload, 1) := by decide +kernel
theorem dL_law_1523 : decode cL_law 1523 = .ok (.invokevirtual 220, 3) := by decide +kernel
theorem dL_law_1526 : decode cL_law 1526 = .ok (.istore 6, 2) := by decide +kernel
theorem dL_law_1528 : decode cL_law 1528 = .ok (.aload_n 2, 1) := by decide +kernel
theorem dL_law_1529 : decode cL_law 1529 = .ok (.invokevirtual 142, 3) := by decide +kernel
theorem dL_law_1532 : decode cL_law 1532 = .ok (.iload 5, 2) := by decide +kernel
theorem dL_law_1534 : decode cL_law 1534 = .ok (.if_icmp .eq 5, 3) := by decide +kernel
theorem dL_law_1537 : decode cL_law 1537 = .ok (.iconst 0, 1) := by decide +kernel
theorem dL_law_1538 : decode cL_law 1538 = .ok (.ireturn, 1) := by decide +kernel
theorem dL_law_1539 : decode cL_law 1539 = .ok (.iload 5, 2) := by decide +kernel
theorem dL_law_1541 : decode cL_law 1541 = .ok (.ifCond .ne 15, 3) := by decide +kernel
theorem dL_law_1544 : decode cL_law 1544 = .ok (.aload_n 3, 1) := by decide +kernel
theorem dL_law_1545 : decode cL_law 1545 = .ok (.iconst 0, 1) := by decide +kernel
theorem dL_law_1546 : decode cL_law 1546 = .ok (.laload, 1) := by decide +kernel
theorem dL_law_1547 : decode cL_law 1547 = .ok (.iload 6, 2) := by decide +kernel
theorem dL_law_1549 : decode cL_law 1549 = .ok (.i2l, 1) := by decide +kernel
theorem dL_law_1550 : decode cL_law 1550 = .ok (.lcmp, 1) := by decide +kernel
theorem dL_law_1551 : decode cL_law 1551 = .ok (.ifCond .eq 5, 3) := by decide +kernel
theorem dL_law_1554 : decode cL_law 1554 = .ok (.iconst 0, 1) := by decide +kernel
theorem dL_law_1555 : decode cL_law 1555 = .ok (.ireturn, 1) := by decide +kernel
theorem dL_law_1556 : decode cL_law 1556 = .ok (.goto 1156, 3) := by decide +kernel
theorem dL_law_1559 : decode cL_law 1559 = .ok (.aload_n 1, 1) := by decide +kernel
theorem dL_law_1560 : decode cL_law 1560 = .ok (.aload_n 0, 1) := by decide +kernel
theorem dL_law_1561 : decode cL_law 1561 = .ok (.iload 4, 2) := by decide +kernel
theorem dL_law_1563 : decode cL_law 1563 = .ok (.iconst 1, 1) := by decide +kernel
theorem dL_law_1564 : decode cL_law 1564 = .ok (.iadd, 1) := by decide +kernel
theorem dL_law_1565 : decode cL_law 1565 = .ok (.iaload, 1) := by decide +kernel
theorem dL_law_1566 : decode cL_law 1566 = .ok (.aload_n 0, 1) := by decide +kernel
theorem dL_law_1567 : decode cL_law 1567 = .ok (.iload 4, 2) := by decide +kernel
theorem dL_law_1569 : decode cL_law 1569 = .ok (.iconst 2, 1) := by decide +kernel
theorem dL_law_1570 : decode cL_law 1570 = .ok (.iadd, 1) := by decide +kernel
theorem dL_law_1571 : decode cL_law 1571 = .ok (.iaload, 1) := by decide +kernel
theorem dL_law_1572 : decode cL_law 1572 = .ok (.aload_n 3, 1) := by decide +kernel
theorem dL_law_1573 : decode cL_law 1573 = .ok (.invokestatic 221, 3) := by decide +kernel
theorem dL_law_1576 : decode cL_law 1576 = .ok (.istore 5, 2) := by decide +kernel
theorem dL_law_1578 : decode cL_law 1578 = .ok (.aload_n 2, 1) := by decide +kernel
theorem dL_law_1579 : decode cL_law 1579 = .ok (.aload_n 0, 1) := by decide +kernel
theorem dL_law_1580 : decode cL_law 1580 = .ok (.iload 4, 2) := by decide +kernel
theorem dL_law_1582 : decode cL_law 1582 = .ok (.iconst 1, 1) := by decide +kernel
theorem dL_law_1583 : decode cL_law 1583 = .ok (.iadd, 1) := by decide +kernel
theorem dL_law_1584 : decode cL_law 1584 = .ok (.iaload, 1) := by decide +kernel
theorem dL_law_1585 : decode cL_law 1585 = .ok (.aload_n 0, 1) := by decide +kernel
theorem dL_law_1586 : decode cL_law 1586 = .ok (.iload 4, 2) := by decide +kernel
theorem dL_law_1588 : decode cL_law 1588 = .ok (.iconst 2, 1) := by decide +kernel
theorem dL_law_1589 : decode cL_law 1589 = .ok (.iadd, 1) := by decide +kernel
theorem dL_law_1590 : decode cL_law 1590 = .ok (.iaload, 1) := by decide +kernel
theorem dL_law_1591 : decode cL_law 1591 = .ok (.invokevirtual 223, 3) := by decide +kernel
theorem dL_law_1594 : decode cL_law 1594 = .ok (.istore 6, 2) := by decide +kernel
theorem dL_law_1596 : decode cL_law 1596 = .ok (.aload_n 2, 1) := by decide +kernel
theorem dL_law_1597 : decode cL_law 1597 = .ok (.invokevirtual 142, 3) := by decide +kernel
theorem dL_law_1600 : decode cL_law 1600 = .ok (.iload 5, 2) := by decide +kernel
theorem dL_law_1602 : decode cL_law 1602 = .ok (.if_icmp .eq 5, 3) := by decide +kernel
theorem dL_law_1605 : decode cL_law 1605 = .ok (.iconst 0, 1) := by decide +kernel
theorem dL_law_1606 : decode cL_law 1606 = .ok (.ireturn, 1) := by decide +kernel
theorem dL_law_1607 : decode cL_law 1607 = .ok (.iload 5, 2) := by decide +kernel
theorem dL_law_1609 : decode cL_law 1609 = .ok (.ifCond .ne 15, 3) := by decide +kernel
theorem dL_law_1612 : decode cL_law 1612 = .ok (.aload_n 3, 1) := by decide +kernel
theorem dL_law_1613 : decode cL_law 1613 = .ok (.iconst 0, 1) := by decide +kernel
theorem dL_law_1614 : decode cL_law 1614 = .ok (.laload, 1) := by decide +kernel
theorem dL_law_1615 : decode cL_law 1615 = .ok (.iload 6, 2) := by decide +kernel
theorem dL_law_1617 : decode cL_law 1617 = .ok (.i2l, 1) := by decide +kernel
theorem dL_law_1618 : decode cL_law 1618 = .ok (.lcmp, 1) := by decide +kernel
theorem dL_law_1619 : decode cL_law 1619 = .ok (.ifCond .eq 5, 3) := by decide +kernel
theorem dL_law_1622 : decode cL_law 1622 = .ok (.iconst 0, 1) := by decide +kernel
theorem dL_law_1623 : decode cL_law 1623 = .ok (.ireturn, 1) := by decide +kernel
theorem dL_law_1624 : decode cL_law 1624 = .ok (.goto 1088, 3) := by decide +kernel
theorem dL_law_1627 : decode cL_law 1627 = .ok (.aload_n 1, 1) := by decide +kernel
theorem dL_law_1628 : decode cL_law 1628 = .ok (.aload_n 0, 1) := by decide +kernel
theorem dL_law_1629 : decode cL_law 1629 = .ok (.iload 4, 2) := by decide +kernel
theorem dL_law_1631 : decode cL_law 1631 = .ok (.iconst 1, 1) := by decide +kernel
theorem dL_law_1632 : decode cL_law 1632 = .ok (.iadd, 1) := by decide +kernel
theorem dL_law_1633 : decode cL_law 1633 = .ok (.iaload, 1) := by decide +kernel
theorem dL_law_1634 : decode cL_law 1634 = .ok (.aload_n 0, 1) := by decide +kernel
theorem dL_law_1635 : decode cL_law 1635 = .ok (.iload 4, 2) := by decide +kernel
theorem dL_law_1637 : decode cL_law 1637 = .ok (.iconst 2, 1) := by decide +kernel
theorem dL_law_1638 : decode cL_law 1638 = .ok (.iadd, 1) := by decide +kernel
theorem dL_law_1639 : decode cL_law 1639 = .ok (.iaload, 1) := by decide +kernel
theorem dL_law_1640 : decode cL_law 1640 = .ok (.aload_n 3, 1) := by decide +kernel
theorem dL_law_1641 : decode cL_law 1641 = .ok (.invokestatic 224, 3) := by decide +kernel
theorem dL_law_1644 : decode cL_law 1644 = .ok (.istore 5, 2) := by decide +kernel
theorem dL_law_1646 : decode cL_law 1646 = .ok (.aload_n 2, 1) := by decide +kernel
theorem dL_law_1647 : decode cL_law 1647 = .ok (.aload_n 0, 1) := by decide +kernel
theorem dL_law_1648 : decode cL_law 1648 = .ok (.iload 4, 2) := by decide +kernel
theorem dL_law_1650 : decode cL_law 1650 = .ok (.iconst 1, 1) := by decide +kernel
theorem dL_law_1651 : decode cL_law 1651 = .ok (.iadd, 1) := by decide +kernel
theorem dL_law_1652 : decode cL_law 1652 = .ok (.iaload, 1) := by decide +kernel
theorem dL_law_1653 : decode cL_law 1653 = .ok (.aload_n 0, 1) := by decide +kernel
theorem dL_law_1654 : decode cL_law 1654 = .ok (.iload 4, 2) := by decide +kernel
theorem dL_law_1656 : decode cL_law 1656 = .ok (.iconst 2, 1) := by decide +kernel
theorem dL_law_1657 : decode cL_law 1657 = .ok (.iadd, 1) := by decide +kernel
theorem dL_law_1658 : decode cL_law 1658 = .ok (.iaload, 1) := by decide +kernel
theorem dL_law_1659 : decode cL_law 1659 = .ok (.invokevirtual 226, 3) := by decide +kernel
theorem dL_law_1662 : decode cL_law 1662 = .ok (.istore 6, 2) := by decide +kernel
theorem dL_law_1664 : decode cL_law 1664 = .ok (.aload_n 2, 1) := by decide +kernel
theorem dL_law_1665 : decode cL_law 1665 = .ok (.invokevirtual 142, 3) := by decide +kernel
theorem dL_law_1668 : decode cL_law 1668 = .ok (.iload 5, 2) := by decide +kernel
theorem dL_law_1670 : decode cL_law 1670 = .ok (.if_icmp .eq 5, 3) := by decide +kernel
theorem dL_law_1673 : decode cL_law 1673 = .ok (.iconst 0, 1) := by decide +kernel
theorem dL_law_1674 : decode cL_law 1674 = .ok (.ireturn, 1) := by decide +kernel
theorem dL_law_1675 : decode cL_law 1675 = .ok (.iload 5, 2) := by decide +kernel
theorem dL_law_1677 : decode cL_law 1677 = .ok (.ifCond .ne 15, 3) := by decide +kernel
theorem dL_law_1680 : decode cL_law 1680 = .ok (.aload_n 3, 1) := by decide +kernel
theorem dL_law_1681 : decode cL_law 1681 = .ok (.iconst 0, 1) := by decide +kernel
theorem dL_law_1682 : decode cL_law 1682 = .ok (.laload, 1) := by decide +kernel
theorem dL_law_1683 : decode cL_law 1683 = .ok (.iload 6, 2) := by decide +kernel
theorem dL_law_1685 : decode cL_law 1685 = .ok (.i2l, 1) := by decide +kernel
theorem dL_law_1686 : decode cL_law 1686 = .ok (.lcmp, 1) := by decide +kernel
theorem dL_law_1687 : decode cL_law 1687 = .ok (.ifCond .eq 5, 3) := by decide +kernel
theorem dL_law_1690 : decode cL_law 1690 = .ok (.iconst 0, 1) := by decide +kernel
theorem dL_law_1691 : decode cL_law 1691 = .ok (.ireturn, 1) := by decide +kernel
theorem dL_law_1692 : decode cL_law 1692 = .ok (.goto 1020, 3) := by decide +kernel
theorem dL_law_1695 : decode cL_law 1695 = .ok (.aload_n 1, 1) := by decide +kernel
theorem dL_law_1696 : decode cL_law 1696 = .ok (.aload_n 0, 1) := by decide +kernel
theorem dL_law_1697 : decode cL_law 1697 = .ok (.iload 4, 2) := by decide +kernel
theorem dL_law_1699 : decode cL_law 1699 = .ok (.iconst 1, 1) := by decide +kernel
theorem dL_law_1700 : decode cL_law 1700 = .ok (.iadd, 1) := by decide +kernel
theorem dL_law_1701 : decode cL_law 1701 = .ok (.iaload, 1) := by decide +kernel
theorem dL_law_1702 : decode cL_law 1702 = .ok (.aload_n 0, 1) := by decide +kernel
theorem dL_law_1703 : decode cL_law 1703 = .ok (.iload 4, 2) := by decide +kernel
theorem dL_law_1705 : decode cL_law 1705 = .ok (.iconst 2, 1) := by decide +kernel
theorem dL_law_1706 : decode cL_law 1706 = .ok (.iadd, 1) := by decide +kernel
theorem dL_law_1707 : decode cL_law 1707 = .ok (.iaload, 1) := by decide +kernel
theorem dL_law_1708 : decode cL_law 1708 = .ok (.aload_n 3, 1) := by decide +kernel
theorem dL_law_1709 : decode cL_law 1709 = .ok (.invokestatic 227, 3) := by decide +kernel
theorem dL_law_1712 : decode cL_law 1712 = .ok (.istore 5, 2) := by decide +kernel
theorem dL_law_1714 : decode cL_law 1714 = .ok (.aload_n 2, 1) := by decide +kernel
theorem dL_law_1715 : decode cL_law 1715 = .ok (.aload_n 0, 1) := by decide +kernel
theorem dL_law_1716 : decode cL_law 1716 = .ok (.iload 4, 2) := by decide +kernel
theorem dL_law_1718 : decode cL_law 1718 = .ok (.iconst 1, 1) := by decide +kernel
theorem dL_law_1719 : decode cL_law 1719 = .ok (.iadd, 1) := by decide +kernel
theorem dL_law_1720 : decode cL_law 1720 = .ok (.iaload, 1) := by decide +kernel
theorem dL_law_1721 : decode cL_law 1721 = .ok (.aload_n 0, 1) := by decide +kernel
theorem dL_law_1722 : decode cL_law 1722 = .ok (.iload 4, 2) := by decide +kernel
theorem dL_law_1724 : decode cL_law 1724 = .ok (.iconst 2, 1) := by decide +kernel
theorem dL_law_1725 : decode cL_law 1725 = .ok (.iadd, 1) := by decide +kernel
theorem dL_law_1726 : decode cL_law 1726 = .ok (.iaload, 1) := by decide +kernel
theorem dL_law_1727 : decode cL_law 1727 = .ok (.invokevirtual 229, 3) := by decide +kernel
theorem dL_law_1730 : decode cL_law 1730 = .ok (.istore 6, 2) := by decide +kernel
theorem dL_law_1732 : decode cL_law 1732 = .ok (.aload_n 2, 1) := by decide +kernel
theorem dL_law_1733 : decode cL_law 1733 = .ok (.invokevirtual 142, 3) := by decide +kernel
theorem dL_law_1736 : decode cL_law 1736 = .ok (.iload 5, 2) := by decide +kernel
theorem dL_law_1738 : decode cL_law 1738 = .ok (.if_icmp .eq 5, 3) := by decide +kernel
theorem dL_law_1741 : decode cL_law 1741 = .ok (.iconst 0, 1) := by decide +kernel
theorem dL_law_1742 : decode cL_law 1742 = .ok (.ireturn, 1) := by decide +kernel
theorem dL_law_1743 : decode cL_law 1743 = .ok (.iload 5, 2) := by decide +kernel
theorem dL_law_1745 : decode cL_law 1745 = .ok (.ifCond .ne 15, 3) := by decide +kernel
theorem dL_law_1748 : decode cL_law 1748 = .ok (.aload_n 3, 1) := by decide +kernel
theorem dL_law_1749 : decode cL_law 1749 = .ok (.iconst 0, 1) := by decide +kernel
theorem dL_law_1750 : decode cL_law 1750 = .ok (.laload, 1) := by decide +kernel
theorem dL_law_1751 : decode cL_law 1751 = .ok (.iload 6, 2) := by decide +kernel
theorem dL_law_1753 : decode cL_law 1753 = .ok (.i2l, 1) := by decide +kernel
theorem dL_law_1754 : decode cL_law 1754 = .ok (.lcmp, 1) := by decide +kernel
theorem dL_law_1755 : decode cL_law 1755 = .ok (.ifCond .eq 5, 3) := by decide +kernel
theorem dL_law_1758 : decode cL_law 1758 = .ok (.iconst 0, 1) := by decide +kernel
theorem dL_law_1759 : decode cL_law 1759 = .ok (.ireturn, 1) := by decide +kernel
theorem dL_law_1760 : decode cL_law 1760 = .ok (.goto 952, 3) := by decide +kernel
theorem dL_law_1763 : decode cL_law 1763 = .ok (.aload_n 1, 1) := by decide +kernel
theorem dL_law_1764 : decode cL_law 1764 = .ok (.aload_n 0, 1) := by decide +kernel
theorem dL_law_1765 : decode cL_law 1765 = .ok (.iload 4, 2) := by decide +kernel
theorem dL_law_1767 : decode cL_law 1767 = .ok (.iconst 1, 1) := by decide +kernel
theorem dL_law_1768 : decode cL_law 1768 = .ok (.iadd, 1) := by decide +kernel
theorem dL_law_1769 : decode cL_law 1769 = .ok (.iaload, 1) := by decide +kernel
theorem dL_law_1770 : decode cL_law 1770 = .ok (.aload_n 0, 1) := by decide +kernel
theorem dL_law_1771 : decode cL_law 1771 = .ok (.iload 4, 2) := by decide +kernel
theorem dL_law_1773 : decode cL_law 1773 = .ok (.iconst 2, 1) := by decide +kernel
theorem dL_law_1774 : decode cL_law 1774 = .ok (.iadd, 1) := by decide +kernel
theorem dL_law_1775 : decode cL_law 1775 = .ok (.iaload, 1) := by decide +kernel
theorem dL_law_1776 : decode cL_law 1776 = .ok (.aload_n 3, 1) := by decide +kernel
theorem dL_law_1777 : decode cL_law 1777 = .ok (.invokestatic 230, 3) := by decide +kernel
theorem dL_law_1780 : decode cL_law 1780 = .ok (.istore 5, 2) := by decide +kernel
theorem dL_law_1782 : decode cL_law 1782 = .ok (.aload_n 2, 1) := by decide +kernel
theorem dL_law_1783 : decode cL_law 1783 = .ok (.aload_n 0, 1) := by decide +kernel
theorem dL_law_1784 : decode cL_law 1784 = .ok (.iload 4, 2) := by decide +kernel
theorem dL_law_1786 : decode cL_law 1786 = .ok (.iconst 1, 1) := by decide +kernel
theorem dL_law_1787 : decode cL_law 1787 = .ok (.iadd, 1) := by decide +kernel
theorem dL_law_1788 : decode cL_law 1788 = .ok (.iaload, 1) := by decide +kernel
theorem dL_law_1789 : decode cL_law 1789 = .ok (.aload_n 0, 1) := by decide +kernel
theorem dL_law_1790 : decode cL_law 1790 = .ok (.iload 4, 2) := by decide +kernel
theorem dL_law_1792 : decode cL_law 1792 = .ok (.iconst 2, 1) := by decide +kernel
theorem dL_law_1793 : decode cL_law 1793 = .ok (.iadd, 1) := by decide +kernel
theorem dL_law_1794 : decode cL_law 1794 = .ok (.iaload, 1) := by decide +kernel
theorem dL_law_1795 : decode cL_law 1795 = .ok (.invokevirtual 232, 3) := by decide +kernel
theorem dL_law_1798 : decode cL_law 1798 = .ok (.istore 6, 2) := by decide +kernel
theorem dL_law_1800 : decode cL_law 1800 = .ok (.aload_n 2, 1) := by decide +kernel
theorem dL_law_1801 : decode cL_law 1801 = .ok (.invokevirtual 142, 3) := by decide +kernel
theorem dL_law_1804 : decode cL_law 1804 = .ok (.iload 5, 2) := by decide +kernel
theorem dL_law_1806 : decode cL_law 1806 = .ok (.if_icmp .eq 5, 3) := by decide +kernel
theorem dL_law_1809 : decode cL_law 1809 = .ok (.iconst 0, 1) := by decide +kernel
theorem dL_law_1810 : decode cL_law 1810 = .ok (.ireturn, 1) := by decide +kernel
theorem dL_law_1811 : decode cL_law 1811 = .ok (.iload 5, 2) := by decide +kernel
theorem dL_law_1813 : decode cL_law 1813 = .ok (.ifCond .ne 15, 3) := by decide +kernel
theorem dL_law_1816 : decode cL_law 1816 = .ok (.aload_n 3, 1) := by decide +kernel
theorem dL_law_1817 : decode cL_law 1817 = .ok (.iconst 0, 1) := by decide +kernel
theorem dL_law_1818 : decode cL_law 1818 = .ok (.laload, 1) := by decide +kernel
theorem dL_law_1819 : decode cL_law 1819 = .ok (.iload 6, 2) := by decide +kernel
theorem dL_law_1821 : decode cL_law 1821 = .ok (.i2l, 1) := by decide +kernel
theorem dL_law_1822 : decode cL_law 1822 = .ok (.lcmp, 1) := by decide +kernel
theorem dL_law_1823 : decode cL_law 1823 = .ok (.ifCond .eq 5, 3) := by decide +kernel
theorem dL_law_1826 : decode cL_law 1826 = .ok (.iconst 0, 1) := by decide +kernel
theorem dL_law_1827 : decode cL_law 1827 = .ok (.ireturn, 1) := by decide +kernel
theorem dL_law_1828 : decode cL_law 1828 = .ok (.goto 884, 3) := by decide +kernel
theorem dL_law_1831 : decode cL_law 1831 = .ok (.aload_n 1, 1) := by decide +kernel
theorem dL_law_1832 : decode cL_law 1832 = .ok (.aload_n 0, 1) := by decide +kernel
theorem dL_law_1833 : decode cL_law 1833 = .ok (.iload 4, 2) := by decide +kernel
theorem dL_law_1835 : decode cL_law 1835 = .ok (.iconst 1, 1) := by decide +kernel
theorem dL_law_1836 : decode cL_law 1836 = .ok (.iadd, 1) := by decide +kernel
theorem dL_law_1837 : decode cL_law 1837 = .ok (.iaload, 1) := by decide +kernel
theorem dL_law_1838 : decode cL_law 1838 = .ok (.aload_n 3, 1) := by decide +kernel
theorem dL_law_1839 : decode cL_law 1839 = .ok (.invokestatic 233, 3) := by decide +kernel
theorem dL_law_1842 : decode cL_law 1842 = .ok (.istore 5, 2) := by decide +kernel
theorem dL_law_1844 : decode cL_law 1844 = .ok (.aload_n 2, 1) := by decide +kernel
theorem dL_law_1845 : decode cL_law 1845 = .ok (.aload_n 0, 1) := by decide +kernel
theorem dL_law_1846 : decode cL_law 1846 = .ok (.iload 4, 2) := by decide +kernel
theorem dL_law_1848 : decode cL_law 1848 = .ok (.iconst 1, 1) := by decide +kernel
theorem dL_law_1849 : decode cL_law 1849 = .ok (.iadd, 1) := by decide +kernel
theorem dL_law_1850 : decode cL_law 1850 = .ok (.iaload, 1) := by decide +kernel
theorem dL_law_1851 : decode cL_law 1851 = .ok (.invokevirtual 235, 3) := by decide +kernel
theorem dL_law_1854 : decode cL_law 1854 = .ok (.istore 6, 2) := by decide +kernel
theorem dL_law_1856 : decode cL_law 1856 = .ok (.aload_n 2, 1) := by decide +kernel
theorem dL_law_1857 : decode cL_law 1857 = .ok (.invokevirtual 142, 3) := by decide +kernel
theorem dL_law_1860 : decode cL_law 1860 = .ok (.iload 5, 2) := by decide +kernel
theorem dL_law_1862 : decode cL_law 1862 = .ok (.if_icmp .eq 5, 3) := by decide +kernel
theorem dL_law_1865 : decode cL_law 1865 = .ok (.iconst 0, 1) := by decide +kernel
theorem dL_law_1866 : decode cL_law 1866 = .ok (.ireturn, 1) := by decide +kernel
theorem dL_law_1867 : decode cL_law 1867 = .ok (.iload 5, 2) := by decide +kernel
theorem dL_law_1869 : decode cL_law 1869 = .ok (.ifCond .ne 15, 3) := by decide +kernel
theorem dL_law_1872 : decode cL_law 1872 = .ok (.aload_n 3, 1) := by decide +kernel
theorem dL_law_1873 : decode cL_law 1873 = .ok (.iconst 0, 1) := by decide +kernel
theorem dL_law_1874 : decode cL_law 1874 = .ok (.laload, 1) := by decide +kernel
theorem dL_law_1875 : decode cL_law 1875 = .ok (.iload 6, 2) := by decide +kernel
theorem dL_law_1877 : decode cL_law 1877 = .ok (.i2l, 1) := by decide +kernel
theorem dL_law_1878 : decode cL_law 1878 = .ok (.lcmp, 1) := by decide +kernel
theorem dL_law_1879 : decode cL_law 1879 = .ok (.ifCond .eq 5, 3) := by decide +kernel
theorem dL_law_1882 : decode cL_law 1882 = .ok (.iconst 0, 1) := by decide +kernel
theorem dL_law_1883 : decode cL_law 1883 = .ok (.ireturn, 1) := by decide +kernel
theorem dL_law_1884 : decode cL_law 1884 = .ok (.goto 828, 3) := by decide +kernel
theorem dL_law_1887 : decode cL_law 1887 = .ok (.aload_n 1, 1) := by decide +kernel
theorem dL_law_1888 : decode cL_law 1888 = .ok (.aload_n 0, 1) := by decide +kernel
theorem dL_law_1889 : decode cL_law 1889 = .ok (.iload 4, 2) := by decide +kernel
theorem dL_law_1891 : decode cL_law 1891 = .ok (.iconst 1, 1) := by decide +kernel
theorem dL_law_1892 : decode cL_law 1892 = .ok (.iadd, 1) := by decide +kernel
theorem dL_law_1893 : decode cL_law 1893 = .ok (.iaload, 1) := by decide +kernel
theorem dL_law_1894 : decode cL_law 1894 = .ok (.aload_n 3, 1) := by decide +kernel
theorem dL_law_1895 : decode cL_law 1895 = .ok (.invokestatic 236, 3) := by decide +kernel
theorem dL_law_1898 : decode cL_law 1898 = .ok (.istore 5, 2) := by decide +kernel
theorem dL_law_1900 : decode cL_law 1900 = .ok (.aload_n 2, 1) := by decide +kernel
theorem dL_law_1901 : decode cL_law 1901 = .ok (.aload_n 0, 1) := by decide +kernel
theorem dL_law_1902 : decode cL_law 1902 = .ok (.iload 4, 2) := by decide +kernel
theorem dL_law_1904 : decode cL_law 1904 = .ok (.iconst 1, 1) := by decide +kernel
theorem dL_law_1905 : decode cL_law 1905 = .ok (.iadd, 1) := by decide +kernel
theorem dL_law_1906 : decode cL_law 1906 = .ok (.iaload, 1) := by decide +kernel
theorem dL_law_1907 : decode cL_law 1907 = .ok (.invokevirtual 238, 3) := by decide +kernel
theorem dL_law_1910 : decode cL_law 1910 = .ok (.istore 6, 2) := by decide +kernel
theorem dL_law_1912 : decode cL_law 1912 = .ok (.aload_n 2, 1) := by decide +kernel
theorem dL_law_1913 : decode cL_law 1913 = .ok (.invokevirtual 142, 3) := by decide +kernel
theorem dL_law_1916 : decode cL_law 1916 = .ok (.iload 5, 2) := by decide +kernel
theorem dL_law_1918 : decode cL_law 1918 = .ok (.if_icmp .eq 5, 3) := by decide +kernel
theorem dL_law_1921 : decode cL_law 1921 = .ok (.iconst 0, 1) := by decide +kernel
theorem dL_law_1922 : decode cL_law 1922 = .ok (.ireturn, 1) := by decide +kernel
theorem dL_law_1923 : decode cL_law 1923 = .ok (.iload 5, 2) := by decide +kernel
theorem dL_law_1925 : decode cL_law 1925 = .ok (.ifCond .ne 15, 3) := by decide +kernel
theorem dL_law_1928 : decode cL_law 1928 = .ok (.aload_n 3, 1) := by decide +kernel
theorem dL_law_1929 : decode cL_law 1929 = .ok (.iconst 0, 1) := by decide +kernel
theorem dL_law_1930 : decode cL_law 1930 = .ok (.laload, 1) := by decide +kernel
theorem dL_law_1931 : decode cL_law 1931 = .ok (.iload 6, 2) := by decide +kernel
theorem dL_law_1933 : decode cL_law 1933 = .ok (.i2l, 1) := by decide +kernel
theorem dL_law_1934 : decode cL_law 1934 = .ok (.lcmp, 1) := by decide +kernel
theorem dL_law_1935 : decode cL_law 1935 = .ok (.ifCond .eq 5, 3) := by decide +kernel
theorem dL_law_1938 : decode cL_law 1938 = .ok (.iconst 0, 1) := by decide +kernel
theorem dL_law_1939 : decode cL_law 1939 = .ok (.ireturn, 1) := by decide +kernel
theorem dL_law_1940 : decode cL_law 1940 = .ok (.goto 772, 3) := by decide +kernel
theorem dL_law_1943 : decode cL_law 1943 = .ok (.aload_n 1, 1) := by decide +kernel
theorem dL_law_1944 : decode cL_law 1944 = .ok (.aload_n 0, 1) := by decide +kernel
theorem dL_law_1945 : decode cL_law 1945 = .ok (.iload 4, 2) := by decide +kernel
theorem dL_law_1947 : decode cL_law 1947 = .ok (.iconst 1, 1) := by decide +kernel
theorem dL_law_1948 : decode cL_law 1948 = .ok (.iadd, 1) := by decide +kernel
theorem dL_law_1949 : decode cL_law 1949 = .ok (.iaload, 1) := by decide +kernel
theorem dL_law_1950 : decode cL_law 1950 = .ok (.aload_n 3, 1) := by decide +kernel
theorem dL_law_1951 : decode cL_law 1951 = .ok (.invokestatic 239, 3) := by decide +kernel
theorem dL_law_1954 : decode cL_law 1954 = .ok (.istore 5, 2) := by decide +kernel
theorem dL_law_1956 : decode cL_law 1956 = .ok (.aload_n 2, 1) := by decide +kernel
theorem dL_law_1957 : decode cL_law 1957 = .ok (.aload_n 0, 1) := by decide +kernel
theorem dL_law_1958 : decode cL_law 1958 = .ok (.iload 4, 2) := by decide +kernel
theorem dL_law_1960 : decode cL_law 1960 = .ok (.iconst 1, 1) := by decide +kernel
theorem dL_law_1961 : decode cL_law 1961 = .ok (.iadd, 1) := by decide +kernel
theorem dL_law_1962 : decode cL_law 1962 = .ok (.iaload, 1) := by decide +kernel
theorem dL_law_1963 : decode cL_law 1963 = .ok (.invokevirtual 241, 3) := by decide +kernel
theorem dL_law_1966 : decode cL_law 1966 = .ok (.istore 6, 2) := by decide +kernel
theorem dL_law_1968 : decode cL_law 1968 = .ok (.aload_n 2, 1) := by decide +kernel
theorem dL_law_1969 : decode cL_law 1969 = .ok (.invokevirtual 142, 3) := by decide +kernel
theorem dL_law_1972 : decode cL_law 1972 = .ok (.iload 5, 2) := by decide +kernel
theorem dL_law_1974 : decode cL_law 1974 = .ok (.if_icmp .eq 5, 3) := by decide +kernel
theorem dL_law_1977 : decode cL_law 1977 = .ok (.iconst 0, 1) := by decide +kernel
theorem dL_law_1978 : decode cL_law 1978 = .ok (.ireturn, 1) := by decide +kernel
theorem dL_law_1979 : decode cL_law 1979 = .ok (.iload 5, 2) := by decide +kernel
theorem dL_law_1981 : decode cL_law 1981 = .ok (.ifCond .ne 15, 3) := by decide +kernel
theorem dL_law_1984 : decode cL_law 1984 = .ok (.aload_n 3, 1) := by decide +kernel
theorem dL_law_1985 : decode cL_law 1985 = .ok (.iconst 0, 1) := by decide +kernel
theorem dL_law_1986 : decode cL_law 1986 = .ok (.laload, 1) := by decide +kernel
theorem dL_law_1987 : decode cL_law 1987 = .ok (.iload 6, 2) := by decide +kernel
theorem dL_law_1989 : decode cL_law 1989 = .ok (.i2l, 1) := by decide +kernel
theorem dL_law_1990 : decode cL_law 1990 = .ok (.lcmp, 1) := by decide +kernel
theorem dL_law_1991 : decode cL_law 1991 = .ok (.ifCond .eq 5, 3) := by decide +kernel
theorem dL_law_1994 : decode cL_law 1994 = .ok (.iconst 0, 1) := by decide +kernel
theorem dL_law_1995 : decode cL_law 1995 = .ok (.ireturn, 1) := by decide +kernel
theorem dL_law_1996 : decode cL_law 1996 = .ok (.goto 716, 3) := by decide +kernel
theorem dL_law_1999 : decode cL_law 1999 = .ok (.aload_n 1, 1) := by decide +kernel
theorem dL_law_2000 : decode cL_law 2000 = .ok (.aload_n 0, 1) := by decide +kernel
theorem dL_law_2001 : decode cL_law 2001 = .ok (.iload 4, 2) := by decide +kernel
theorem dL_law_2003 : decode cL_law 2003 = .ok (.iconst 1, 1) := by decide +kernel
theorem dL_law_2004 : decode cL_law 2004 = .ok (.iadd, 1) := by decide +kernel
theorem dL_law_2005 : decode cL_law 2005 = .ok (.iaload, 1) := by decide +kernel
theorem dL_law_2006 : decode cL_law 2006 = .ok (.aload_n 0, 1) := by decide +kernel
theorem dL_law_2007 : decode cL_law 2007 = .ok (.iload 4, 2) := by decide +kernel
theorem dL_law_2009 : decode cL_law 2009 = .ok (.iconst 2, 1) := by decide +kernel
theorem dL_law_2010 : decode cL_law 2010 = .ok (.iadd, 1) := by decide +kernel
theorem dL_law_2011 : decode cL_law 2011 = .ok (.iaload, 1) := by decide +kernel
theorem dL_law_2012 : decode cL_law 2012 = .ok (.aload_n 3, 1) := by decide +kernel
theorem dL_law_2013 : decode cL_law 2013 = .ok (.invokestatic 242, 3) := by decide +kernel
theorem dL_law_2016 : decode cL_law 2016 = .ok (.istore 5, 2) := by decide +kernel
theorem dL_law_2018 : decode cL_law 2018 = .ok (.aload_n 2, 1) := by decide +kernel
theorem dL_law_2019 : decode cL_law 2019 = .ok (.aload_n 0, 1) := by decide +kernel
theorem dL_law_2020 : decode cL_law 2020 = .ok (.iload 4, 2) := by decide +kernel
theorem dL_law_2022 : decode cL_law 2022 = .ok (.iconst 1, 1) := by decide +kernel
theorem dL_law_2023 : decode cL_law 2023 = .ok (.iadd, 1) := by decide +kernel
theorem dL_law_2024 : decode cL_law 2024 = .ok (.iaload, 1) := by decide +kernel
theorem dL_law_2025 : decode cL_law 2025 = .ok (.aload_n 0, 1) := by decide +kernel
theorem dL_law_2026 : decode cL_law 2026 = .ok (.iload 4, 2) := by decide +kernel
theorem dL_law_2028 : decode cL_law 2028 = .ok (.iconst 2, 1) := by decide +kernel
theorem dL_law_2029 : decode cL_law 2029 = .ok (.iadd, 1) := by decide +kernel
theorem dL_law_2030 : decode cL_law 2030 = .ok (.iaload, 1) := by decide +kernel
theorem dL_law_2031 : decode cL_law 2031 = .ok (.invokevirtual 244, 3) := by decide +kernel
theorem dL_law_2034 : decode cL_law 2034 = .ok (.istore 6, 2) := by decide +kernel
theorem dL_law_2036 : decode cL_law 2036 = .ok (.aload_n 2, 1) := by decide +kernel
theorem dL_law_2037 : decode cL_law 2037 = .ok (.invokevirtual 142, 3) := by decide +kernel
theorem dL_law_2040 : decode cL_law 2040 = .ok (.iload 5, 2) := by decide +kernel
theorem dL_law_2042 : decode cL_law 2042 = .ok (.if_icmp .eq 5, 3) := by decide +kernel
theorem dL_law_2045 : decode cL_law 2045 = .ok (.iconst 0, 1) := by decide +kernel
theorem dL_law_2046 : decode cL_law 2046 = .ok (.ireturn, 1) := by decide +kernel
theorem dL_law_2047 : decode cL_law 2047 = .ok (.iload 5, 2) := by decide +kernel
theorem dL_law_2049 : decode cL_law 2049 = .ok (.ifCond .ne 15, 3) := by decide +kernel
theorem dL_law_2052 : decode cL_law 2052 = .ok (.aload_n 3, 1) := by decide +kernel
theorem dL_law_2053 : decode cL_law 2053 = .ok (.iconst 0, 1) := by decide +kernel
theorem dL_law_2054 : decode cL_law 2054 = .ok (.laload, 1) := by decide +kernel
theorem dL_law_2055 : decode cL_law 2055 = .ok (.iload 6, 2) := by decide +kernel
theorem dL_law_2057 : decode cL_law 2057 = .ok (.i2l, 1) := by decide +kernel
theorem dL_law_2058 : decode cL_law 2058 = .ok (.lcmp, 1) := by decide +kernel
theorem dL_law_2059 : decode cL_law 2059 = .ok (.ifCond .eq 5, 3) := by decide +kernel
theorem dL_law_2062 : decode cL_law 2062 = .ok (.iconst 0, 1) := by decide +kernel
theorem dL_law_2063 : decode cL_law 2063 = .ok (.ireturn, 1) := by decide +kernel
theorem dL_law_2064 : decode cL_law 2064 = .ok (.goto 648, 3) := by decide +kernel
theorem dL_law_2067 : decode cL_law 2067 = .ok (.aload_n 1, 1) := by decide +kernel
theorem dL_law_2068 : decode cL_law 2068 = .ok (.aload_n 0, 1) := by decide +kernel
theorem dL_law_2069 : decode cL_law 2069 = .ok (.iload 4, 2) := by decide +kernel
theorem dL_law_2071 : decode cL_law 2071 = .ok (.iconst 1, 1) := by decide +kernel
theorem dL_law_2072 : decode cL_law 2072 = .ok (.iadd, 1) := by decide +kernel
theorem dL_law_2073 : decode cL_law 2073 = .ok (.iaload, 1) := by decide +kernel
theorem dL_law_2074 : decode cL_law 2074 = .ok (.aload_n 0, 1) := by decide +kernel
theorem dL_law_2075 : decode cL_law 2075 = .ok (.iload 4, 2) := by decide +kernel
theorem dL_law_2077 : decode cL_law 2077 = .ok (.iconst 2, 1) := by decide +kernel
theorem dL_law_2078 : decode cL_law 2078 = .ok (.iadd, 1) := by decide +kernel
theorem dL_law_2079 : decode cL_law 2079 = .ok (.iaload, 1) := by decide +kernel
theorem dL_law_2080 : decode cL_law 2080 = .ok (.aload_n 3, 1) := by decide +kernel
theorem dL_law_2081 : decode cL_law 2081 = .ok (.invokestatic 245, 3) := by decide +kernel
theorem dL_law_2084 : decode cL_law 2084 = .ok (.istore 5, 2) := by decide +kernel
theorem dL_law_2086 : decode cL_law 2086 = .ok (.aload_n 2, 1) := by decide +kernel
theorem dL_law_2087 : decode cL_law 2087 = .ok (.aload_n 0, 1) := by decide +kernel
theorem dL_law_2088 : decode cL_law 2088 = .ok (.iload 4, 2) := by decide +kernel
theorem dL_law_2090 : decode cL_law 2090 = .ok (.iconst 1, 1) := by decide +kernel
theorem dL_law_2091 : decode cL_law 2091 = .ok (.iadd, 1) := by decide +kernel
theorem dL_law_2092 : decode cL_law 2092 = .ok (.iaload, 1) := by decide +kernel
theorem dL_law_2093 : decode cL_law 2093 = .ok (.aload_n 0, 1) := by decide +kernel
theorem dL_law_2094 : decode cL_law 2094 = .ok (.iload 4, 2) := by decide +kernel
theorem dL_law_2096 : decode cL_law 2096 = .ok (.iconst 2, 1) := by decide +kernel
theorem dL_law_2097 : decode cL_law 2097 = .ok (.iadd, 1) := by decide +kernel
theorem dL_law_2098 : decode cL_law 2098 = .ok (.iaload, 1) := by decide +kernel
theorem dL_law_2099 : decode cL_law 2099 = .ok (.invokevirtual 247, 3) := by decide +kernel
theorem dL_law_2102 : decode cL_law 2102 = .ok (.istore 6, 2) := by decide +kernel
theorem dL_law_2104 : decode cL_law 2104 = .ok (.aload_n 2, 1) := by decide +kernel
theorem dL_law_2105 : decode cL_law 2105 = .ok (.invokevirtual 142, 3) := by decide +kernel
theorem dL_law_2108 : decode cL_law 2108 = .ok (.iload 5, 2) := by decide +kernel
theorem dL_law_2110 : decode cL_law 2110 = .ok (.if_icmp .eq 5, 3) := by decide +kernel
theorem dL_law_2113 : decode cL_law 2113 = .ok (.iconst 0, 1) := by decide +kernel
theorem dL_law_2114 : decode cL_law 2114 = .ok (.ireturn, 1) := by decide +kernel
theorem dL_law_2115 : decode cL_law 2115 = .ok (.iload 5, 2) := by decide +kernel
theorem dL_law_2117 : decode cL_law 2117 = .ok (.ifCond .ne 15, 3) := by decide +kernel
theorem dL_law_2120 : decode cL_law 2120 = .ok (.aload_n 3, 1) := by decide +kernel
theorem dL_law_2121 : decode cL_law 2121 = .ok (.iconst 0, 1) := by decide +kernel
theorem dL_law_2122 : decode cL_law 2122 = .ok (.laload, 1) := by decide +kernel
theorem dL_law_2123 : decode cL_law 2123 = .ok (.iload 6, 2) := by decide +kernel
theorem dL_law_2125 : decode cL_law 2125 = .ok (.i2l, 1) := by decide +kernel
theorem dL_law_2126 : decode cL_law 2126 = .ok (.lcmp, 1) := by decide +kernel
theorem dL_law_2127 : decode cL_law 2127 = .ok (.ifCond .eq 5, 3) := by decide +kernel
theorem dL_law_2130 : decode cL_law 2130 = .ok (.iconst 0, 1) := by decide +kernel
theorem dL_law_2131 : decode cL_law 2131 = .ok (.ireturn, 1) := by decide +kernel
theorem dL_law_2132 : decode cL_law 2132 = .ok (.goto 580, 3) := by decide +kernel
theorem dL_law_2135 : decode cL_law 2135 = .ok (.aload_n 1, 1) := by decide +kernel
theorem dL_law_2136 : decode cL_law 2136 = .ok (.aload_n 0, 1) := by decide +kernel
theorem dL_law_2137 : decode cL_law 2137 = .ok (.iload 4, 2) := by decide +kernel
theorem dL_law_2139 : decode cL_law 2139 = .ok (.iconst 1, 1) := by decide +kernel
theorem dL_law_2140 : decode cL_law 2140 = .ok (.iadd, 1) := by decide +kernel
theorem dL_law_2141 : decode cL_law 2141 = .ok (.iaload, 1) := by decide +kernel
theorem dL_law_2142 : decode cL_law 2142 = .ok (.aload_n 3, 1) := by decide +kernel
theorem dL_law_2143 : decode cL_law 2143 = .ok (.invokestatic 248, 3) := by decide +kernel
theorem dL_law_2146 : decode cL_law 2146 = .ok (.istore 5, 2) := by decide +kernel
theorem dL_law_2148 : decode cL_law 2148 = .ok (.aload_n 2, 1) := by decide +kernel
theorem dL_law_2149 : decode cL_law 2149 = .ok (.aload_n 0, 1) := by decide +kernel
theorem dL_law_2150 : decode cL_law 2150 = .ok (.iload 4, 2) := by decide +kernel
theorem dL_law_2152 : decode cL_law 2152 = .ok (.iconst 1, 1) := by decide +kernel
theorem dL_law_2153 : decode cL_law 2153 = .ok (.iadd, 1) := by decide +kernel
theorem dL_law_2154 : decode cL_law 2154 = .ok (.iaload, 1) := by decide +kernel
theorem dL_law_2155 : decode cL_law 2155 = .ok (.invokevirtual 250, 3) := by decide +kernel
theorem dL_law_2158 : decode cL_law 2158 = .ok (.istore 6, 2) := by decide +kernel
theorem dL_law_2160 : decode cL_law 2160 = .ok (.aload_n 2, 1) := by decide +kernel
theorem dL_law_2161 : decode cL_law 2161 = .ok (.invokevirtual 142, 3) := by decide +kernel
theorem dL_law_2164 : decode cL_law 2164 = .ok (.iload 5, 2) := by decide +kernel
theorem dL_law_2166 : decode cL_law 2166 = .ok (.if_icmp .eq 5, 3) := by decide +kernel
theorem dL_law_2169 : decode cL_law 2169 = .ok (.iconst 0, 1) := by decide +kernel
theorem dL_law_2170 : decode cL_law 2170 = .ok (.ireturn, 1) := by decide +kernel
theorem dL_law_2171 : decode cL_law 2171 = .ok (.iload 5, 2) := by decide +kernel
theorem dL_law_2173 : decode cL_law 2173 = .ok (.ifCond .ne 15, 3) := by decide +kernel
theorem dL_law_2176 : decode cL_law 2176 = .ok (.aload_n 3, 1) := by decide +kernel
theorem dL_law_2177 : decode cL_law 2177 = .ok (.iconst 0, 1) := by decide +kernel
theorem dL_law_2178 : decode cL_law 2178 = .ok (.laload, 1) := by decide +kernel
theorem dL_law_2179 : decode cL_law 2179 = .ok (.iload 6, 2) := by decide +kernel
theorem dL_law_2181 : decode cL_law 2181 = .ok (.i2l, 1) := by decide +kernel
theorem dL_law_2182 : decode cL_law 2182 = .ok (.lcmp, 1) := by decide +kernel
theorem dL_law_2183 : decode cL_law 2183 = .ok (.ifCond .eq 5, 3) := by decide +kernel
theorem dL_law_2186 : decode cL_law 2186 = .ok (.iconst 0, 1) := by decide +kernel
theorem dL_law_2187 : decode cL_law 2187 = .ok (.ireturn, 1) := by decide +kernel
theorem dL_law_2188 : decode cL_law 2188 = .ok (.goto 524, 3) := by decide +kernel
theorem dL_law_2191 : decode cL_law 2191 = .ok (.aload_n 1, 1) := by decide +kernel
theorem dL_law_2192 : decode cL_law 2192 = .ok (.invokevirtual 251, 3) := by decide +kernel
theorem dL_law_2195 : decode cL_law 2195 = .ok (.aload_n 2, 1) := by decide +kernel
theorem dL_law_2196 : decode cL_law 2196 = .ok (.invokevirtual 254, 3) := by decide +kernel
theorem dL_law_2199 : decode cL_law 2199 = .ok (.if_icmp .eq 513, 3) := by decide +kernel
theorem dL_law_2202 : decode cL_law 2202 = .ok (.iconst 0, 1) := by decide +kernel
theorem dL_law_2203 : decode cL_law 2203 = .ok (.ireturn, 1) := by decide +kernel
theorem dL_law_2204 : decode cL_law 2204 = .ok (.aload_n 1, 1) := by decide +kernel
theorem dL_law_2205 : decode cL_law 2205 = .ok (.invokevirtual 255, 3) := by decide +kernel
theorem dL_law_2208 : decode cL_law 2208 = .ok (.aload_n 2, 1) := by decide +kernel
theorem dL_law_2209 : decode cL_law 2209 = .ok (.invokevirtual 258, 3) := by decide +kernel
theorem dL_law_2212 : decode cL_law 2212 = .ok (.if_icmp .eq 500, 3) := by decide +kernel
theorem dL_law_2215 : decode cL_law 2215 = .ok (.iconst 0, 1) := by decide +kernel
theorem dL_law_2216 : decode cL_law 2216 = .ok (.ireturn, 1) := by decide +kernel
theorem dL_law_2217 : decode cL_law 2217 = .ok (.aload_n 1, 1) := by decide +kernel
theorem dL_law_2218 : decode cL_law 2218 = .ok (.aload_n 0, 1) := by decide +kernel
theorem dL_law_2219 : decode cL_law 2219 = .ok (.iload 4, 2) := by decide +kernel
theorem dL_law_2221 : decode cL_law 2221 = .ok (.iconst 1, 1) := by decide +kernel
theorem dL_law_2222 : decode cL_law 2222 = .ok (.iadd, 1) := by decide +kernel
theorem dL_law_2223 : decode cL_law 2223 = .ok (.iaload, 1) := by decide +kernel
theorem dL_law_2224 : decode cL_law 2224 = .ok (.aload_n 0, 1) := by decide +kernel
theorem dL_law_2225 : decode cL_law 2225 = .ok (.iload 4, 2) := by decide +kernel
theorem dL_law_2227 : decode cL_law 2227 = .ok (.iconst 2, 1) := by decide +kernel
theorem dL_law_2228 : decode cL_law 2228 = .ok (.iadd, 1) := by decide +kernel
theorem dL_law_2229 : decode cL_law 2229 = .ok (.iaload, 1) := by decide +kernel
theorem dL_law_2230 : decode cL_law 2230 = .ok (.aload_n 0, 1) := by decide +kernel
theorem dL_law_2231 : decode cL_law 2231 = .ok (.iload 4, 2) := by decide +kernel
theorem dL_law_2233 : decode cL_law 2233 = .ok (.iconst 3, 1) := by decide +kernel
theorem dL_law_2234 : decode cL_law 2234 = .ok (.iadd, 1) := by decide +kernel
theorem dL_law_2235 : decode cL_law 2235 = .ok (.iaload, 1) := by decide +kernel
theorem dL_law_2236 : decode cL_law 2236 = .ok (.aload_n 3, 1) := by decide +kernel
theorem dL_law_2237 : decode cL_law 2237 = .ok (.invokestatic 259, 3) := by decide +kernel
theorem dL_law_2240 : decode cL_law 2240 = .ok (.istore 5, 2) := by decide +kernel
theorem dL_law_2242 : decode cL_law 2242 = .ok (.aload_n 2, 1) := by decide +kernel
theorem dL_law_2243 : decode cL_law 2243 = .ok (.aload_n 0, 1) := by decide +kernel
theorem dL_law_2244 : decode cL_law 2244 = .ok (.iload 4, 2) := by decide +kernel
theorem dL_law_2246 : decode cL_law 2246 = .ok (.iconst 1, 1) := by decide +kernel
theorem dL_law_2247 : decode cL_law 2247 = .ok (.iadd, 1) := by decide +kernel
theorem dL_law_2248 : decode cL_law 2248 = .ok (.iaload, 1) := by decide +kernel
theorem dL_law_2249 : decode cL_law 2249 = .ok (.aload_n 0, 1) := by decide +kernel
theorem dL_law_2250 : decode cL_law 2250 = .ok (.iload 4, 2) := by decide +kernel
theorem dL_law_2252 : decode cL_law 2252 = .ok (.iconst 2, 1) := by decide +kernel
theorem dL_law_2253 : decode cL_law 2253 = .ok (.iadd, 1) := by decide +kernel
theorem dL_law_2254 : decode cL_law 2254 = .ok (.iaload, 1) := by decide +kernel
theorem dL_law_2255 : decode cL_law 2255 = .ok (.aload_n 0, 1) := by decide +kernel
theorem dL_law_2256 : decode cL_law 2256 = .ok (.iload 4, 2) := by decide +kernel
theorem dL_law_2258 : decode cL_law 2258 = .ok (.iconst 3, 1) := by decide +kernel
theorem dL_law_2259 : decode cL_law 2259 = .ok (.iadd, 1) := by decide +kernel
theorem dL_law_2260 : decode cL_law 2260 = .ok (.iaload, 1) := by decide +kernel
theorem dL_law_2261 : decode cL_law 2261 = .ok (.invokevirtual 262, 3) := by decide +kernel
theorem dL_law_2264 : decode cL_law 2264 = .ok (.istore 6, 2) := by decide +kernel
theorem dL_law_2266 : decode cL_law 2266 = .ok (.aload_n 2, 1) := by decide +kernel
theorem dL_law_2267 : decode cL_law 2267 = .ok (.invokevirtual 142, 3) := by decide +kernel
theorem dL_law_2270 : decode cL_law 2270 = .ok (.iload 5, 2) := by decide +kernel
theorem dL_law_2272 : decode cL_law 2272 = .ok (.if_icmp .eq 5, 3) := by decide +kernel
theorem dL_law_2275 : decode cL_law 2275 = .ok (.iconst 0, 1) := by decide +kernel
theorem dL_law_2276 : decode cL_law 2276 = .ok (.ireturn, 1) := by decide +kernel
theorem dL_law_2277 : decode cL_law 2277 = .ok (.iload 5, 2) := by decide +kernel
theorem dL_law_2279 : decode cL_law 2279 = .ok (.ifCond .ne 15, 3) := by decide +kernel
theorem dL_law_2282 : decode cL_law 2282 = .ok (.aload_n 3, 1) := by decide +kernel
theorem dL_law_2283 : decode cL_law 2283 = .ok (.iconst 0, 1) := by decide +kernel
theorem dL_law_2284 : decode cL_law 2284 = .ok (.laload, 1) := by decide +kernel
theorem dL_law_2285 : decode cL_law 2285 = .ok (.iload 6, 2) := by decide +kernel
theorem dL_law_2287 : decode cL_law 2287 = .ok (.i2l, 1) := by decide +kernel
theorem dL_law_2288 : decode cL_law 2288 = .ok (.lcmp, 1) := by decide +kernel
theorem dL_law_2289 : decode cL_law 2289 = .ok (.ifCond .eq 5, 3) := by decide +kernel
theorem dL_law_2292 : decode cL_law 2292 = .ok (.iconst 0, 1) := by decide +kernel
theorem dL_law_2293 : decode cL_law 2293 = .ok (.ireturn, 1) := by decide +kernel
theorem dL_law_2294 : decode cL_law 2294 = .ok (.goto 418, 3) := by decide +kernel
theorem dL_law_2297 : decode cL_law 2297 = .ok (.aload_n 1, 1) := by decide +kernel
theorem dL_law_2298 : decode cL_law 2298 = .ok (.aload_n 0, 1) := by decide +kernel
theorem dL_law_2299 : decode cL_law 2299 = .ok (.iload 4, 2) := by decide +kernel
theorem dL_law_2301 : decode cL_law 2301 = .ok (.iconst 1, 1) := by decide +kernel
theorem dL_law_2302 : decode cL_law 2302 = .ok (.iadd, 1) := by decide +kernel
theorem dL_law_2303 : decode cL_law 2303 = .ok (.iaload, 1) := by decide +kernel
theorem dL_law_2304 : decode cL_law 2304 = .ok (.aload_n 0, 1) := by decide +kernel
theorem dL_law_2305 : decode cL_law 2305 = .ok (.iload 4, 2) := by decide +kernel
theorem dL_law_2307 : decode cL_law 2307 = .ok (.iconst 2, 1) := by decide +kernel
theorem dL_law_2308 : decode cL_law 2308 = .ok (.iadd, 1) := by decide +kernel
theorem dL_law_2309 : decode cL_law 2309 = .ok (.iaload, 1) := by decide +kernel
theorem dL_law_2310 : decode cL_law 2310 = .ok (.aload_n 3, 1) := by decide +kernel
theorem dL_law_2311 : decode cL_law 2311 = .ok (.invokestatic 263, 3) := by decide +kernel
theorem dL_law_2314 : decode cL_law 2314 = .ok (.istore 5, 2) := by decide +kernel
theorem dL_law_2316 : decode cL_law 2316 = .ok (.aload_n 2, 1) := by decide +kernel
theorem dL_law_2317 : decode cL_law 2317 = .ok (.aload_n 0, 1) := by decide +kernel
theorem dL_law_2318 : decode cL_law 2318 = .ok (.iload 4, 2) := by decide +kernel
theorem dL_law_2320 : decode cL_law 2320 = .ok (.iconst 1, 1) := by decide +kernel
theorem dL_law_2321 : decode cL_law 2321 = .ok (.iadd, 1) := by decide +kernel
theorem dL_law_2322 : decode cL_law 2322 = .ok (.iaload, 1) := by decide +kernel
theorem dL_law_2323 : decode cL_law 2323 = .ok (.aload_n 0, 1) := by decide +kernel
theorem dL_law_2324 : decode cL_law 2324 = .ok (.iload 4, 2) := by decide +kernel
theorem dL_law_2326 : decode cL_law 2326 = .ok (.iconst 2, 1) := by decide +kernel
theorem dL_law_2327 : decode cL_law 2327 = .ok (.iadd, 1) := by decide +kernel
theorem dL_law_2328 : decode cL_law 2328 = .ok (.iaload, 1) := by decide +kernel
theorem dL_law_2329 : decode cL_law 2329 = .ok (.invokevirtual 265, 3) := by decide +kernel
theorem dL_law_2332 : decode cL_law 2332 = .ok (.istore 6, 2) := by decide +kernel
theorem dL_law_2334 : decode cL_law 2334 = .ok (.aload_n 2, 1) := by decide +kernel
theorem dL_law_2335 : decode cL_law 2335 = .ok (.invokevirtual 142, 3) := by decide +kernel
theorem dL_law_2338 : decode cL_law 2338 = .ok (.iload 5, 2) := by decide +kernel
theorem dL_law_2340 : decode cL_law 2340 = .ok (.if_icmp .eq 5, 3) := by decide +kernel
theorem dL_law_2343 : decode cL_law 2343 = .ok (.iconst 0, 1) := by decide +kernel
theorem dL_law_2344 : decode cL_law 2344 = .ok (.ireturn, 1) := by decide +kernel
theorem dL_law_2345 : decode cL_law 2345 = .ok (.iload 5, 2) := by decide +kernel
theorem dL_law_2347 : decode cL_law 2347 = .ok (.ifCond .ne 15, 3) := by decide +kernel
theorem dL_law_2350 : decode cL_law 2350 = .ok (.aload_n 3, 1) := by decide +kernel
theorem dL_law_2351 : decode cL_law 2351 = .ok (.iconst 0, 1) := by decide +kernel
theorem dL_law_2352 : decode cL_law 2352 = .ok (.laload, 1) := by decide +kernel
theorem dL_law_2353 : decode cL_law 2353 = .ok (.iload 6, 2) := by decide +kernel
theorem dL_law_2355 : decode cL_law 2355 = .ok (.i2l, 1) := by decide +kernel
theorem dL_law_2356 : decode cL_law 2356 = .ok (.lcmp, 1) := by decide +kernel
theorem dL_law_2357 : decode cL_law 2357 = .ok (.ifCond .eq 5, 3) := by decide +kernel
theorem dL_law_2360 : decode cL_law 2360 = .ok (.iconst 0, 1) := by decide +kernel
theorem dL_law_2361 : decode cL_law 2361 = .ok (.ireturn, 1) := by decide +kernel
theorem dL_law_2362 : decode cL_law 2362 = .ok (.goto 350, 3) := by decide +kernel
theorem dL_law_2365 : decode cL_law 2365 = .ok (.aload_n 1, 1) := by decide +kernel
theorem dL_law_2366 : decode cL_law 2366 = .ok (.aload_n 0, 1) := by decide +kernel
theorem dL_law_2367 : decode cL_law 2367 = .ok (.iload 4, 2) := by decide +kernel
theorem dL_law_2369 : decode cL_law 2369 = .ok (.iconst 1, 1) := by decide +kernel
theorem dL_law_2370 : decode cL_law 2370 = .ok (.iadd, 1) := by decide +kernel
theorem dL_law_2371 : decode cL_law 2371 = .ok (.iaload, 1) := by decide +kernel
theorem dL_law_2372 : decode cL_law 2372 = .ok (.aload_n 3, 1) := by decide +kernel
theorem dL_law_2373 : decode cL_law 2373 = .ok (.invokestatic 266, 3) := by decide +kernel
theorem dL_law_2376 : decode cL_law 2376 = .ok (.istore 5, 2) := by decide +kernel
theorem dL_law_2378 : decode cL_law 2378 = .ok (.aload_n 2, 1) := by decide +kernel
theorem dL_law_2379 : decode cL_law 2379 = .ok (.aload_n 0, 1) := by decide +kernel
theorem dL_law_2380 : decode cL_law 2380 = .ok (.iload 4, 2) := by decide +kernel
theorem dL_law_2382 : decode cL_law 2382 = .ok (.iconst 1, 1) := by decide +kernel
theorem dL_law_2383 : decode cL_law 2383 = .ok (.iadd, 1) := by decide +kernel
theorem dL_law_2384 : decode cL_law 2384 = .ok (.iaload, 1) := by decide +kernel
theorem dL_law_2385 : decode cL_law 2385 = .ok (.invokevirtual 268, 3) := by decide +kernel
theorem dL_law_2388 : decode cL_law 2388 = .ok (.istore 6, 2) := by decide +kernel
theorem dL_law_2390 : decode cL_law 2390 = .ok (.aload_n 2, 1) := by decide +kernel
theorem dL_law_2391 : decode cL_law 2391 = .ok (.invokevirtual 142, 3) := by decide +kernel
theorem dL_law_2394 : decode cL_law 2394 = .ok (.iload 5, 2) := by decide +kernel
theorem dL_law_2396 : decode cL_law 2396 = .ok (.if_icmp .eq 5, 3) := by decide +kernel
theorem dL_law_2399 : decode cL_law 2399 = .ok (.iconst 0, 1) := by decide +kernel
theorem dL_law_2400 : decode cL_law 2400 = .ok (.ireturn, 1) := by decide +kernel
theorem dL_law_2401 : decode cL_law 2401 = .ok (.iload 5, 2) := by decide +kernel
theorem dL_law_2403 : decode cL_law 2403 = .ok (.ifCond .ne 15, 3) := by decide +kernel
theorem dL_law_2406 : decode cL_law 2406 = .ok (.aload_n 3, 1) := by decide +kernel
theorem dL_law_2407 : decode cL_law 2407 = .ok (.iconst 0, 1) := by decide +kernel
theorem dL_law_2408 : decode cL_law 2408 = .ok (.laload, 1) := by decide +kernel
theorem dL_law_2409 : decode cL_law 2409 = .ok (.iload 6, 2) := by decide +kernel
theorem dL_law_2411 : decode cL_law 2411 = .ok (.i2l, 1) := by decide +kernel
theorem dL_law_2412 : decode cL_law 2412 = .ok (.lcmp, 1) := by decide +kernel
theorem dL_law_2413 : decode cL_law 2413 = .ok (.ifCond .eq 5, 3) := by decide +kernel
theorem dL_law_2416 : decode cL_law 2416 = .ok (.iconst 0, 1) := by decide +kernel
theorem dL_law_2417 : decode cL_law 2417 = .ok (.ireturn, 1) := by decide +kernel
theorem dL_law_2418 : decode cL_law 2418 = .ok (.goto 294, 3) := by decide +kernel
theorem dL_law_2421 : decode cL_law 2421 = .ok (.aload_n 1, 1) := by decide +kernel
theorem dL_law_2422 : decode cL_law 2422 = .ok (.aload_n 0, 1) := by decide +kernel
theorem dL_law_2423 : decode cL_law 2423 = .ok (.iload 4, 2) := by decide +kernel
theorem dL_law_2425 : decode cL_law 2425 = .ok (.iconst 1, 1) := by decide +kernel
theorem dL_law_2426 : decode cL_law 2426 = .ok (.iadd, 1) := by decide +kernel
theorem dL_law_2427 : decode cL_law 2427 = .ok (.iaload, 1) := by decide +kernel
theorem dL_law_2428 : decode cL_law 2428 = .ok (.aload_n 3, 1) := by decide +kernel
theorem dL_law_2429 : decode cL_law 2429 = .ok (.invokestatic 269, 3) := by decide +kernel
theorem dL_law_2432 : decode cL_law 2432 = .ok (.istore 5, 2) := by decide +kernel
theorem dL_law_2434 : decode cL_law 2434 = .ok (.aload_n 2, 1) := by decide +kernel
theorem dL_law_2435 : decode cL_law 2435 = .ok (.aload_n 0, 1) := by decide +kernel
theorem dL_law_2436 : decode cL_law 2436 = .ok (.iload 4, 2) := by decide +kernel
theorem dL_law_2438 : decode cL_law 2438 = .ok (.iconst 1, 1) := by decide +kernel
theorem dL_law_2439 : decode cL_law 2439 = .ok (.iadd, 1) := by decide +kernel
theorem dL_law_2440 : decode cL_law 2440 = .ok (.iaload, 1) := by decide +kernel
theorem dL_law_2441 : decode cL_law 2441 = .ok (.invokevirtual 271, 3) := by decide +kernel
theorem dL_law_2444 : decode cL_law 2444 = .ok (.istore 6, 2) := by decide +kernel
theorem dL_law_2446 : decode cL_law 2446 = .ok (.aload_n 2, 1) := by decide +kernel
theorem dL_law_2447 : decode cL_law 2447 = .ok (.invokevirtual 142, 3) := by decide +kernel
theorem dL_law_2450 : decode cL_law 2450 = .ok (.iload 5, 2) := by decide +kernel
theorem dL_law_2452 : decode cL_law 2452 = .ok (.if_icmp .eq 5, 3) := by decide +kernel
theorem dL_law_2455 : decode cL_law 2455 = .ok (.iconst 0, 1) := by decide +kernel
theorem dL_law_2456 : decode cL_law 2456 = .ok (.ireturn, 1) := by decide +kernel
theorem dL_law_2457 : decode cL_law 2457 = .ok (.iload 5, 2) := by decide +kernel
theorem dL_law_2459 : decode cL_law 2459 = .ok (.ifCond .ne 15, 3) := by decide +kernel
theorem dL_law_2462 : decode cL_law 2462 = .ok (.aload_n 3, 1) := by decide +kernel
theorem dL_law_2463 : decode cL_law 2463 = .ok (.iconst 0, 1) := by decide +kernel
theorem dL_law_2464 : decode cL_law 2464 = .ok (.laload, 1) := by decide +kernel
theorem dL_law_2465 : decode cL_law 2465 = .ok (.iload 6, 2) := by decide +kernel
theorem dL_law_2467 : decode cL_law 2467 = .ok (.i2l, 1) := by decide +kernel
theorem dL_law_2468 : decode cL_law 2468 = .ok (.lcmp, 1) := by decide +kernel
theorem dL_law_2469 : decode cL_law 2469 = .ok (.ifCond .eq 5, 3) := by decide +kernel
theorem dL_law_2472 : decode cL_law 2472 = .ok (.iconst 0, 1) := by decide +kernel
theorem dL_law_2473 : decode cL_law 2473 = .ok (.ireturn, 1) := by decide +kernel
theorem dL_law_2474 : decode cL_law 2474 = .ok (.goto 238, 3) := by decide +kernel
theorem dL_law_2477 : decode cL_law 2477 = .ok (.aload_n 1, 1) := by decide +kernel
theorem dL_law_2478 : decode cL_law 2478 = .ok (.aload_n 0, 1) := by decide +kernel
theorem dL_law_2479 : decode cL_law 2479 = .ok (.iload 4, 2) := by decide +kernel
theorem dL_law_2481 : decode cL_law 2481 = .ok (.iconst 1, 1) := by decide +kernel
theorem dL_law_2482 : decode cL_law 2482 = .ok (.iadd, 1) := by decide +kernel
theorem dL_law_2483 : decode cL_law 2483 = .ok (.iaload, 1) := by decide +kernel
theorem dL_law_2484 : decode cL_law 2484 = .ok (.aload_n 0, 1) := by decide +kernel
theorem dL_law_2485 : decode cL_law 2485 = .ok (.iload 4, 2) := by decide +kernel
theorem dL_law_2487 : decode cL_law 2487 = .ok (.iconst 2, 1) := by decide +kernel
theorem dL_law_2488 : decode cL_law 2488 = .ok (.iadd, 1) := by decide +kernel
theorem dL_law_2489 : decode cL_law 2489 = .ok (.iaload, 1) := by decide +kernel
theorem dL_law_2490 : decode cL_law 2490 = .ok (.aload_n 3, 1) := by decide +kernel
theorem dL_law_2491 : decode cL_law 2491 = .ok (.invokestatic 272, 3) := by decide +kernel
theorem dL_law_2494 : decode cL_law 2494 = .ok (.istore 5, 2) := by decide +kernel
theorem dL_law_2496 : decode cL_law 2496 = .ok (.aload_n 2, 1) := by decide +kernel
theorem dL_law_2497 : decode cL_law 2497 = .ok (.aload_n 0, 1) := by decide +kernel
theorem dL_law_2498 : decode cL_law 2498 = .ok (.iload 4, 2) := by decide +kernel
theorem dL_law_2500 : decode cL_law 2500 = .ok (.iconst 1, 1) := by decide +kernel
theorem dL_law_2501 : decode cL_law 2501 = .ok (.iadd, 1) := by decide +kernel
theorem dL_law_2502 : decode cL_law 2502 = .ok (.iaload, 1) := by decide +kernel
theorem dL_law_2503 : decode cL_law 2503 = .ok (.aload_n 0, 1) := by decide +kernel
theorem dL_law_2504 : decode cL_law 2504 = .ok (.iload 4, 2) := by decide +kernel
theorem dL_law_2506 : decode cL_law 2506 = .ok (.iconst 2, 1) := by decide +kernel
theorem dL_law_2507 : decode cL_law 2507 = .ok (.iadd, 1) := by decide +kernel
theorem dL_law_2508 : decode cL_law 2508 = .ok (.iaload, 1) := by decide +kernel
theorem dL_law_2509 : decode cL_law 2509 = .ok (.invokevirtual 274, 3) := by decide +kernel
theorem dL_law_2512 : decode cL_law 2512 = .ok (.istore 6, 2) := by decide +kernel
theorem dL_law_2514 : decode cL_law 2514 = .ok (.aload_n 2, 1) := by decide +kernel
theorem dL_law_2515 : decode cL_law 2515 = .ok (.invokevirtual 142, 3) := by decide +kernel
theorem dL_law_2518 : decode cL_law 2518 = .ok (.iload 5, 2) := by decide +kernel
theorem dL_law_2520 : decode cL_law 2520 = .ok (.if_icmp .eq 5, 3) := by decide +kernel
theorem dL_law_2523 : decode cL_law 2523 = .ok (.iconst 0, 1) := by decide +kernel
theorem dL_law_2524 : decode cL_law 2524 = .ok (.ireturn, 1) := by decide +kernel
theorem dL_law_2525 : decode cL_law 2525 = .ok (.iload 5, 2) := by decide +kernel
theorem dL_law_2527 : decode cL_law 2527 = .ok (.ifCond .ne 15, 3) := by decide +kernel
theorem dL_law_2530 : decode cL_law 2530 = .ok (.aload_n 3, 1) := by decide +kernel
theorem dL_law_2531 : decode cL_law 2531 = .ok (.iconst 0, 1) := by decide +kernel
theorem dL_law_2532 : decode cL_law 2532 = .ok (.laload, 1) := by decide +kernel
theorem dL_law_2533 : decode cL_law 2533 = .ok (.iload 6, 2) := by decide +kernel
theorem dL_law_2535 : decode cL_law 2535 = .ok (.i2l, 1) := by decide +kernel
theorem dL_law_2536 : decode cL_law 2536 = .ok (.lcmp, 1) := by decide +kernel
theorem dL_law_2537 : decode cL_law 2537 = .ok (.ifCond .eq 5, 3) := by decide +kernel
theorem dL_law_2540 : decode cL_law 2540 = .ok (.iconst 0, 1) := by decide +kernel
theorem dL_law_2541 : decode cL_law 2541 = .ok (.ireturn, 1) := by decide +kernel
theorem dL_law_2542 : decode cL_law 2542 = .ok (.goto 170, 3) := by decide +kernel
theorem dL_law_2545 : decode cL_law 2545 = .ok (.aload_n 1, 1) := by decide +kernel
theorem dL_law_2546 : decode cL_law 2546 = .ok (.aload_n 0, 1) := by decide +kernel
theorem dL_law_2547 : decode cL_law 2547 = .ok (.iload 4, 2) := by decide +kernel
theorem dL_law_2549 : decode cL_law 2549 = .ok (.iconst 1, 1) := by decide +kernel
theorem dL_law_2550 : decode cL_law 2550 = .ok (.iadd, 1) := by decide +kernel
theorem dL_law_2551 : decode cL_law 2551 = .ok (.iaload, 1) := by decide +kernel
theorem dL_law_2552 : decode cL_law 2552 = .ok (.aload_n 3, 1) := by decide +kernel
theorem dL_law_2553 : decode cL_law 2553 = .ok (.invokestatic 275, 3) := by decide +kernel
theorem dL_law_2556 : decode cL_law 2556 = .ok (.istore 5, 2) := by decide +kernel
theorem dL_law_2558 : decode cL_law 2558 = .ok (.aload_n 2, 1) := by decide +kernel
theorem dL_law_2559 : decode cL_law 2559 = .ok (.aload_n 0, 1) := by decide +kernel
theorem dL_law_2560 : decode cL_law 2560 = .ok (.iload 4, 2) := by decide +kernel
theorem dL_law_2562 : decode cL_law 2562 = .ok (.iconst 1, 1) := by decide +kernel
theorem dL_law_2563 : decode cL_law 2563 = .ok (.iadd, 1) := by decide +kernel
theorem dL_law_2564 : decode cL_law 2564 = .ok (.iaload, 1) := by decide +kernel
theorem dL_law_2565 : decode cL_law 2565 = .ok (.invokevirtual 277, 3) := by decide +kernel
theorem dL_law_2568 : decode cL_law 2568 = .ok (.istore 6, 2) := by decide +kernel
theorem dL_law_2570 : decode cL_law 2570 = .ok (.aload_n 2, 1) := by decide +kernel
theorem dL_law_2571 : decode cL_law 2571 = .ok (.invokevirtual 142, 3) := by decide +kernel
theorem dL_law_2574 : decode cL_law 2574 = .ok (.iload 5, 2) := by decide +kernel
theorem dL_law_2576 : decode cL_law 2576 = .ok (.if_icmp .eq 5, 3) := by decide +kernel
theorem dL_law_2579 : decode cL_law 2579 = .ok (.iconst 0, 1) := by decide +kernel
theorem dL_law_2580 : decode cL_law 2580 = .ok (.ireturn, 1) := by decide +kernel
theorem dL_law_2581 : decode cL_law 2581 = .ok (.iload 5, 2) := by decide +kernel
theorem dL_law_2583 : decode cL_law 2583 = .ok (.ifCond .ne 15, 3) := by decide +kernel
theorem dL_law_2586 : decode cL_law 2586 = .ok (.aload_n 3, 1) := by decide +kernel
theorem dL_law_2587 : decode cL_law 2587 = .ok (.iconst 0, 1) := by decide +kernel
theorem dL_law_2588 : decode cL_law 2588 = .ok (.laload, 1) := by decide +kernel
theorem dL_law_2589 : decode cL_law 2589 = .ok (.iload 6, 2) := by decide +kernel
theorem dL_law_2591 : decode cL_law 2591 = .ok (.i2l, 1) := by decide +kernel
theorem dL_law_2592 : decode cL_law 2592 = .ok (.lcmp, 1) := by decide +kernel
theorem dL_law_2593 : decode cL_law 2593 = .ok (.ifCond .eq 5, 3) := by decide +kernel
theorem dL_law_2596 : decode cL_law 2596 = .ok (.iconst 0, 1) := by decide +kernel
theorem dL_law_2597 : decode cL_law 2597 = .ok (.ireturn, 1) := by decide +kernel
theorem dL_law_2598 : decode cL_law 2598 = .ok (.goto 114, 3) := by decide +kernel
theorem dL_law_2601 : decode cL_law 2601 = .ok (.aload_n 1, 1) := by decide +kernel
theorem dL_law_2602 : decode cL_law 2602 = .ok (.aload_n 0, 1) := by decide +kernel
theorem dL_law_2603 : decode cL_law 2603 = .ok (.iload 4, 2) := by decide +kernel
theorem dL_law_2605 : decode cL_law 2605 = .ok (.iconst 1, 1) := by decide +kernel
theorem dL_law_2606 : decode cL_law 2606 = .ok (.iadd, 1) := by decide +kernel
theorem dL_law_2607 : decode cL_law 2607 = .ok (.iaload, 1) := by decide +kernel
theorem dL_law_2608 : decode cL_law 2608 = .ok (.aload_n 3, 1) := by decide +kernel
theorem dL_law_2609 : decode cL_law 2609 = .ok (.invokestatic 278, 3) := by decide +kernel
theorem dL_law_2612 : decode cL_law 2612 = .ok (.istore 5, 2) := by decide +kernel
theorem dL_law_2614 : decode cL_law 2614 = .ok (.aload_n 2, 1) := by decide +kernel
theorem dL_law_2615 : decode cL_law 2615 = .ok (.aload_n 0, 1) := by decide +kernel
theorem dL_law_2616 : decode cL_law 2616 = .ok (.iload 4, 2) := by decide +kernel
theorem dL_law_2618 : decode cL_law 2618 = .ok (.iconst 1, 1) := by decide +kernel
theorem dL_law_2619 : decode cL_law 2619 = .ok (.iadd, 1) := by decide +kernel
theorem dL_law_2620 : decode cL_law 2620 = .ok (.iaload, 1) := by decide +kernel
theorem dL_law_2621 : decode cL_law 2621 = .ok (.invokevirtual 280, 3) := by decide +kernel
theorem dL_law_2624 : decode cL_law 2624 = .ok (.istore 6, 2) := by decide +kernel
theorem dL_law_2626 : decode cL_law 2626 = .ok (.aload_n 2, 1) := by decide +kernel
theorem dL_law_2627 : decode cL_law 2627 = .ok (.invokevirtual 142, 3) := by decide +kernel
theorem dL_law_2630 : decode cL_law 2630 = .ok (.iload 5, 2) := by decide +kernel
theorem dL_law_2632 : decode cL_law 2632 = .ok (.if_icmp .eq 5, 3) := by decide +kernel
theorem dL_law_2635 : decode cL_law 2635 = .ok (.iconst 0, 1) := by decide +kernel
theorem dL_law_2636 : decode cL_law 2636 = .ok (.ireturn, 1) := by decide +kernel
theorem dL_law_2637 : decode cL_law 2637 = .ok (.iload 5, 2) := by decide +kernel
theorem dL_law_2639 : decode cL_law 2639 = .ok (.ifCond .ne 15, 3) := by decide +kernel
theorem dL_law_2642 : decode cL_law 2642 = .ok (.aload_n 3, 1) := by decide +kernel
theorem dL_law_2643 : decode cL_law 2643 = .ok (.iconst 0, 1) := by decide +kernel
theorem dL_law_2644 : decode cL_law 2644 = .ok (.laload, 1) := by decide +kernel
theorem dL_law_2645 : decode cL_law 2645 = .ok (.iload 6, 2) := by decide +kernel
theorem dL_law_2647 : decode cL_law 2647 = .ok (.i2l, 1) := by decide +kernel
theorem dL_law_2648 : decode cL_law 2648 = .ok (.lcmp, 1) := by decide +kernel
theorem dL_law_2649 : decode cL_law 2649 = .ok (.ifCond .eq 5, 3) := by decide +kernel
theorem dL_law_2652 : decode cL_law 2652 = .ok (.iconst 0, 1) := by decide +kernel
theorem dL_law_2653 : decode cL_law 2653 = .ok (.ireturn, 1) := by decide +kernel
theorem dL_law_2654 : decode cL_law 2654 = .ok (.goto 58, 3) := by decide +kernel
theorem dL_law_2657 : decode cL_law 2657 = .ok (.aload_n 1, 1) := by decide +kernel
theorem dL_law_2658 : decode cL_law 2658 = .ok (.invokevirtual 281, 3) := by decide +kernel
theorem dL_law_2661 : decode cL_law 2661 = .ok (.dstore 5, 2) := by decide +kernel
theorem dL_law_2663 : decode cL_law 2663 = .ok (.aload_n 2, 1) := by decide +kernel
theorem dL_law_2664 : decode cL_law 2664 = .ok (.invokevirtual 285, 3) := by decide +kernel
theorem dL_law_2667 : decode cL_law 2667 = .ok (.dstore 7, 2) := by decide +kernel
theorem dL_law_2669 : decode cL_law 2669 = .ok (.dload 5, 2) := by decide +kernel
theorem dL_law_2671 : decode cL_law 2671 = .ok (.dload 7, 2) := by decide +kernel
theorem dL_law_2673 : decode cL_law 2673 = .ok (.dcmp .l, 1) := by decide +kernel
theorem dL_law_2674 : decode cL_law 2674 = .ok (.ifCond .eq 21, 3) := by decide +kernel
theorem dL_law_2677 : decode cL_law 2677 = .ok (.dload 5, 2) := by decide +kernel
theorem dL_law_2679 : decode cL_law 2679 = .ok (.dload 5, 2) := by decide +kernel
theorem dL_law_2681 : decode cL_law 2681 = .ok (.dcmp .l, 1) := by decide +kernel
theorem dL_law_2682 : decode cL_law 2682 = .ok (.ifCond .eq 11, 3) := by decide +kernel
theorem dL_law_2685 : decode cL_law 2685 = .ok (.dload 7, 2) := by decide +kernel
theorem dL_law_2687 : decode cL_law 2687 = .ok (.dload 7, 2) := by decide +kernel
theorem dL_law_2689 : decode cL_law 2689 = .ok (.dcmp .l, 1) := by decide +kernel
theorem dL_law_2690 : decode cL_law 2690 = .ok (.ifCond .ne 5, 3) := by decide +kernel
theorem dL_law_2693 : decode cL_law 2693 = .ok (.iconst 0, 1) := by decide +kernel
theorem dL_law_2694 : decode cL_law 2694 = .ok (.ireturn, 1) := by decide +kernel
theorem dL_law_2695 : decode cL_law 2695 = .ok (.goto 17, 3) := by decide +kernel
theorem dL_law_2698 : decode cL_law 2698 = .ok (.aload_n 1, 1) := by decide +kernel
theorem dL_law_2699 : decode cL_law 2699 = .ok (.invokevirtual 286, 3) := by decide +kernel
theorem dL_law_2702 : decode cL_law 2702 = .ok (.aload_n 2, 1) := by decide +kernel
theorem dL_law_2703 : decode cL_law 2703 = .ok (.invokevirtual 290, 3) := by decide +kernel
theorem dL_law_2706 : decode cL_law 2706 = .ok (.lcmp, 1) := by decide +kernel
theorem dL_law_2707 : decode cL_law 2707 = .ok (.ifCond .eq 5, 3) := by decide +kernel
theorem dL_law_2710 : decode cL_law 2710 = .ok (.iconst 0, 1) := by decide +kernel
theorem dL_law_2711 : decode cL_law 2711 = .ok (.ireturn, 1) := by decide +kernel
theorem dL_law_2712 : decode cL_law 2712 = .ok (.iinc 4 5, 3) := by decide +kernel
theorem dL_law_2715 : decode cL_law 2715 = .ok (.goto (-2692), 3) := by decide +kernel
theorem dL_law_2718 : decode cL_law 2718 = .ok (.iconst 1, 1) := by decide +kernel
theorem dL_law_2719 : decode cL_law 2719 = .ok (.ireturn, 1) := by decide +kernel
end
