-- ===== PART A: goes FIRST, ahead of the names: the tables' words, and 'selects' of the private methods out of them =====
/-- a private method of a class that the tables say can be made, by its rows of tables_1 -/
def lw_okq (q : MethodName × Nat) : Prop := (q.1.cls ≠ "java/lang/invoke/MethodHandle" ∧ q.1.cls ≠ "java/lang/invoke/VarHandle") ∧ Cond.instantiable q.1.cls q.2 ∈ tables_1 ∧ Cond.privateMethod q.1 ∈ tables_1 ∧ Cond.instanceMethod q.1 ∈ tables_1
theorem lw_p0 : lw_okq (⟨"HalfHere", "refuse", "(I)I"⟩, 12) := ⟨⟨by decide +kernel, by decide +kernel⟩, List.mem_of_getElem? (i := 16) (by decide +kernel), List.mem_of_getElem? (i := 336) (by decide +kernel), List.mem_of_getElem? (i := 337) (by decide +kernel)⟩
theorem lw_p1 : lw_okq (⟨"HalfHere", "refusalOfTime", "(II)I"⟩, 12) := ⟨⟨by decide +kernel, by decide +kernel⟩, List.mem_of_getElem? (i := 16) (by decide +kernel), List.mem_of_getElem? (i := 546) (by decide +kernel), List.mem_of_getElem? (i := 547) (by decide +kernel)⟩
theorem lw_p2 : lw_okq (⟨"HalfHere", "gatherParts", "(I)V"⟩, 12) := ⟨⟨by decide +kernel, by decide +kernel⟩, List.mem_of_getElem? (i := 16) (by decide +kernel), List.mem_of_getElem? (i := 562) (by decide +kernel), List.mem_of_getElem? (i := 563) (by decide +kernel)⟩
theorem lw_p3 : lw_okq (⟨"HalfHere", "refusalOfChance", "(IIII)I"⟩, 12) := ⟨⟨by decide +kernel, by decide +kernel⟩, List.mem_of_getElem? (i := 16) (by decide +kernel), List.mem_of_getElem? (i := 754) (by decide +kernel), List.mem_of_getElem? (i := 755) (by decide +kernel)⟩
theorem lw_p4 : lw_okq (⟨"HalfHere", "meanLeft", "(III)J"⟩, 12) := ⟨⟨by decide +kernel, by decide +kernel⟩, List.mem_of_getElem? (i := 16) (by decide +kernel), List.mem_of_getElem? (i := 763) (by decide +kernel), List.mem_of_getElem? (i := 764) (by decide +kernel)⟩
theorem lw_p5 : lw_okq (⟨"HalfHere", "allLeft", "(III)J"⟩, 12) := ⟨⟨by decide +kernel, by decide +kernel⟩, List.mem_of_getElem? (i := 16) (by decide +kernel), List.mem_of_getElem? (i := 774) (by decide +kernel), List.mem_of_getElem? (i := 775) (by decide +kernel)⟩
theorem lw_p6 : lw_okq (⟨"HalfHere", "refusalOfParts", "(II)I"⟩, 12) := ⟨⟨by decide +kernel, by decide +kernel⟩, List.mem_of_getElem? (i := 16) (by decide +kernel), List.mem_of_getElem? (i := 782) (by decide +kernel), List.mem_of_getElem? (i := 783) (by decide +kernel)⟩
theorem lw_p7 : lw_okq (⟨"HalfHere", "judged", "(I)I"⟩, 12) := ⟨⟨by decide +kernel, by decide +kernel⟩, List.mem_of_getElem? (i := 16) (by decide +kernel), List.mem_of_getElem? (i := 803) (by decide +kernel), List.mem_of_getElem? (i := 804) (by decide +kernel)⟩
theorem lw_p8 : lw_okq (⟨"HalfHere", "worksDone", "()I"⟩, 12) := ⟨⟨by decide +kernel, by decide +kernel⟩, List.mem_of_getElem? (i := 16) (by decide +kernel), List.mem_of_getElem? (i := 823) (by decide +kernel), List.mem_of_getElem? (i := 824) (by decide +kernel)⟩
theorem lw_p9 : lw_okq (⟨"HalfHereModel", "refuse", "(I)I"⟩, 20) := ⟨⟨by decide +kernel, by decide +kernel⟩, List.mem_of_getElem? (i := 827) (by decide +kernel), List.mem_of_getElem? (i := 901) (by decide +kernel), List.mem_of_getElem? (i := 902) (by decide +kernel)⟩
theorem lw_p10 : lw_okq (⟨"HalfHereModel", "reads", "()I"⟩, 20) := ⟨⟨by decide +kernel, by decide +kernel⟩, List.mem_of_getElem? (i := 827) (by decide +kernel), List.mem_of_getElem? (i := 909) (by decide +kernel), List.mem_of_getElem? (i := 910) (by decide +kernel)⟩
theorem lw_p11 : lw_okq (⟨"HalfHereModel", "readsStatement", "()Z"⟩, 20) := ⟨⟨by decide +kernel, by decide +kernel⟩, List.mem_of_getElem? (i := 827) (by decide +kernel), List.mem_of_getElem? (i := 913) (by decide +kernel), List.mem_of_getElem? (i := 914) (by decide +kernel)⟩
theorem lw_p12 : lw_okq (⟨"HalfHereModel", "sign", "()I"⟩, 20) := ⟨⟨by decide +kernel, by decide +kernel⟩, List.mem_of_getElem? (i := 827) (by decide +kernel), List.mem_of_getElem? (i := 917) (by decide +kernel), List.mem_of_getElem? (i := 918) (by decide +kernel)⟩
theorem lw_p13 : lw_okq (⟨"HalfHereModel", "readsNumber", "(II)Z"⟩, 20) := ⟨⟨by decide +kernel, by decide +kernel⟩, List.mem_of_getElem? (i := 827) (by decide +kernel), List.mem_of_getElem? (i := 921) (by decide +kernel), List.mem_of_getElem? (i := 922) (by decide +kernel)⟩
theorem lw_p14 : lw_okq (⟨"HalfHereModel", "takes", "(I)Z"⟩, 20) := ⟨⟨by decide +kernel, by decide +kernel⟩, List.mem_of_getElem? (i := 827) (by decide +kernel), List.mem_of_getElem? (i := 925) (by decide +kernel), List.mem_of_getElem? (i := 926) (by decide +kernel)⟩
theorem lw_p15 : lw_okq (⟨"HalfHereModel", "comes", "(I)Z"⟩, 20) := ⟨⟨by decide +kernel, by decide +kernel⟩, List.mem_of_getElem? (i := 827) (by decide +kernel), List.mem_of_getElem? (i := 932) (by decide +kernel), List.mem_of_getElem? (i := 933) (by decide +kernel)⟩
def lw_privs_1 : List (MethodName × Nat) := [(⟨"HalfHere", "refuse", "(I)I"⟩, 12), (⟨"HalfHere", "refusalOfTime", "(II)I"⟩, 12), (⟨"HalfHere", "gatherParts", "(I)V"⟩, 12), (⟨"HalfHere", "refusalOfChance", "(IIII)I"⟩, 12), (⟨"HalfHere", "meanLeft", "(III)J"⟩, 12), (⟨"HalfHere", "allLeft", "(III)J"⟩, 12), (⟨"HalfHere", "refusalOfParts", "(II)I"⟩, 12), (⟨"HalfHere", "judged", "(I)I"⟩, 12), (⟨"HalfHere", "worksDone", "()I"⟩, 12), (⟨"HalfHereModel", "refuse", "(I)I"⟩, 20), (⟨"HalfHereModel", "reads", "()I"⟩, 20), (⟨"HalfHereModel", "readsStatement", "()Z"⟩, 20), (⟨"HalfHereModel", "sign", "()I"⟩, 20), (⟨"HalfHereModel", "readsNumber", "(II)Z"⟩, 20), (⟨"HalfHereModel", "takes", "(I)Z"⟩, 20), (⟨"HalfHereModel", "comes", "(I)Z"⟩, 20)]
theorem lw_r1 : ∀ q ∈ lw_privs_1, lw_okq q := List.forall_mem_cons.mpr ⟨lw_p0, List.forall_mem_cons.mpr ⟨lw_p1, List.forall_mem_cons.mpr ⟨lw_p2, List.forall_mem_cons.mpr ⟨lw_p3, List.forall_mem_cons.mpr ⟨lw_p4, List.forall_mem_cons.mpr ⟨lw_p5, List.forall_mem_cons.mpr ⟨lw_p6, List.forall_mem_cons.mpr ⟨lw_p7, List.forall_mem_cons.mpr ⟨lw_p8, List.forall_mem_cons.mpr ⟨lw_p9, List.forall_mem_cons.mpr ⟨lw_p10, List.forall_mem_cons.mpr ⟨lw_p11, List.forall_mem_cons.mpr ⟨lw_p12, List.forall_mem_cons.mpr ⟨lw_p13, List.forall_mem_cons.mpr ⟨lw_p14, List.forall_mem_cons.mpr ⟨lw_p15, fun _ h => absurd h List.not_mem_nil⟩⟩⟩⟩⟩⟩⟩⟩⟩⟩⟩⟩⟩⟩⟩⟩
theorem lw_p16 : lw_okq (⟨"HalfHereModel", "toldOf", "()I"⟩, 20) := ⟨⟨by decide +kernel, by decide +kernel⟩, List.mem_of_getElem? (i := 827) (by decide +kernel), List.mem_of_getElem? (i := 936) (by decide +kernel), List.mem_of_getElem? (i := 937) (by decide +kernel)⟩
theorem lw_p17 : lw_okq (⟨"HalfHereModel", "comesPerson", "()Z"⟩, 20) := ⟨⟨by decide +kernel, by decide +kernel⟩, List.mem_of_getElem? (i := 827) (by decide +kernel), List.mem_of_getElem? (i := 940) (by decide +kernel), List.mem_of_getElem? (i := 941) (by decide +kernel)⟩
theorem lw_p18 : lw_okq (⟨"HalfHereModel", "isPerson", "(I)Z"⟩, 20) := ⟨⟨by decide +kernel, by decide +kernel⟩, List.mem_of_getElem? (i := 827) (by decide +kernel), List.mem_of_getElem? (i := 951) (by decide +kernel), List.mem_of_getElem? (i := 952) (by decide +kernel)⟩
theorem lw_p19 : lw_okq (⟨"HalfHereModel", "get", "(II)I"⟩, 20) := ⟨⟨by decide +kernel, by decide +kernel⟩, List.mem_of_getElem? (i := 827) (by decide +kernel), List.mem_of_getElem? (i := 958) (by decide +kernel), List.mem_of_getElem? (i := 959) (by decide +kernel)⟩
theorem lw_p20 : lw_okq (⟨"HalfHereModel", "leftOf", "(I)I"⟩, 20) := ⟨⟨by decide +kernel, by decide +kernel⟩, List.mem_of_getElem? (i := 827) (by decide +kernel), List.mem_of_getElem? (i := 962) (by decide +kernel), List.mem_of_getElem? (i := 963) (by decide +kernel)⟩
theorem lw_p21 : lw_okq (⟨"HalfHereModel", "part", "(II)I"⟩, 20) := ⟨⟨by decide +kernel, by decide +kernel⟩, List.mem_of_getElem? (i := 827) (by decide +kernel), List.mem_of_getElem? (i := 966) (by decide +kernel), List.mem_of_getElem? (i := 967) (by decide +kernel)⟩
theorem lw_p22 : lw_okq (⟨"HalfHereModel", "partsOf", "(I)I"⟩, 20) := ⟨⟨by decide +kernel, by decide +kernel⟩, List.mem_of_getElem? (i := 827) (by decide +kernel), List.mem_of_getElem? (i := 970) (by decide +kernel), List.mem_of_getElem? (i := 971) (by decide +kernel)⟩
theorem lw_p23 : lw_okq (⟨"HalfHereModel", "isWork", "(I)Z"⟩, 20) := ⟨⟨by decide +kernel, by decide +kernel⟩, List.mem_of_getElem? (i := 827) (by decide +kernel), List.mem_of_getElem? (i := 978) (by decide +kernel), List.mem_of_getElem? (i := 979) (by decide +kernel)⟩
theorem lw_p24 : lw_okq (⟨"HalfHereModel", "of", "(II)I"⟩, 20) := ⟨⟨by decide +kernel, by decide +kernel⟩, List.mem_of_getElem? (i := 827) (by decide +kernel), List.mem_of_getElem? (i := 982) (by decide +kernel), List.mem_of_getElem? (i := 983) (by decide +kernel)⟩
theorem lw_p25 : lw_okq (⟨"HalfHereModel", "isSpot", "(I)Z"⟩, 20) := ⟨⟨by decide +kernel, by decide +kernel⟩, List.mem_of_getElem? (i := 827) (by decide +kernel), List.mem_of_getElem? (i := 990) (by decide +kernel), List.mem_of_getElem? (i := 991) (by decide +kernel)⟩
theorem lw_p26 : lw_okq (⟨"HalfHereModel", "minutesOf", "(II)I"⟩, 20) := ⟨⟨by decide +kernel, by decide +kernel⟩, List.mem_of_getElem? (i := 827) (by decide +kernel), List.mem_of_getElem? (i := 994) (by decide +kernel), List.mem_of_getElem? (i := 995) (by decide +kernel)⟩
theorem lw_p27 : lw_okq (⟨"HalfHereModel", "findsFar", "()V"⟩, 20) := ⟨⟨by decide +kernel, by decide +kernel⟩, List.mem_of_getElem? (i := 827) (by decide +kernel), List.mem_of_getElem? (i := 998) (by decide +kernel), List.mem_of_getElem? (i := 999) (by decide +kernel)⟩
theorem lw_p28 : lw_okq (⟨"HalfHereModel", "isPart", "(I)Z"⟩, 20) := ⟨⟨by decide +kernel, by decide +kernel⟩, List.mem_of_getElem? (i := 827) (by decide +kernel), List.mem_of_getElem? (i := 1007) (by decide +kernel), List.mem_of_getElem? (i := 1008) (by decide +kernel)⟩
theorem lw_p29 : lw_okq (⟨"HalfHereModel", "puts", "(III)V"⟩, 20) := ⟨⟨by decide +kernel, by decide +kernel⟩, List.mem_of_getElem? (i := 827) (by decide +kernel), List.mem_of_getElem? (i := 1015) (by decide +kernel), List.mem_of_getElem? (i := 1016) (by decide +kernel)⟩
theorem lw_p30 : lw_okq (⟨"HalfHereModel", "gathers", "(I)V"⟩, 20) := ⟨⟨by decide +kernel, by decide +kernel⟩, List.mem_of_getElem? (i := 827) (by decide +kernel), List.mem_of_getElem? (i := 1057) (by decide +kernel), List.mem_of_getElem? (i := 1058) (by decide +kernel)⟩
theorem lw_p31 : lw_okq (⟨"HalfHereModel", "begins", "()V"⟩, 20) := ⟨⟨by decide +kernel, by decide +kernel⟩, List.mem_of_getElem? (i := 827) (by decide +kernel), List.mem_of_getElem? (i := 1061) (by decide +kernel), List.mem_of_getElem? (i := 1062) (by decide +kernel)⟩
def lw_privs_2 : List (MethodName × Nat) := [(⟨"HalfHereModel", "toldOf", "()I"⟩, 20), (⟨"HalfHereModel", "comesPerson", "()Z"⟩, 20), (⟨"HalfHereModel", "isPerson", "(I)Z"⟩, 20), (⟨"HalfHereModel", "get", "(II)I"⟩, 20), (⟨"HalfHereModel", "leftOf", "(I)I"⟩, 20), (⟨"HalfHereModel", "part", "(II)I"⟩, 20), (⟨"HalfHereModel", "partsOf", "(I)I"⟩, 20), (⟨"HalfHereModel", "isWork", "(I)Z"⟩, 20), (⟨"HalfHereModel", "of", "(II)I"⟩, 20), (⟨"HalfHereModel", "isSpot", "(I)Z"⟩, 20), (⟨"HalfHereModel", "minutesOf", "(II)I"⟩, 20), (⟨"HalfHereModel", "findsFar", "()V"⟩, 20), (⟨"HalfHereModel", "isPart", "(I)Z"⟩, 20), (⟨"HalfHereModel", "puts", "(III)V"⟩, 20), (⟨"HalfHereModel", "gathers", "(I)V"⟩, 20), (⟨"HalfHereModel", "begins", "()V"⟩, 20)]
theorem lw_r2 : ∀ q ∈ lw_privs_2, lw_okq q := List.forall_mem_cons.mpr ⟨lw_p16, List.forall_mem_cons.mpr ⟨lw_p17, List.forall_mem_cons.mpr ⟨lw_p18, List.forall_mem_cons.mpr ⟨lw_p19, List.forall_mem_cons.mpr ⟨lw_p20, List.forall_mem_cons.mpr ⟨lw_p21, List.forall_mem_cons.mpr ⟨lw_p22, List.forall_mem_cons.mpr ⟨lw_p23, List.forall_mem_cons.mpr ⟨lw_p24, List.forall_mem_cons.mpr ⟨lw_p25, List.forall_mem_cons.mpr ⟨lw_p26, List.forall_mem_cons.mpr ⟨lw_p27, List.forall_mem_cons.mpr ⟨lw_p28, List.forall_mem_cons.mpr ⟨lw_p29, List.forall_mem_cons.mpr ⟨lw_p30, List.forall_mem_cons.mpr ⟨lw_p31, fun _ h => absurd h List.not_mem_nil⟩⟩⟩⟩⟩⟩⟩⟩⟩⟩⟩⟩⟩⟩⟩⟩
theorem lw_p32 : lw_okq (⟨"HalfHereModel", "gives", "(IIII)V"⟩, 20) := ⟨⟨by decide +kernel, by decide +kernel⟩, List.mem_of_getElem? (i := 827) (by decide +kernel), List.mem_of_getElem? (i := 1065) (by decide +kernel), List.mem_of_getElem? (i := 1066) (by decide +kernel)⟩
theorem lw_p33 : lw_okq (⟨"HalfHereModel", "doesOf", "(II)I"⟩, 20) := ⟨⟨by decide +kernel, by decide +kernel⟩, List.mem_of_getElem? (i := 827) (by decide +kernel), List.mem_of_getElem? (i := 1072) (by decide +kernel), List.mem_of_getElem? (i := 1073) (by decide +kernel)⟩
theorem lw_p34 : lw_okq (⟨"HalfHereModel", "findsWell", "(I)V"⟩, 20) := ⟨⟨by decide +kernel, by decide +kernel⟩, List.mem_of_getElem? (i := 827) (by decide +kernel), List.mem_of_getElem? (i := 1080) (by decide +kernel), List.mem_of_getElem? (i := 1081) (by decide +kernel)⟩
theorem lw_p35 : lw_okq (⟨"HalfHereModel", "plans", "(I)V"⟩, 20) := ⟨⟨by decide +kernel, by decide +kernel⟩, List.mem_of_getElem? (i := 827) (by decide +kernel), List.mem_of_getElem? (i := 1091) (by decide +kernel), List.mem_of_getElem? (i := 1092) (by decide +kernel)⟩
theorem lw_p36 : lw_okq (⟨"HalfHereModel", "plansWholes", "()V"⟩, 20) := ⟨⟨by decide +kernel, by decide +kernel⟩, List.mem_of_getElem? (i := 827) (by decide +kernel), List.mem_of_getElem? (i := 1095) (by decide +kernel), List.mem_of_getElem? (i := 1096) (by decide +kernel)⟩
theorem lw_p37 : lw_okq (⟨"HalfHereModel", "isDoneBy", "(III)Z"⟩, 20) := ⟨⟨by decide +kernel, by decide +kernel⟩, List.mem_of_getElem? (i := 827) (by decide +kernel), List.mem_of_getElem? (i := 1099) (by decide +kernel), List.mem_of_getElem? (i := 1100) (by decide +kernel)⟩
theorem lw_p38 : lw_okq (⟨"HalfHereModel", "gathersBy", "(III)V"⟩, 20) := ⟨⟨by decide +kernel, by decide +kernel⟩, List.mem_of_getElem? (i := 827) (by decide +kernel), List.mem_of_getElem? (i := 1103) (by decide +kernel), List.mem_of_getElem? (i := 1104) (by decide +kernel)⟩
theorem lw_p39 : lw_okq (⟨"HalfHereModel", "isDoneNow", "(I)Z"⟩, 20) := ⟨⟨by decide +kernel, by decide +kernel⟩, List.mem_of_getElem? (i := 827) (by decide +kernel), List.mem_of_getElem? (i := 1107) (by decide +kernel), List.mem_of_getElem? (i := 1108) (by decide +kernel)⟩
theorem lw_p40 : lw_okq (⟨"HalfHereModel", "helps", "(III)Z"⟩, 20) := ⟨⟨by decide +kernel, by decide +kernel⟩, List.mem_of_getElem? (i := 827) (by decide +kernel), List.mem_of_getElem? (i := 1111) (by decide +kernel), List.mem_of_getElem? (i := 1112) (by decide +kernel)⟩
theorem lw_p41 : lw_okq (⟨"HalfHereModel", "plansEven", "()V"⟩, 20) := ⟨⟨by decide +kernel, by decide +kernel⟩, List.mem_of_getElem? (i := 827) (by decide +kernel), List.mem_of_getElem? (i := 1115) (by decide +kernel), List.mem_of_getElem? (i := 1116) (by decide +kernel)⟩
theorem lw_p42 : lw_okq (⟨"HalfHereModel", "plansNeed", "(Z)V"⟩, 20) := ⟨⟨by decide +kernel, by decide +kernel⟩, List.mem_of_getElem? (i := 827) (by decide +kernel), List.mem_of_getElem? (i := 1119) (by decide +kernel), List.mem_of_getElem? (i := 1120) (by decide +kernel)⟩
theorem lw_p43 : lw_okq (⟨"HalfHereModel", "givenOf", "(I)I"⟩, 20) := ⟨⟨by decide +kernel, by decide +kernel⟩, List.mem_of_getElem? (i := 827) (by decide +kernel), List.mem_of_getElem? (i := 1123) (by decide +kernel), List.mem_of_getElem? (i := 1124) (by decide +kernel)⟩
theorem lw_p44 : lw_okq (⟨"HalfHereModel", "worthOf", "()I"⟩, 20) := ⟨⟨by decide +kernel, by decide +kernel⟩, List.mem_of_getElem? (i := 827) (by decide +kernel), List.mem_of_getElem? (i := 1127) (by decide +kernel), List.mem_of_getElem? (i := 1128) (by decide +kernel)⟩
theorem lw_p45 : lw_okq (⟨"HalfHereModel", "areFew", "()Z"⟩, 20) := ⟨⟨by decide +kernel, by decide +kernel⟩, List.mem_of_getElem? (i := 827) (by decide +kernel), List.mem_of_getElem? (i := 1139) (by decide +kernel), List.mem_of_getElem? (i := 1140) (by decide +kernel)⟩
theorem lw_p46 : lw_okq (⟨"HalfHereModel", "findsBest", "()V"⟩, 20) := ⟨⟨by decide +kernel, by decide +kernel⟩, List.mem_of_getElem? (i := 827) (by decide +kernel), List.mem_of_getElem? (i := 1143) (by decide +kernel), List.mem_of_getElem? (i := 1144) (by decide +kernel)⟩
theorem lw_p47 : lw_okq (⟨"HalfHereModel", "quartersFrom", "(III)V"⟩, 20) := ⟨⟨by decide +kernel, by decide +kernel⟩, List.mem_of_getElem? (i := 827) (by decide +kernel), List.mem_of_getElem? (i := 1147) (by decide +kernel), List.mem_of_getElem? (i := 1148) (by decide +kernel)⟩
def lw_privs_3 : List (MethodName × Nat) := [(⟨"HalfHereModel", "gives", "(IIII)V"⟩, 20), (⟨"HalfHereModel", "doesOf", "(II)I"⟩, 20), (⟨"HalfHereModel", "findsWell", "(I)V"⟩, 20), (⟨"HalfHereModel", "plans", "(I)V"⟩, 20), (⟨"HalfHereModel", "plansWholes", "()V"⟩, 20), (⟨"HalfHereModel", "isDoneBy", "(III)Z"⟩, 20), (⟨"HalfHereModel", "gathersBy", "(III)V"⟩, 20), (⟨"HalfHereModel", "isDoneNow", "(I)Z"⟩, 20), (⟨"HalfHereModel", "helps", "(III)Z"⟩, 20), (⟨"HalfHereModel", "plansEven", "()V"⟩, 20), (⟨"HalfHereModel", "plansNeed", "(Z)V"⟩, 20), (⟨"HalfHereModel", "givenOf", "(I)I"⟩, 20), (⟨"HalfHereModel", "worthOf", "()I"⟩, 20), (⟨"HalfHereModel", "areFew", "()Z"⟩, 20), (⟨"HalfHereModel", "findsBest", "()V"⟩, 20), (⟨"HalfHereModel", "quartersFrom", "(III)V"⟩, 20)]
theorem lw_r3 : ∀ q ∈ lw_privs_3, lw_okq q := List.forall_mem_cons.mpr ⟨lw_p32, List.forall_mem_cons.mpr ⟨lw_p33, List.forall_mem_cons.mpr ⟨lw_p34, List.forall_mem_cons.mpr ⟨lw_p35, List.forall_mem_cons.mpr ⟨lw_p36, List.forall_mem_cons.mpr ⟨lw_p37, List.forall_mem_cons.mpr ⟨lw_p38, List.forall_mem_cons.mpr ⟨lw_p39, List.forall_mem_cons.mpr ⟨lw_p40, List.forall_mem_cons.mpr ⟨lw_p41, List.forall_mem_cons.mpr ⟨lw_p42, List.forall_mem_cons.mpr ⟨lw_p43, List.forall_mem_cons.mpr ⟨lw_p44, List.forall_mem_cons.mpr ⟨lw_p45, List.forall_mem_cons.mpr ⟨lw_p46, List.forall_mem_cons.mpr ⟨lw_p47, fun _ h => absurd h List.not_mem_nil⟩⟩⟩⟩⟩⟩⟩⟩⟩⟩⟩⟩⟩⟩⟩⟩
theorem lw_p48 : lw_okq (⟨"HalfHereModel", "worthByQuarters", "()I"⟩, 20) := ⟨⟨by decide +kernel, by decide +kernel⟩, List.mem_of_getElem? (i := 827) (by decide +kernel), List.mem_of_getElem? (i := 1151) (by decide +kernel), List.mem_of_getElem? (i := 1152) (by decide +kernel)⟩
theorem lw_p49 : lw_okq (⟨"HalfHereModel", "canAll", "(II)Z"⟩, 20) := ⟨⟨by decide +kernel, by decide +kernel⟩, List.mem_of_getElem? (i := 827) (by decide +kernel), List.mem_of_getElem? (i := 1163) (by decide +kernel), List.mem_of_getElem? (i := 1164) (by decide +kernel)⟩
theorem lw_p50 : lw_okq (⟨"HalfHereModel", "parts", "()I"⟩, 20) := ⟨⟨by decide +kernel, by decide +kernel⟩, List.mem_of_getElem? (i := 827) (by decide +kernel), List.mem_of_getElem? (i := 1208) (by decide +kernel), List.mem_of_getElem? (i := 1209) (by decide +kernel)⟩
def lw_privs_4 : List (MethodName × Nat) := [(⟨"HalfHereModel", "worthByQuarters", "()I"⟩, 20), (⟨"HalfHereModel", "canAll", "(II)Z"⟩, 20), (⟨"HalfHereModel", "parts", "()I"⟩, 20)]
theorem lw_r4 : ∀ q ∈ lw_privs_4, lw_okq q := List.forall_mem_cons.mpr ⟨lw_p48, List.forall_mem_cons.mpr ⟨lw_p49, List.forall_mem_cons.mpr ⟨lw_p50, fun _ h => absurd h List.not_mem_nil⟩⟩⟩
def lw_privs : List (MethodName × Nat) := lw_privs_1 ++ (lw_privs_2 ++ (lw_privs_3 ++ (lw_privs_4)))
def lw_tbl : List Cond := k2_sels lw_privs ++ tables_1
theorem lw_privs_ok : ∀ q ∈ lw_privs, lw_okq q := by
  show ∀ q ∈ lw_privs_1 ++ (lw_privs_2 ++ (lw_privs_3 ++ (lw_privs_4))), lw_okq q
  exact List.forall_mem_append.mpr ⟨lw_r1, List.forall_mem_append.mpr ⟨lw_r2, List.forall_mem_append.mpr ⟨lw_r3, lw_r4⟩⟩⟩
-- ===== end of PART A
def RX0 : String := "HalfHere$Company"
def TX0 : u_T := fun k => match k with
  | 0 => ("HalfHere$Company", "isAble", "[Z", true)
  | 1 => ("HalfHere$Company", "isEnough", "[Z", true)
  | _ => ("HalfHere$Company", "effort", "LHalfHere$Effort;", true)
def tyX0 : Nat → FieldType := fun k => match k with
  | 0 => .array .boolean
  | 1 => .array .boolean
  | _ => .object "HalfHere$Effort"
abbrev wsX00 : List Cond := u_ws RX0 TX0 3
theorem nmX0 : ∀ a, a < 3 → ∀ b, b < 3 → a ≠ b → (TX0 a).2.1 ≠ (TX0 b).2.1 := by decide +kernel
theorem tyX0_ok : ∀ k, k < 3 → parseFieldDescriptor (TX0 k).2.2.1 = some (tyX0 k) := by decide +kernel
abbrev cX0_init : ByteArray := prog_2_method_1_code
def yX0_init : MethodName := ⟨RX0, "<init>", "()V"⟩
abbrev cX0_fewestForWholes : ByteArray := prog_2_method_2_code
def yX0_fewestForWholes : MethodName := ⟨RX0, "fewestForWholes", "(LHalfHere$Village;)I"⟩
abbrev cX0_fillEnough : ByteArray := prog_2_method_3_code
def yX0_fillEnough : MethodName := ⟨RX0, "fillEnough", "(LHalfHere$Village;LHalfHere$Work;)V"⟩
abbrev cX0_share : ByteArray := prog_2_method_4_code
def yX0_share : MethodName := ⟨RX0, "share", "(I)V"⟩
abbrev cX0_bestTwo : ByteArray := prog_2_method_5_code
def yX0_bestTwo : MethodName := ⟨RX0, "bestTwo", "(LHalfHere$Village;LHalfHere$Work;)I"⟩
def RX1 : String := "HalfHere$Effort"
def TX1 : u_T := fun k => match k with
  | 0 => ("HalfHere$Effort", "kind", "I", false)
  | 1 => ("HalfHere$Effort", "needs", "[I", true)
  | 2 => ("HalfHere$Effort", "given", "[I", true)
  | 3 => ("HalfHere$Effort", "helpers", "I", false)
  | 4 => ("HalfHere$Effort", "above", "I", false)
  | _ => ("HalfHere$Effort", "below", "I", false)
def tyX1 : Nat → FieldType := fun k => match k with
  | 0 => .int
  | 1 => .array .int
  | 2 => .array .int
  | 3 => .int
  | 4 => .int
  | _ => .int
abbrev wsX10 : List Cond := u_ws RX1 TX1 6
theorem nmX1 : ∀ a, a < 6 → ∀ b, b < 6 → a ≠ b → (TX1 a).2.1 ≠ (TX1 b).2.1 := by decide +kernel
theorem tyX1_ok : ∀ k, k < 6 → parseFieldDescriptor (TX1 k).2.2.1 = some (tyX1 k) := by decide +kernel
abbrev cX1_init : ByteArray := prog_3_method_1_code
def yX1_init : MethodName := ⟨RX1, "<init>", "()V"⟩
abbrev cX1_begin : ByteArray := prog_3_method_2_code
def yX1_begin : MethodName := ⟨RX1, "begin", "(LHalfHere$Work;)V"⟩
abbrev cX1_stand : ByteArray := prog_3_method_3_code
def yX1_stand : MethodName := ⟨RX1, "stand", "(I)V"⟩
abbrev cX1_add : ByteArray := prog_3_method_4_code
def yX1_add : MethodName := ⟨RX1, "add", "(ILHalfHere$Person;II)V"⟩
abbrev cX1_sum : ByteArray := prog_3_method_5_code
def yX1_sum : MethodName := ⟨RX1, "sum", "(I)I"⟩
abbrev cX1_isDone : ByteArray := prog_3_method_6_code
def yX1_isDone : MethodName := ⟨RX1, "isDone", "()Z"⟩
abbrev cX1_weigh : ByteArray := prog_3_method_7_code
def yX1_weigh : MethodName := ⟨RX1, "weigh", "()V"⟩
def RX2 : String := "HalfHere$Part"
def TX2 : u_T := fun k => match k with
  | 0 => ("HalfHere$Part", "person", "I", false)
  | 1 => ("HalfHere$Part", "twelfths", "I", false)
  | 2 => ("HalfHere$Part", "place", "I", false)
  | 3 => ("HalfHere$Part", "work", "I", false)
  | 4 => ("HalfHere$Part", "clock", "I", false)
  | 5 => ("HalfHere$Part", "tired", "I", false)
  | _ => ("HalfHere$Part", "seen", "I", false)
def tyX2 : Nat → FieldType := fun k => match k with
  | 0 => .int
  | 1 => .int
  | 2 => .int
  | 3 => .int
  | 4 => .int
  | 5 => .int
  | _ => .int
abbrev wsX20 : List Cond := u_ws RX2 TX2 7
theorem nmX2 : ∀ a, a < 7 → ∀ b, b < 7 → a ≠ b → (TX2 a).2.1 ≠ (TX2 b).2.1 := by decide +kernel
theorem tyX2_ok : ∀ k, k < 7 → parseFieldDescriptor (TX2 k).2.2.1 = some (tyX2 k) := by decide +kernel
abbrev cX2_init : ByteArray := prog_4_method_1_code
def yX2_init : MethodName := ⟨RX2, "<init>", "()V"⟩
abbrev cX2_clear : ByteArray := prog_4_method_2_code
def yX2_clear : MethodName := ⟨RX2, "clear", "()V"⟩
abbrev cX2_become : ByteArray := prog_4_method_3_code
def yX2_become : MethodName := ⟨RX2, "become", "(LHalfHere$Part;)V"⟩
def RX3 : String := "HalfHere$Person"
def TX3 : u_T := fun k => match k with
  | 0 => ("HalfHere$Person", "gifts", "[I", true)
  | _ => ("HalfHere$Person", "least", "I", false)
def tyX3 : Nat → FieldType := fun k => match k with
  | 0 => .array .int
  | _ => .int
abbrev wsX30 : List Cond := u_ws RX3 TX3 2
theorem nmX3 : ∀ a, a < 2 → ∀ b, b < 2 → a ≠ b → (TX3 a).2.1 ≠ (TX3 b).2.1 := by decide +kernel
theorem tyX3_ok : ∀ k, k < 2 → parseFieldDescriptor (TX3 k).2.2.1 = some (tyX3 k) := by decide +kernel
abbrev cX3_init : ByteArray := prog_5_method_1_code
def yX3_init : MethodName := ⟨RX3, "<init>", "()V"⟩
abbrev cX3_become : ByteArray := prog_5_method_2_code
def yX3_become : MethodName := ⟨RX3, "become", "(LHalfHere$Person;)V"⟩
def RX4 : String := "HalfHere$Planner"
def TX4 : u_T := fun k => match k with
  | 0 => ("HalfHere$Planner", "twelfths", "[[I", true)
  | 1 => ("HalfHere$Planner", "before", "LHalfHere$Effort;", true)
  | _ => ("HalfHere$Planner", "after", "LHalfHere$Effort;", true)
def tyX4 : Nat → FieldType := fun k => match k with
  | 0 => .array (.array .int)
  | 1 => .object "HalfHere$Effort"
  | _ => .object "HalfHere$Effort"
abbrev wsX40 : List Cond := u_ws RX4 TX4 3
theorem nmX4 : ∀ a, a < 3 → ∀ b, b < 3 → a ≠ b → (TX4 a).2.1 ≠ (TX4 b).2.1 := by decide +kernel
theorem tyX4_ok : ∀ k, k < 3 → parseFieldDescriptor (TX4 k).2.2.1 = some (tyX4 k) := by decide +kernel
abbrev cX4_init : ByteArray := prog_6_method_1_code
def yX4_init : MethodName := ⟨RX4, "<init>", "()V"⟩
abbrev cX4_isKind : ByteArray := prog_6_method_2_code
def yX4_isKind : MethodName := ⟨RX4, "isKind", "(I)Z"⟩
abbrev cX4_make : ByteArray := prog_6_method_3_code
def yX4_make : MethodName := ⟨RX4, "make", "(ILHalfHere$Village;)V"⟩
abbrev cX4_worth : ByteArray := prog_6_method_4_code
def yX4_worth : MethodName := ⟨RX4, "worth", "(LHalfHere$Village;)I"⟩
abbrev cX4_makeWholes : ByteArray := prog_6_method_5_code
def yX4_makeWholes : MethodName := ⟨RX4, "makeWholes", "(LHalfHere$Village;)V"⟩
abbrev cX4_makeEven : ByteArray := prog_6_method_6_code
def yX4_makeEven : MethodName := ⟨RX4, "makeEven", "(LHalfHere$Village;)V"⟩
abbrev cX4_makeNeed : ByteArray := prog_6_method_7_code
def yX4_makeNeed : MethodName := ⟨RX4, "makeNeed", "(LHalfHere$Village;Z)V"⟩
abbrev cX4_used : ByteArray := prog_6_method_8_code
def yX4_used : MethodName := ⟨RX4, "used", "(I)I"⟩
abbrev cX4_needed : ByteArray := prog_6_method_9_code
def yX4_needed : MethodName := ⟨RX4, "needed", "(LHalfHere$Village;III)I"⟩
abbrev cX4_gather : ByteArray := prog_6_method_10_code
def yX4_gather : MethodName := ⟨RX4, "gather", "(LHalfHere$Effort;LHalfHere$Village;I)V"⟩
abbrev cX4_isDone : ByteArray := prog_6_method_11_code
def yX4_isDone : MethodName := ⟨RX4, "isDone", "(LHalfHere$Village;I)Z"⟩
abbrev cX4_helps : ByteArray := prog_6_method_12_code
def yX4_helps : MethodName := ⟨RX4, "helps", "(LHalfHere$Village;III)Z"⟩
def RX5 : String := "HalfHere$Quartering"
def TX5 : u_T := fun k => match k with
  | 0 => ("HalfHere$Quartering", "hows", "[[I", true)
  | 1 => ("HalfHere$Quartering", "howCount", "I", false)
  | 2 => ("HalfHere$Quartering", "gains", "[[I", true)
  | 3 => ("HalfHere$Quartering", "chosen", "[I", true)
  | 4 => ("HalfHere$Quartering", "effort", "LHalfHere$Effort;", true)
  | 5 => ("HalfHere$Quartering", "worth", "I", false)
  | _ => ("HalfHere$Quartering", "isFound", "Z", false)
def tyX5 : Nat → FieldType := fun k => match k with
  | 0 => .array (.array .int)
  | 1 => .int
  | 2 => .array (.array .int)
  | 3 => .array .int
  | 4 => .object "HalfHere$Effort"
  | 5 => .int
  | _ => .boolean
abbrev wsX50 : List Cond := u_ws RX5 TX5 7
theorem nmX5 : ∀ a, a < 7 → ∀ b, b < 7 → a ≠ b → (TX5 a).2.1 ≠ (TX5 b).2.1 := by decide +kernel
theorem tyX5_ok : ∀ k, k < 7 → parseFieldDescriptor (TX5 k).2.2.1 = some (tyX5 k) := by decide +kernel
abbrev cX5_init : ByteArray := prog_7_method_1_code
def yX5_init : MethodName := ⟨RX5, "<init>", "()V"⟩
abbrev cX5_fits : ByteArray := prog_7_method_2_code
def yX5_fits : MethodName := ⟨RX5, "fits", "(LHalfHere$Village;)Z"⟩
abbrev cX5_forget : ByteArray := prog_7_method_3_code
def yX5_forget : MethodName := ⟨RX5, "forget", "()V"⟩
abbrev cX5_quartersAt : ByteArray := prog_7_method_4_code
def yX5_quartersAt : MethodName := ⟨RX5, "quartersAt", "(II)I"⟩
abbrev cX5_find : ByteArray := prog_7_method_5_code
def yX5_find : MethodName := ⟨RX5, "find", "(LHalfHere$Village;)V"⟩
abbrev cX5_listHows : ByteArray := prog_7_method_6_code
def yX5_listHows : MethodName := ⟨RX5, "listHows", "(I)V"⟩
abbrev cX5_fillGains : ByteArray := prog_7_method_7_code
def yX5_fillGains : MethodName := ⟨RX5, "fillGains", "(LHalfHere$Village;I)I"⟩
abbrev cX5_gain : ByteArray := prog_7_method_8_code
def yX5_gain : MethodName := ⟨RX5, "gain", "(LHalfHere$Village;II)I"⟩
abbrev cX5_addQuarters : ByteArray := prog_7_method_9_code
def yX5_addQuarters : MethodName := ⟨RX5, "addQuarters", "(LHalfHere$Village;II)V"⟩
abbrev cX5_search : ByteArray := prog_7_method_10_code
def yX5_search : MethodName := ⟨RX5, "search", "(II)V"⟩
abbrev cX5_worthOf : ByteArray := prog_7_method_11_code
def yX5_worthOf : MethodName := ⟨RX5, "worthOf", "([I[I[I)I"⟩
abbrev cX5_mix : ByteArray := prog_7_method_12_code
def yX5_mix : MethodName := ⟨RX5, "mix", "(III)I"⟩
def RX6 : String := "HalfHere$Tape"
def TX6 : u_T := fun k => match k with
  | 0 => ("HalfHere$Tape", "letters", "[I", true)
  | 1 => ("HalfHere$Tape", "length", "I", false)
  | 2 => ("HalfHere$Tape", "reading", "I", false)
  | 3 => ("HalfHere$Tape", "said", "[I", true)
  | _ => ("HalfHere$Tape", "saidCount", "I", false)
def tyX6 : Nat → FieldType := fun k => match k with
  | 0 => .array .int
  | 1 => .int
  | 2 => .int
  | 3 => .array .int
  | _ => .int
abbrev wsX60 : List Cond := u_ws RX6 TX6 5
theorem nmX6 : ∀ a, a < 5 → ∀ b, b < 5 → a ≠ b → (TX6 a).2.1 ≠ (TX6 b).2.1 := by decide +kernel
theorem tyX6_ok : ∀ k, k < 5 → parseFieldDescriptor (TX6 k).2.2.1 = some (tyX6 k) := by decide +kernel
abbrev cX6_init : ByteArray := prog_8_method_1_code
def yX6_init : MethodName := ⟨RX6, "<init>", "()V"⟩
abbrev cX6_isFull : ByteArray := prog_8_method_2_code
def yX6_isFull : MethodName := ⟨RX6, "isFull", "()Z"⟩
abbrev cX6_take : ByteArray := prog_8_method_3_code
def yX6_take : MethodName := ⟨RX6, "take", "(I)I"⟩
abbrev cX6_clear : ByteArray := prog_8_method_4_code
def yX6_clear : MethodName := ⟨RX6, "clear", "()V"⟩
abbrev cX6_tellAll : ByteArray := prog_8_method_5_code
def yX6_tellAll : MethodName := ⟨RX6, "tellAll", "(LHalfHere$Village;)I"⟩
abbrev cX6_wrongLetter : ByteArray := prog_8_method_6_code
def yX6_wrongLetter : MethodName := ⟨RX6, "wrongLetter", "()I"⟩
abbrev cX6_readStatement : ByteArray := prog_8_method_7_code
def yX6_readStatement : MethodName := ⟨RX6, "readStatement", "()Z"⟩
abbrev cX6_letter : ByteArray := prog_8_method_8_code
def yX6_letter : MethodName := ⟨RX6, "letter", "()I"⟩
abbrev cX6_say : ByteArray := prog_8_method_9_code
def yX6_say : MethodName := ⟨RX6, "say", "(I)V"⟩
abbrev cX6_readSign : ByteArray := prog_8_method_10_code
def yX6_readSign : MethodName := ⟨RX6, "readSign", "(I)Z"⟩
abbrev cX6_isAtDigit : ByteArray := prog_8_method_11_code
def yX6_isAtDigit : MethodName := ⟨RX6, "isAtDigit", "()Z"⟩
abbrev cX6_readNumber : ByteArray := prog_8_method_12_code
def yX6_readNumber : MethodName := ⟨RX6, "readNumber", "(I)Z"⟩
abbrev cX6_readThree : ByteArray := prog_8_method_13_code
def yX6_readThree : MethodName := ⟨RX6, "readThree", "(I)Z"⟩
abbrev cX6_readKind : ByteArray := prog_8_method_14_code
def yX6_readKind : MethodName := ⟨RX6, "readKind", "()Z"⟩
def RX7 : String := "HalfHere$Village"
def TX7 : u_T := fun k => match k with
  | 0 => ("HalfHere$Village", "places", "I", false)
  | 1 => ("HalfHere$Village", "personCount", "I", false)
  | 2 => ("HalfHere$Village", "workCount", "I", false)
  | 3 => ("HalfHere$Village", "ways", "[[I", true)
  | 4 => ("HalfHere$Village", "far", "[[I", true)
  | 5 => ("HalfHere$Village", "persons", "[LHalfHere$Person;", true)
  | 6 => ("HalfHere$Village", "works", "[LHalfHere$Work;", true)
  | _ => ("HalfHere$Village", "parts", "[LHalfHere$Part;", true)
def tyX7 : Nat → FieldType := fun k => match k with
  | 0 => .int
  | 1 => .int
  | 2 => .int
  | 3 => .array (.array .int)
  | 4 => .array (.array .int)
  | 5 => .array (.object "HalfHere$Person")
  | 6 => .array (.object "HalfHere$Work")
  | _ => .array (.object "HalfHere$Part")
abbrev wsX70 : List Cond := u_ws RX7 TX7 8
theorem nmX7 : ∀ a, a < 8 → ∀ b, b < 8 → a ≠ b → (TX7 a).2.1 ≠ (TX7 b).2.1 := by decide +kernel
theorem tyX7_ok : ∀ k, k < 8 → parseFieldDescriptor (TX7 k).2.2.1 = some (tyX7 k) := by decide +kernel
abbrev cX7_init : ByteArray := prog_9_method_1_code
def yX7_init : MethodName := ⟨RX7, "<init>", "()V"⟩
abbrev cX7_become : ByteArray := prog_9_method_2_code
def yX7_become : MethodName := ⟨RX7, "become", "(LHalfHere$Village;)V"⟩
abbrev cX7_hasPlace : ByteArray := prog_9_method_3_code
def yX7_hasPlace : MethodName := ⟨RX7, "hasPlace", "(I)Z"⟩
abbrev cX7_hasPerson : ByteArray := prog_9_method_4_code
def yX7_hasPerson : MethodName := ⟨RX7, "hasPerson", "(I)Z"⟩
abbrev cX7_hasWork : ByteArray := prog_9_method_5_code
def yX7_hasWork : MethodName := ⟨RX7, "hasWork", "(I)Z"⟩
abbrev cX7_hasPart : ByteArray := prog_9_method_6_code
def yX7_hasPart : MethodName := ⟨RX7, "hasPart", "(I)Z"⟩
abbrev cX7_isPartOf : ByteArray := prog_9_method_7_code
def yX7_isPartOf : MethodName := ⟨RX7, "isPartOf", "(II)Z"⟩
abbrev cX7_freePart : ByteArray := prog_9_method_8_code
def yX7_freePart : MethodName := ⟨RX7, "freePart", "()I"⟩
abbrev cX7_partCount : ByteArray := prog_9_method_9_code
def yX7_partCount : MethodName := ⟨RX7, "partCount", "()I"⟩
abbrev cX7_partsOf : ByteArray := prog_9_method_10_code
def yX7_partsOf : MethodName := ⟨RX7, "partsOf", "(I)I"⟩
abbrev cX7_twelfthsOf : ByteArray := prog_9_method_11_code
def yX7_twelfthsOf : MethodName := ⟨RX7, "twelfthsOf", "(I)I"⟩
abbrev cX7_partsAway : ByteArray := prog_9_method_12_code
def yX7_partsAway : MethodName := ⟨RX7, "partsAway", "(I)I"⟩
abbrev cX7_twelfthsAway : ByteArray := prog_9_method_13_code
def yX7_twelfthsAway : MethodName := ⟨RX7, "twelfthsAway", "(I)I"⟩
abbrev cX7_takesStatement : ByteArray := prog_9_method_14_code
def yX7_takesStatement : MethodName := ⟨RX7, "takesStatement", "(I[I)Z"⟩
abbrev cX7_takesPlaces : ByteArray := prog_9_method_15_code
def yX7_takesPlaces : MethodName := ⟨RX7, "takesPlaces", "(I)Z"⟩
abbrev cX7_placesInUse : ByteArray := prog_9_method_16_code
def yX7_placesInUse : MethodName := ⟨RX7, "placesInUse", "()I"⟩
abbrev cX7_takesWay : ByteArray := prog_9_method_17_code
def yX7_takesWay : MethodName := ⟨RX7, "takesWay", "(III)Z"⟩
abbrev cX7_takesPerson : ByteArray := prog_9_method_18_code
def yX7_takesPerson : MethodName := ⟨RX7, "takesPerson", "([I)Z"⟩
abbrev cX7_takesWork : ByteArray := prog_9_method_19_code
def yX7_takesWork : MethodName := ⟨RX7, "takesWork", "([I)Z"⟩
abbrev cX7_measure : ByteArray := prog_9_method_20_code
def yX7_measure : MethodName := ⟨RX7, "measure", "()V"⟩
abbrev cX7_shorten : ByteArray := prog_9_method_21_code
def yX7_shorten : MethodName := ⟨RX7, "shorten", "(III)V"⟩
abbrev cX7_minuteAt : ByteArray := prog_9_method_22_code
def yX7_minuteAt : MethodName := ⟨RX7, "minuteAt", "(II)I"⟩
def RX8 : String := "HalfHere$Work"
def TX8 : u_T := fun k => match k with
  | 0 => ("HalfHere$Work", "kind", "I", false)
  | 1 => ("HalfHere$Work", "place", "I", false)
  | 2 => ("HalfHere$Work", "needs", "[I", true)
  | _ => ("HalfHere$Work", "worth", "I", false)
def tyX8 : Nat → FieldType := fun k => match k with
  | 0 => .int
  | 1 => .int
  | 2 => .array .int
  | _ => .int
abbrev wsX80 : List Cond := u_ws RX8 TX8 4
theorem nmX8 : ∀ a, a < 4 → ∀ b, b < 4 → a ≠ b → (TX8 a).2.1 ≠ (TX8 b).2.1 := by decide +kernel
theorem tyX8_ok : ∀ k, k < 4 → parseFieldDescriptor (TX8 k).2.2.1 = some (tyX8 k) := by decide +kernel
abbrev cX8_init : ByteArray := prog_10_method_1_code
def yX8_init : MethodName := ⟨RX8, "<init>", "()V"⟩
abbrev cX8_become : ByteArray := prog_10_method_2_code
def yX8_become : MethodName := ⟨RX8, "become", "(LHalfHere$Work;)V"⟩
def RX9 : String := "HalfHere"
def TX9 : u_T := fun k => match k with
  | 0 => ("HalfHere", "tape", "LHalfHere$Tape;", true)
  | 1 => ("HalfHere", "now", "LHalfHere$Village;", true)
  | 2 => ("HalfHere", "trial", "LHalfHere$Village;", true)
  | 3 => ("HalfHere", "kept", "LHalfHere$Village;", true)
  | 4 => ("HalfHere", "isKept", "Z", false)
  | 5 => ("HalfHere", "effort", "LHalfHere$Effort;", true)
  | 6 => ("HalfHere", "planner", "LHalfHere$Planner;", true)
  | 7 => ("HalfHere", "quartering", "LHalfHere$Quartering;", true)
  | 8 => ("HalfHere", "company", "LHalfHere$Company;", true)
  | 9 => ("HalfHere", "row", "[I", true)
  | 10 => ("HalfHere", "rowLength", "I", false)
  | _ => ("HalfHere", "refusals", "[I", true)
def tyX9 : Nat → FieldType := fun k => match k with
  | 0 => .object "HalfHere$Tape"
  | 1 => .object "HalfHere$Village"
  | 2 => .object "HalfHere$Village"
  | 3 => .object "HalfHere$Village"
  | 4 => .boolean
  | 5 => .object "HalfHere$Effort"
  | 6 => .object "HalfHere$Planner"
  | 7 => .object "HalfHere$Quartering"
  | 8 => .object "HalfHere$Company"
  | 9 => .array .int
  | 10 => .int
  | _ => .array .int
abbrev wsX90 : List Cond := u_ws RX9 TX9 12
theorem nmX9 : ∀ a, a < 12 → ∀ b, b < 12 → a ≠ b → (TX9 a).2.1 ≠ (TX9 b).2.1 := by decide +kernel
theorem tyX9_ok : ∀ k, k < 12 → parseFieldDescriptor (TX9 k).2.2.1 = some (tyX9 k) := by decide +kernel
abbrev cX9_init : ByteArray := prog_1_method_1_code
def yX9_init : MethodName := ⟨RX9, "<init>", "()V"⟩
abbrev cX9_feed : ByteArray := prog_1_method_2_code
def yX9_feed : MethodName := ⟨RX9, "feed", "(I)I"⟩
abbrev cX9_village : ByteArray := prog_1_method_3_code
def yX9_village : MethodName := ⟨RX9, "village", "()I"⟩
abbrev cX9_person : ByteArray := prog_1_method_4_code
def yX9_person : MethodName := ⟨RX9, "person", "(II)I"⟩
abbrev cX9_work : ByteArray := prog_1_method_5_code
def yX9_work : MethodName := ⟨RX9, "work", "(II)I"⟩
abbrev cX9_minutes : ByteArray := prog_1_method_6_code
def yX9_minutes : MethodName := ⟨RX9, "minutes", "(II)I"⟩
abbrev cX9_partOf : ByteArray := prog_1_method_7_code
def yX9_partOf : MethodName := ⟨RX9, "partOf", "(II)I"⟩
abbrev cX9_split : ByteArray := prog_1_method_8_code
def yX9_split : MethodName := ⟨RX9, "split", "(II)I"⟩
abbrev cX9_go : ByteArray := prog_1_method_9_code
def yX9_go : MethodName := ⟨RX9, "go", "(II)I"⟩
abbrev cX9_see : ByteArray := prog_1_method_10_code
def yX9_see : MethodName := ⟨RX9, "see", "(I)I"⟩
abbrev cX9_join : ByteArray := prog_1_method_11_code
def yX9_join : MethodName := ⟨RX9, "join", "(II)I"⟩
abbrev cX9_at : ByteArray := prog_1_method_12_code
def yX9_at : MethodName := ⟨RX9, "at", "(II)I"⟩
abbrev cX9_toil : ByteArray := prog_1_method_13_code
def yX9_toil : MethodName := ⟨RX9, "toil", "(II)I"⟩
abbrev cX9_rest : ByteArray := prog_1_method_14_code
def yX9_rest : MethodName := ⟨RX9, "rest", "(II)I"⟩
abbrev cX9_lose : ByteArray := prog_1_method_15_code
def yX9_lose : MethodName := ⟨RX9, "lose", "(I)I"⟩
abbrev cX9_does : ByteArray := prog_1_method_16_code
def yX9_does : MethodName := ⟨RX9, "does", "(II)I"⟩
abbrev cX9_well : ByteArray := prog_1_method_17_code
def yX9_well : MethodName := ⟨RX9, "well", "(II)I"⟩
abbrev cX9_plan : ByteArray := prog_1_method_18_code
def yX9_plan : MethodName := ⟨RX9, "plan", "(I)I"⟩
abbrev cX9_planned : ByteArray := prog_1_method_19_code
def yX9_planned : MethodName := ⟨RX9, "planned", "(III)I"⟩
abbrev cX9_best : ByteArray := prog_1_method_20_code
def yX9_best : MethodName := ⟨RX9, "best", "()I"⟩
abbrev cX9_quarters : ByteArray := prog_1_method_21_code
def yX9_quarters : MethodName := ⟨RX9, "quarters", "(II)I"⟩
abbrev cX9_must : ByteArray := prog_1_method_22_code
def yX9_must : MethodName := ⟨RX9, "must", "()I"⟩
abbrev cX9_with : ByteArray := prog_1_method_23_code
def yX9_with : MethodName := ⟨RX9, "with", "(I)I"⟩
abbrev cX9_thin : ByteArray := prog_1_method_24_code
def yX9_thin : MethodName := ⟨RX9, "thin", "(I)I"⟩
abbrev cX9_few : ByteArray := prog_1_method_25_code
def yX9_few : MethodName := ⟨RX9, "few", "(II)I"⟩
abbrev cX9_chance : ByteArray := prog_1_method_26_code
def yX9_chance : MethodName := ⟨RX9, "chance", "(IIII)J"⟩
abbrev cX9_together : ByteArray := prog_1_method_27_code
def yX9_together : MethodName := ⟨RX9, "together", "(II)I"⟩
abbrev cX9_known : ByteArray := prog_1_method_28_code
def yX9_known : MethodName := ⟨RX9, "known", "(II)I"⟩
abbrev cX9_row : ByteArray := prog_1_method_29_code
def yX9_row : MethodName := ⟨RX9, "row", "(I)I"⟩
abbrev cX9_judge : ByteArray := prog_1_method_30_code
def yX9_judge : MethodName := ⟨RX9, "judge", "(I)I"⟩
abbrev cX9_image : ByteArray := prog_1_method_31_code
def yX9_image : MethodName := ⟨RX9, "image", "()I"⟩
abbrev cX9_on : ByteArray := prog_1_method_32_code
def yX9_on : MethodName := ⟨RX9, "on", "()I"⟩
abbrev cX9_count : ByteArray := prog_1_method_33_code
def yX9_count : MethodName := ⟨RX9, "count", "(I)I"⟩
abbrev cX9_refuse : ByteArray := prog_1_method_34_code
def yX9_refuse : MethodName := ⟨RX9, "refuse", "(I)I"⟩
abbrev cX9_refusalOfTime : ByteArray := prog_1_method_35_code
def yX9_refusalOfTime : MethodName := ⟨RX9, "refusalOfTime", "(II)I"⟩
abbrev cX9_refusalOfParts : ByteArray := prog_1_method_36_code
def yX9_refusalOfParts : MethodName := ⟨RX9, "refusalOfParts", "(II)I"⟩
abbrev cX9_refusalOfChance : ByteArray := prog_1_method_37_code
def yX9_refusalOfChance : MethodName := ⟨RX9, "refusalOfChance", "(IIII)I"⟩
abbrev cX9_gatherParts : ByteArray := prog_1_method_38_code
def yX9_gatherParts : MethodName := ⟨RX9, "gatherParts", "(I)V"⟩
abbrev cX9_worksDone : ByteArray := prog_1_method_39_code
def yX9_worksDone : MethodName := ⟨RX9, "worksDone", "()I"⟩
abbrev cX9_meanLeft : ByteArray := prog_1_method_40_code
def yX9_meanLeft : MethodName := ⟨RX9, "meanLeft", "(III)J"⟩
abbrev cX9_allLeft : ByteArray := prog_1_method_41_code
def yX9_allLeft : MethodName := ⟨RX9, "allLeft", "(III)J"⟩
abbrev cX9_commonDivisor : ByteArray := prog_1_method_42_code
def yX9_commonDivisor : MethodName := ⟨RX9, "commonDivisor", "(JJ)J"⟩
abbrev cX9_judged : ByteArray := prog_1_method_43_code
def yX9_judged : MethodName := ⟨RX9, "judged", "(I)I"⟩
def RX10 : String := "HalfHereModel"
def TX10 : u_T := fun k => match k with
  | 0 => ("HalfHereModel", "refusals", "[I", true)
  | 1 => ("HalfHereModel", "s", "[I", true)
  | 2 => ("HalfHereModel", "image", "[I", true)
  | 3 => ("HalfHereModel", "read", "[I", true)
  | 4 => ("HalfHereModel", "isImage", "Z", false)
  | 5 => ("HalfHereModel", "tape", "[I", true)
  | 6 => ("HalfHereModel", "told", "[I", true)
  | 7 => ("HalfHereModel", "taped", "I", false)
  | 8 => ("HalfHereModel", "at", "I", false)
  | 9 => ("HalfHereModel", "far", "[I", true)
  | 10 => ("HalfHereModel", "sum", "[I", true)
  | 11 => ("HalfHereModel", "there", "I", false)
  | 12 => ("HalfHereModel", "above", "I", false)
  | 13 => ("HalfHereModel", "below", "I", false)
  | 14 => ("HalfHereModel", "share", "[I", true)
  | 15 => ("HalfHereModel", "ahead", "[I", true)
  | 16 => ("HalfHereModel", "bestShare", "[I", true)
  | 17 => ("HalfHereModel", "bestWorth", "I", false)
  | 18 => ("HalfHereModel", "row", "[I", true)
  | _ => ("HalfHereModel", "rowed", "I", false)
def tyX10 : Nat → FieldType := fun k => match k with
  | 0 => .array .int
  | 1 => .array .int
  | 2 => .array .int
  | 3 => .array .int
  | 4 => .boolean
  | 5 => .array .int
  | 6 => .array .int
  | 7 => .int
  | 8 => .int
  | 9 => .array .int
  | 10 => .array .int
  | 11 => .int
  | 12 => .int
  | 13 => .int
  | 14 => .array .int
  | 15 => .array .int
  | 16 => .array .int
  | 17 => .int
  | 18 => .array .int
  | _ => .int
abbrev wsX100 : List Cond := u_ws RX10 TX10 20
theorem nmX10 : ∀ a, a < 20 → ∀ b, b < 20 → a ≠ b → (TX10 a).2.1 ≠ (TX10 b).2.1 := by decide +kernel
theorem tyX10_ok : ∀ k, k < 20 → parseFieldDescriptor (TX10 k).2.2.1 = some (tyX10 k) := by decide +kernel
abbrev cX10_init : ByteArray := prog_12_method_1_code
def yX10_init : MethodName := ⟨RX10, "<init>", "()V"⟩
abbrev cX10_refuse : ByteArray := prog_12_method_2_code
def yX10_refuse : MethodName := ⟨RX10, "refuse", "(I)I"⟩
abbrev cX10_isIn : ByteArray := prog_12_method_3_code
def yX10_isIn : MethodName := ⟨RX10, "isIn", "(II)Z"⟩
abbrev cX10_within : ByteArray := prog_12_method_4_code
def yX10_within : MethodName := ⟨RX10, "within", "(III)I"⟩
abbrev cX10_isSpot : ByteArray := prog_12_method_5_code
def yX10_isSpot : MethodName := ⟨RX10, "isSpot", "(I)Z"⟩
abbrev cX10_isPerson : ByteArray := prog_12_method_6_code
def yX10_isPerson : MethodName := ⟨RX10, "isPerson", "(I)Z"⟩
abbrev cX10_isWork : ByteArray := prog_12_method_7_code
def yX10_isWork : MethodName := ⟨RX10, "isWork", "(I)Z"⟩
abbrev cX10_isPart : ByteArray := prog_12_method_8_code
def yX10_isPart : MethodName := ⟨RX10, "isPart", "(I)Z"⟩
abbrev cX10_get : ByteArray := prog_12_method_9_code
def yX10_get : MethodName := ⟨RX10, "get", "(II)I"⟩
abbrev cX10_of : ByteArray := prog_12_method_10_code
def yX10_of : MethodName := ⟨RX10, "of", "(II)I"⟩
abbrev cX10_part : ByteArray := prog_12_method_11_code
def yX10_part : MethodName := ⟨RX10, "part", "(II)I"⟩
abbrev cX10_puts : ByteArray := prog_12_method_12_code
def yX10_puts : MethodName := ⟨RX10, "puts", "(III)V"⟩
abbrev cX10_feed : ByteArray := prog_12_method_13_code
def yX10_feed : MethodName := ⟨RX10, "feed", "(I)I"⟩
abbrev cX10_sign : ByteArray := prog_12_method_14_code
def yX10_sign : MethodName := ⟨RX10, "sign", "()I"⟩
abbrev cX10_takes : ByteArray := prog_12_method_15_code
def yX10_takes : MethodName := ⟨RX10, "takes", "(I)Z"⟩
abbrev cX10_readsNumber : ByteArray := prog_12_method_16_code
def yX10_readsNumber : MethodName := ⟨RX10, "readsNumber", "(II)Z"⟩
abbrev cX10_kindOf : ByteArray := prog_12_method_17_code
def yX10_kindOf : MethodName := ⟨RX10, "kindOf", "(I)I"⟩
abbrev cX10_readsStatement : ByteArray := prog_12_method_18_code
def yX10_readsStatement : MethodName := ⟨RX10, "readsStatement", "()Z"⟩
abbrev cX10_toldOf : ByteArray := prog_12_method_19_code
def yX10_toldOf : MethodName := ⟨RX10, "toldOf", "()I"⟩
abbrev cX10_free : ByteArray := prog_12_method_20_code
def yX10_free : MethodName := ⟨RX10, "free", "([I)I"⟩
abbrev cX10_comesPerson : ByteArray := prog_12_method_21_code
def yX10_comesPerson : MethodName := ⟨RX10, "comesPerson", "()Z"⟩
abbrev cX10_comes : ByteArray := prog_12_method_22_code
def yX10_comes : MethodName := ⟨RX10, "comes", "(I)Z"⟩
abbrev cX10_reads : ByteArray := prog_12_method_23_code
def yX10_reads : MethodName := ⟨RX10, "reads", "()I"⟩
abbrev cX10_village : ByteArray := prog_12_method_24_code
def yX10_village : MethodName := ⟨RX10, "village", "()I"⟩
abbrev cX10_leftOf : ByteArray := prog_12_method_25_code
def yX10_leftOf : MethodName := ⟨RX10, "leftOf", "(I)I"⟩
abbrev cX10_partsOf : ByteArray := prog_12_method_26_code
def yX10_partsOf : MethodName := ⟨RX10, "partsOf", "(I)I"⟩
abbrev cX10_person : ByteArray := prog_12_method_27_code
def yX10_person : MethodName := ⟨RX10, "person", "(II)I"⟩
abbrev cX10_work : ByteArray := prog_12_method_28_code
def yX10_work : MethodName := ⟨RX10, "work", "(II)I"⟩
abbrev cX10_findsFar : ByteArray := prog_12_method_29_code
def yX10_findsFar : MethodName := ⟨RX10, "findsFar", "()V"⟩
abbrev cX10_minutesOf : ByteArray := prog_12_method_30_code
def yX10_minutesOf : MethodName := ⟨RX10, "minutesOf", "(II)I"⟩
abbrev cX10_minutes : ByteArray := prog_12_method_31_code
def yX10_minutes : MethodName := ⟨RX10, "minutes", "(II)I"⟩
abbrev cX10_partOf : ByteArray := prog_12_method_32_code
def yX10_partOf : MethodName := ⟨RX10, "partOf", "(II)I"⟩
abbrev cX10_split : ByteArray := prog_12_method_33_code
def yX10_split : MethodName := ⟨RX10, "split", "(II)I"⟩
abbrev cX10_go : ByteArray := prog_12_method_34_code
def yX10_go : MethodName := ⟨RX10, "go", "(II)I"⟩
abbrev cX10_bits : ByteArray := prog_12_method_35_code
def yX10_bits : MethodName := ⟨RX10, "bits", "(I)I"⟩
abbrev cX10_see : ByteArray := prog_12_method_36_code
def yX10_see : MethodName := ⟨RX10, "see", "(I)I"⟩
abbrev cX10_greater : ByteArray := prog_12_method_37_code
def yX10_greater : MethodName := ⟨RX10, "greater", "(II)I"⟩
abbrev cX10_join : ByteArray := prog_12_method_38_code
def yX10_join : MethodName := ⟨RX10, "join", "(II)I"⟩
abbrev cX10_at : ByteArray := prog_12_method_39_code
def yX10_at : MethodName := ⟨RX10, "at", "(II)I"⟩
abbrev cX10_toil : ByteArray := prog_12_method_40_code
def yX10_toil : MethodName := ⟨RX10, "toil", "(II)I"⟩
abbrev cX10_rest : ByteArray := prog_12_method_41_code
def yX10_rest : MethodName := ⟨RX10, "rest", "(II)I"⟩
abbrev cX10_lose : ByteArray := prog_12_method_42_code
def yX10_lose : MethodName := ⟨RX10, "lose", "(I)I"⟩
abbrev cX10_begins : ByteArray := prog_12_method_43_code
def yX10_begins : MethodName := ⟨RX10, "begins", "()V"⟩
abbrev cX10_giftOf : ByteArray := prog_12_method_44_code
def yX10_giftOf : MethodName := ⟨RX10, "giftOf", "(IIIII)I"⟩
abbrev cX10_gives : ByteArray := prog_12_method_45_code
def yX10_gives : MethodName := ⟨RX10, "gives", "(IIII)V"⟩
abbrev cX10_doesOf : ByteArray := prog_12_method_46_code
def yX10_doesOf : MethodName := ⟨RX10, "doesOf", "(II)I"⟩
abbrev cX10_gathers : ByteArray := prog_12_method_47_code
def yX10_gathers : MethodName := ⟨RX10, "gathers", "(I)V"⟩
abbrev cX10_does : ByteArray := prog_12_method_48_code
def yX10_does : MethodName := ⟨RX10, "does", "(II)I"⟩
abbrev cX10_findsWell : ByteArray := prog_12_method_49_code
def yX10_findsWell : MethodName := ⟨RX10, "findsWell", "(I)V"⟩
abbrev cX10_isDoneNow : ByteArray := prog_12_method_50_code
def yX10_isDoneNow : MethodName := ⟨RX10, "isDoneNow", "(I)Z"⟩
abbrev cX10_common : ByteArray := prog_12_method_51_code
def yX10_common : MethodName := ⟨RX10, "common", "(II)I"⟩
abbrev cX10_well : ByteArray := prog_12_method_52_code
def yX10_well : MethodName := ⟨RX10, "well", "(II)I"⟩
abbrev cX10_gathersBy : ByteArray := prog_12_method_53_code
def yX10_gathersBy : MethodName := ⟨RX10, "gathersBy", "(III)V"⟩
abbrev cX10_isDoneBy : ByteArray := prog_12_method_54_code
def yX10_isDoneBy : MethodName := ⟨RX10, "isDoneBy", "(III)Z"⟩
abbrev cX10_helps : ByteArray := prog_12_method_55_code
def yX10_helps : MethodName := ⟨RX10, "helps", "(III)Z"⟩
abbrev cX10_plansWholes : ByteArray := prog_12_method_56_code
def yX10_plansWholes : MethodName := ⟨RX10, "plansWholes", "()V"⟩
abbrev cX10_plansEven : ByteArray := prog_12_method_57_code
def yX10_plansEven : MethodName := ⟨RX10, "plansEven", "()V"⟩
abbrev cX10_givenOf : ByteArray := prog_12_method_58_code
def yX10_givenOf : MethodName := ⟨RX10, "givenOf", "(I)I"⟩
abbrev cX10_plansNeed : ByteArray := prog_12_method_59_code
def yX10_plansNeed : MethodName := ⟨RX10, "plansNeed", "(Z)V"⟩
abbrev cX10_plans : ByteArray := prog_12_method_60_code
def yX10_plans : MethodName := ⟨RX10, "plans", "(I)V"⟩
abbrev cX10_worthOf : ByteArray := prog_12_method_61_code
def yX10_worthOf : MethodName := ⟨RX10, "worthOf", "()I"⟩
abbrev cX10_plan : ByteArray := prog_12_method_62_code
def yX10_plan : MethodName := ⟨RX10, "plan", "(I)I"⟩
abbrev cX10_planned : ByteArray := prog_12_method_63_code
def yX10_planned : MethodName := ⟨RX10, "planned", "(III)I"⟩
abbrev cX10_worthByQuarters : ByteArray := prog_12_method_64_code
def yX10_worthByQuarters : MethodName := ⟨RX10, "worthByQuarters", "()I"⟩
abbrev cX10_quartersFrom : ByteArray := prog_12_method_65_code
def yX10_quartersFrom : MethodName := ⟨RX10, "quartersFrom", "(III)V"⟩
abbrev cX10_findsBest : ByteArray := prog_12_method_66_code
def yX10_findsBest : MethodName := ⟨RX10, "findsBest", "()V"⟩
abbrev cX10_areFew : ByteArray := prog_12_method_67_code
def yX10_areFew : MethodName := ⟨RX10, "areFew", "()Z"⟩
abbrev cX10_best : ByteArray := prog_12_method_68_code
def yX10_best : MethodName := ⟨RX10, "best", "()I"⟩
abbrev cX10_quarters : ByteArray := prog_12_method_69_code
def yX10_quarters : MethodName := ⟨RX10, "quarters", "(II)I"⟩
abbrev cX10_canAll : ByteArray := prog_12_method_70_code
def yX10_canAll : MethodName := ⟨RX10, "canAll", "(II)Z"⟩
abbrev cX10_must : ByteArray := prog_12_method_71_code
def yX10_must : MethodName := ⟨RX10, "must", "()I"⟩
abbrev cX10_with : ByteArray := prog_12_method_72_code
def yX10_with : MethodName := ⟨RX10, "with", "(I)I"⟩
abbrev cX10_thin : ByteArray := prog_12_method_73_code
def yX10_thin : MethodName := ⟨RX10, "thin", "(I)I"⟩
abbrev cX10_few : ByteArray := prog_12_method_74_code
def yX10_few : MethodName := ⟨RX10, "few", "(II)I"⟩
abbrev cX10_commonLong : ByteArray := prog_12_method_75_code
def yX10_commonLong : MethodName := ⟨RX10, "commonLong", "(JJ)J"⟩
abbrev cX10_chance : ByteArray := prog_12_method_76_code
def yX10_chance : MethodName := ⟨RX10, "chance", "(IIII)J"⟩
abbrev cX10_together : ByteArray := prog_12_method_77_code
def yX10_together : MethodName := ⟨RX10, "together", "(II)I"⟩
abbrev cX10_known : ByteArray := prog_12_method_78_code
def yX10_known : MethodName := ⟨RX10, "known", "(II)I"⟩
abbrev cX10_row : ByteArray := prog_12_method_79_code
def yX10_row : MethodName := ⟨RX10, "row", "(I)I"⟩
abbrev cX10_judge : ByteArray := prog_12_method_80_code
def yX10_judge : MethodName := ⟨RX10, "judge", "(I)I"⟩
abbrev cX10_parts : ByteArray := prog_12_method_81_code
def yX10_parts : MethodName := ⟨RX10, "parts", "()I"⟩
abbrev cX10_image : ByteArray := prog_12_method_82_code
def yX10_image : MethodName := ⟨RX10, "image", "()I"⟩
abbrev cX10_on : ByteArray := prog_12_method_83_code
def yX10_on : MethodName := ⟨RX10, "on", "()I"⟩
abbrev cX10_count : ByteArray := prog_12_method_84_code
def yX10_count : MethodName := ⟨RX10, "count", "(I)I"⟩
def RJ6 : String := "java/lang/Integer"
abbrev cJ6_bitCount_0f7a4 : ByteArray := prog_13_method_49_code
def yJ6_bitCount_0f7a4 : MethodName := ⟨RJ6, "bitCount", "(I)I"⟩
def RJ9 : String := "java/lang/Math"
abbrev cJ9_max_7cf53 : ByteArray := prog_14_method_65_code
def yJ9_max_7cf53 : MethodName := ⟨RJ9, "max", "(II)I"⟩
abbrev cJ9_max_f86c9 : ByteArray := prog_14_method_66_code
def yJ9_max_f86c9 : MethodName := ⟨RJ9, "max", "(JJ)J"⟩
abbrev cJ9_min_7cf53 : ByteArray := prog_14_method_69_code
def yJ9_min_7cf53 : MethodName := ⟨RJ9, "min", "(II)I"⟩
def RJ10 : String := "java/lang/System"
def RL : String := "HalfHereLaw"
abbrev cL_law : ByteArray := code
theorem dX0_init_0 : decode cX0_init 0 = .ok (.aload_n 0, 1) := by decide +kernel
theorem dX0_init_1 : decode cX0_init 1 = .ok (.invokespecial 3, 3) := by decide +kernel
theorem dX0_init_4 : decode cX0_init 4 = .ok (.aload_n 0, 1) := by decide +kernel
theorem dX0_init_5 : decode cX0_init 5 = .ok (.bipush 64, 2) := by decide +kernel
theorem dX0_init_7 : decode cX0_init 7 = .ok (.newarray .boolean, 2) := by decide +kernel
theorem dX0_init_9 : decode cX0_init 9 = .ok (.putfield 11, 3) := by decide +kernel
theorem dX0_init_12 : decode cX0_init 12 = .ok (.aload_n 0, 1) := by decide +kernel
theorem dX0_init_13 : decode cX0_init 13 = .ok (.bipush 64, 2) := by decide +kernel
theorem dX0_init_15 : decode cX0_init 15 = .ok (.newarray .boolean, 2) := by decide +kernel
theorem dX0_init_17 : decode cX0_init 17 = .ok (.putfield 15, 3) := by decide +kernel
theorem dX0_init_20 : decode cX0_init 20 = .ok (.aload_n 0, 1) := by decide +kernel
theorem dX0_init_21 : decode cX0_init 21 = .ok (.new 18, 3) := by decide +kernel
theorem dX0_init_24 : decode cX0_init 24 = .ok (.dup, 1) := by decide +kernel
theorem dX0_init_25 : decode cX0_init 25 = .ok (.invokespecial 20, 3) := by decide +kernel
theorem dX0_init_28 : decode cX0_init 28 = .ok (.putfield 21, 3) := by decide +kernel
theorem dX0_init_31 : decode cX0_init 31 = .ok (.return_, 1) := by decide +kernel
theorem dX0_fewestForWholes_0 : decode cX0_fewestForWholes 0 = .ok (.iconst 1, 1) := by decide +kernel
theorem dX0_fewestForWholes_1 : decode cX0_fewestForWholes 1 = .ok (.aload_n 1, 1) := by decide +kernel
theorem dX0_fewestForWholes_2 : decode cX0_fewestForWholes 2 = .ok (.getfield 25, 3) := by decide +kernel
theorem dX0_fewestForWholes_5 : decode cX0_fewestForWholes 5 = .ok (.ishl, 1) := by decide +kernel
theorem dX0_fewestForWholes_6 : decode cX0_fewestForWholes 6 = .ok (.istore_n 2, 1) := by decide +kernel
theorem dX0_fewestForWholes_7 : decode cX0_fewestForWholes 7 = .ok (.iconst 0, 1) := by decide +kernel
theorem dX0_fewestForWholes_8 : decode cX0_fewestForWholes 8 = .ok (.istore_n 3, 1) := by decide +kernel
theorem dX0_fewestForWholes_9 : decode cX0_fewestForWholes 9 = .ok (.iload_n 3, 1) := by decide +kernel
theorem dX0_fewestForWholes_10 : decode cX0_fewestForWholes 10 = .ok (.bipush 64, 2) := by decide +kernel
theorem dX0_fewestForWholes_12 : decode cX0_fewestForWholes 12 = .ok (.if_icmp .ge 25, 3) := by decide +kernel
theorem dX0_fewestForWholes_15 : decode cX0_fewestForWholes 15 = .ok (.aload_n 0, 1) := by decide +kernel
theorem dX0_fewestForWholes_16 : decode cX0_fewestForWholes 16 = .ok (.getfield 11, 3) := by decide +kernel
theorem dX0_fewestForWholes_19 : decode cX0_fewestForWholes 19 = .ok (.iload_n 3, 1) := by decide +kernel
theorem dX0_fewestForWholes_20 : decode cX0_fewestForWholes 20 = .ok (.iload_n 3, 1) := by decide +kernel
theorem dX0_fewestForWholes_21 : decode cX0_fewestForWholes 21 = .ok (.iload_n 2, 1) := by decide +kernel
theorem dX0_fewestForWholes_22 : decode cX0_fewestForWholes 22 = .ok (.if_icmp .ge 7, 3) := by decide +kernel
theorem dX0_fewestForWholes_25 : decode cX0_fewestForWholes 25 = .ok (.iconst 1, 1) := by decide +kernel
theorem dX0_fewestForWholes_26 : decode cX0_fewestForWholes 26 = .ok (.goto 4, 3) := by decide +kernel
theorem dX0_fewestForWholes_29 : decode cX0_fewestForWholes 29 = .ok (.iconst 0, 1) := by decide +kernel
theorem dX0_fewestForWholes_30 : decode cX0_fewestForWholes 30 = .ok (.bastore, 1) := by decide +kernel
theorem dX0_fewestForWholes_31 : decode cX0_fewestForWholes 31 = .ok (.iinc 3 1, 3) := by decide +kernel
theorem dX0_fewestForWholes_34 : decode cX0_fewestForWholes 34 = .ok (.goto (-25), 3) := by decide +kernel
theorem dX0_fewestForWholes_37 : decode cX0_fewestForWholes 37 = .ok (.iconst 0, 1) := by decide +kernel
theorem dX0_fewestForWholes_38 : decode cX0_fewestForWholes 38 = .ok (.istore_n 3, 1) := by decide +kernel
theorem dX0_fewestForWholes_39 : decode cX0_fewestForWholes 39 = .ok (.iload_n 3, 1) := by decide +kernel
theorem dX0_fewestForWholes_40 : decode cX0_fewestForWholes 40 = .ok (.aload_n 1, 1) := by decide +kernel
theorem dX0_fewestForWholes_41 : decode cX0_fewestForWholes 41 = .ok (.getfield 31, 3) := by decide +kernel
theorem dX0_fewestForWholes_44 : decode cX0_fewestForWholes 44 = .ok (.if_icmp .ge 38, 3) := by decide +kernel
theorem dX0_fewestForWholes_47 : decode cX0_fewestForWholes 47 = .ok (.aload_n 1, 1) := by decide +kernel
theorem dX0_fewestForWholes_48 : decode cX0_fewestForWholes 48 = .ok (.getfield 34, 3) := by decide +kernel
theorem dX0_fewestForWholes_51 : decode cX0_fewestForWholes 51 = .ok (.iload_n 3, 1) := by decide +kernel
theorem dX0_fewestForWholes_52 : decode cX0_fewestForWholes 52 = .ok (.aaload, 1) := by decide +kernel
theorem dX0_fewestForWholes_53 : decode cX0_fewestForWholes 53 = .ok (.getfield 38, 3) := by decide +kernel
theorem dX0_fewestForWholes_56 : decode cX0_fewestForWholes 56 = .ok (.iconst 1, 1) := by decide +kernel
theorem dX0_fewestForWholes_57 : decode cX0_fewestForWholes 57 = .ok (.if_icmp .ne 19, 3) := by decide +kernel
theorem dX0_fewestForWholes_60 : decode cX0_fewestForWholes 60 = .ok (.aload_n 0, 1) := by decide +kernel
theorem dX0_fewestForWholes_61 : decode cX0_fewestForWholes 61 = .ok (.aload_n 1, 1) := by decide +kernel
theorem dX0_fewestForWholes_62 : decode cX0_fewestForWholes 62 = .ok (.aload_n 1, 1) := by decide +kernel
theorem dX0_fewestForWholes_63 : decode cX0_fewestForWholes 63 = .ok (.getfield 34, 3) := by decide +kernel
theorem dX0_fewestForWholes_66 : decode cX0_fewestForWholes 66 = .ok (.iload_n 3, 1) := by decide +kernel
theorem dX0_fewestForWholes_67 : decode cX0_fewestForWholes 67 = .ok (.aaload, 1) := by decide +kernel
theorem dX0_fewestForWholes_68 : decode cX0_fewestForWholes 68 = .ok (.invokevirtual 43, 3) := by decide +kernel
theorem dX0_fewestForWholes_71 : decode cX0_fewestForWholes 71 = .ok (.aload_n 0, 1) := by decide +kernel
theorem dX0_fewestForWholes_72 : decode cX0_fewestForWholes 72 = .ok (.iload_n 2, 1) := by decide +kernel
theorem dX0_fewestForWholes_73 : decode cX0_fewestForWholes 73 = .ok (.invokevirtual 47, 3) := by decide +kernel
theorem dX0_fewestForWholes_76 : decode cX0_fewestForWholes 76 = .ok (.iinc 3 1, 3) := by decide +kernel
theorem dX0_fewestForWholes_79 : decode cX0_fewestForWholes 79 = .ok (.goto (-40), 3) := by decide +kernel
theorem dX0_fewestForWholes_82 : decode cX0_fewestForWholes 82 = .ok (.bipush (-9), 2) := by decide +kernel
theorem dX0_fewestForWholes_84 : decode cX0_fewestForWholes 84 = .ok (.istore_n 3, 1) := by decide +kernel
theorem dX0_fewestForWholes_85 : decode cX0_fewestForWholes 85 = .ok (.iconst 0, 1) := by decide +kernel
theorem dX0_fewestForWholes_86 : decode cX0_fewestForWholes 86 = .ok (.istore 4, 2) := by decide +kernel
theorem dX0_fewestForWholes_88 : decode cX0_fewestForWholes 88 = .ok (.iload 4, 2) := by decide +kernel
theorem dX0_fewestForWholes_90 : decode cX0_fewestForWholes 90 = .ok (.bipush 64, 2) := by decide +kernel
theorem dX0_fewestForWholes_92 : decode cX0_fewestForWholes 92 = .ok (.if_icmp .ge 40, 3) := by decide +kernel
theorem dX0_fewestForWholes_95 : decode cX0_fewestForWholes 95 = .ok (.aload_n 0, 1) := by decide +kernel
theorem dX0_fewestForWholes_96 : decode cX0_fewestForWholes 96 = .ok (.getfield 11, 3) := by decide +kernel
theorem dX0_fewestForWholes_99 : decode cX0_fewestForWholes 99 = .ok (.iload 4, 2) := by decide +kernel
theorem dX0_fewestForWholes_101 : decode cX0_fewestForWholes 101 = .ok (.baload, 1) := by decide +kernel
theorem dX0_fewestForWholes_102 : decode cX0_fewestForWholes 102 = .ok (.ifCond .eq 24, 3) := by decide +kernel
theorem dX0_fewestForWholes_105 : decode cX0_fewestForWholes 105 = .ok (.iload_n 3, 1) := by decide +kernel
theorem dX0_fewestForWholes_106 : decode cX0_fewestForWholes 106 = .ok (.bipush (-9), 2) := by decide +kernel
theorem dX0_fewestForWholes_108 : decode cX0_fewestForWholes 108 = .ok (.if_icmp .eq 15, 3) := by decide +kernel
theorem dX0_fewestForWholes_111 : decode cX0_fewestForWholes 111 = .ok (.iload 4, 2) := by decide +kernel
theorem dX0_fewestForWholes_113 : decode cX0_fewestForWholes 113 = .ok (.invokestatic 51, 3) := by decide +kernel
theorem dX0_fewestForWholes_116 : decode cX0_fewestForWholes 116 = .ok (.iload_n 3, 1) := by decide +kernel
theorem dX0_fewestForWholes_117 : decode cX0_fewestForWholes 117 = .ok (.invokestatic 51, 3) := by decide +kernel
theorem dX0_fewestForWholes_120 : decode cX0_fewestForWholes 120 = .ok (.if_icmp .ge 6, 3) := by decide +kernel
theorem dX0_fewestForWholes_123 : decode cX0_fewestForWholes 123 = .ok (.iload 4, 2) := by decide +kernel
theorem dX0_fewestForWholes_125 : decode cX0_fewestForWholes 125 = .ok (.istore_n 3, 1) := by decide +kernel
theorem dX0_fewestForWholes_126 : decode cX0_fewestForWholes 126 = .ok (.iinc 4 1, 3) := by decide +kernel
theorem dX0_fewestForWholes_129 : decode cX0_fewestForWholes 129 = .ok (.goto (-41), 3) := by decide +kernel
theorem dX0_fewestForWholes_132 : decode cX0_fewestForWholes 132 = .ok (.iload_n 3, 1) := by decide +kernel
theorem dX0_fewestForWholes_133 : decode cX0_fewestForWholes 133 = .ok (.ireturn, 1) := by decide +kernel
theorem dX0_fillEnough_0 : decode cX0_fillEnough 0 = .ok (.iconst 0, 1) := by decide +kernel
theorem dX0_fillEnough_1 : decode cX0_fillEnough 1 = .ok (.istore_n 3, 1) := by decide +kernel
theorem dX0_fillEnough_2 : decode cX0_fillEnough 2 = .ok (.iload_n 3, 1) := by decide +kernel
theorem dX0_fillEnough_3 : decode cX0_fillEnough 3 = .ok (.bipush 64, 2) := by decide +kernel
theorem dX0_fillEnough_5 : decode cX0_fillEnough 5 = .ok (.if_icmp .ge 77, 3) := by decide +kernel
theorem dX0_fillEnough_8 : decode cX0_fillEnough 8 = .ok (.aload_n 0, 1) := by decide +kernel
theorem dX0_fillEnough_9 : decode cX0_fillEnough 9 = .ok (.getfield 21, 3) := by decide +kernel
theorem dX0_fillEnough_12 : decode cX0_fillEnough 12 = .ok (.aload_n 2, 1) := by decide +kernel
theorem dX0_fillEnough_13 : decode cX0_fillEnough 13 = .ok (.invokevirtual 57, 3) := by decide +kernel
theorem dX0_fillEnough_16 : decode cX0_fillEnough 16 = .ok (.iconst 0, 1) := by decide +kernel
theorem dX0_fillEnough_17 : decode cX0_fillEnough 17 = .ok (.istore 4, 2) := by decide +kernel
theorem dX0_fillEnough_19 : decode cX0_fillEnough 19 = .ok (.iload 4, 2) := by decide +kernel
theorem dX0_fillEnough_21 : decode cX0_fillEnough 21 = .ok (.aload_n 1, 1) := by decide +kernel
theorem dX0_fillEnough_22 : decode cX0_fillEnough 22 = .ok (.getfield 25, 3) := by decide +kernel
theorem dX0_fillEnough_25 : decode cX0_fillEnough 25 = .ok (.if_icmp .ge 38, 3) := by decide +kernel
theorem dX0_fillEnough_28 : decode cX0_fillEnough 28 = .ok (.iload_n 3, 1) := by decide +kernel
theorem dX0_fillEnough_29 : decode cX0_fillEnough 29 = .ok (.iload 4, 2) := by decide +kernel
theorem dX0_fillEnough_31 : decode cX0_fillEnough 31 = .ok (.ishr, 1) := by decide +kernel
theorem dX0_fillEnough_32 : decode cX0_fillEnough 32 = .ok (.iconst 1, 1) := by decide +kernel
theorem dX0_fillEnough_33 : decode cX0_fillEnough 33 = .ok (.iand, 1) := by decide +kernel
theorem dX0_fillEnough_34 : decode cX0_fillEnough 34 = .ok (.iconst 1, 1) := by decide +kernel
theorem dX0_fillEnough_35 : decode cX0_fillEnough 35 = .ok (.if_icmp .ne 22, 3) := by decide +kernel
theorem dX0_fillEnough_38 : decode cX0_fillEnough 38 = .ok (.aload_n 0, 1) := by decide +kernel
theorem dX0_fillEnough_39 : decode cX0_fillEnough 39 = .ok (.getfield 21, 3) := by decide +kernel
theorem dX0_fillEnough_42 : decode cX0_fillEnough 42 = .ok (.iload 4, 2) := by decide +kernel
theorem dX0_fillEnough_44 : decode cX0_fillEnough 44 = .ok (.aload_n 1, 1) := by decide +kernel
theorem dX0_fillEnough_45 : decode cX0_fillEnough 45 = .ok (.getfield 61, 3) := by decide +kernel
theorem dX0_fillEnough_48 : decode cX0_fillEnough 48 = .ok (.iload 4, 2) := by decide +kernel
theorem dX0_fillEnough_50 : decode cX0_fillEnough 50 = .ok (.aaload, 1) := by decide +kernel
theorem dX0_fillEnough_51 : decode cX0_fillEnough 51 = .ok (.bipush 12, 2) := by decide +kernel
theorem dX0_fillEnough_53 : decode cX0_fillEnough 53 = .ok (.iconst 0, 1) := by decide +kernel
theorem dX0_fillEnough_54 : decode cX0_fillEnough 54 = .ok (.invokevirtual 65, 3) := by decide +kernel
theorem dX0_fillEnough_57 : decode cX0_fillEnough 57 = .ok (.iinc 4 1, 3) := by decide +kernel
theorem dX0_fillEnough_60 : decode cX0_fillEnough 60 = .ok (.goto (-41), 3) := by decide +kernel
theorem dX0_fillEnough_63 : decode cX0_fillEnough 63 = .ok (.aload_n 0, 1) := by decide +kernel
theorem dX0_fillEnough_64 : decode cX0_fillEnough 64 = .ok (.getfield 15, 3) := by decide +kernel
theorem dX0_fillEnough_67 : decode cX0_fillEnough 67 = .ok (.iload_n 3, 1) := by decide +kernel
theorem dX0_fillEnough_68 : decode cX0_fillEnough 68 = .ok (.aload_n 0, 1) := by decide +kernel
theorem dX0_fillEnough_69 : decode cX0_fillEnough 69 = .ok (.getfield 21, 3) := by decide +kernel
theorem dX0_fillEnough_72 : decode cX0_fillEnough 72 = .ok (.invokevirtual 69, 3) := by decide +kernel
theorem dX0_fillEnough_75 : decode cX0_fillEnough 75 = .ok (.bastore, 1) := by decide +kernel
theorem dX0_fillEnough_76 : decode cX0_fillEnough 76 = .ok (.iinc 3 1, 3) := by decide +kernel
theorem dX0_fillEnough_79 : decode cX0_fillEnough 79 = .ok (.goto (-77), 3) := by decide +kernel
theorem dX0_fillEnough_82 : decode cX0_fillEnough 82 = .ok (.return_, 1) := by decide +kernel
theorem dX0_share_0 : decode cX0_share 0 = .ok (.iload_n 1, 1) := by decide +kernel
theorem dX0_share_1 : decode cX0_share 1 = .ok (.bipush 64, 2) := by decide +kernel
theorem dX0_share_3 : decode cX0_share 3 = .ok (.invokestatic 73, 3) := by decide +kernel
theorem dX0_share_6 : decode cX0_share 6 = .ok (.iconst 1, 1) := by decide +kernel
theorem dX0_share_7 : decode cX0_share 7 = .ok (.isub, 1) := by decide +kernel
theorem dX0_share_8 : decode cX0_share 8 = .ok (.istore_n 2, 1) := by decide +kernel
theorem dX0_share_9 : decode cX0_share 9 = .ok (.iload_n 2, 1) := by decide +kernel
theorem dX0_share_10 : decode cX0_share 10 = .ok (.ifCond .lt 76, 3) := by decide +kernel
theorem dX0_share_13 : decode cX0_share 13 = .ok (.iconst 0, 1) := by decide +kernel
theorem dX0_share_14 : decode cX0_share 14 = .ok (.istore_n 3, 1) := by decide +kernel
theorem dX0_share_15 : decode cX0_share 15 = .ok (.iconst 0, 1) := by decide +kernel
theorem dX0_share_16 : decode cX0_share 16 = .ok (.istore 4, 2) := by decide +kernel
theorem dX0_share_18 : decode cX0_share 18 = .ok (.iload 4, 2) := by decide +kernel
theorem dX0_share_20 : decode cX0_share 20 = .ok (.iload_n 2, 1) := by decide +kernel
theorem dX0_share_21 : decode cX0_share 21 = .ok (.if_icmp .gt 52, 3) := by decide +kernel
theorem dX0_share_24 : decode cX0_share 24 = .ok (.iload_n 3, 1) := by decide +kernel
theorem dX0_share_25 : decode cX0_share 25 = .ok (.ifCond .ne 48, 3) := by decide +kernel
theorem dX0_share_28 : decode cX0_share 28 = .ok (.iload 4, 2) := by decide +kernel
theorem dX0_share_30 : decode cX0_share 30 = .ok (.iload_n 2, 1) := by decide +kernel
theorem dX0_share_31 : decode cX0_share 31 = .ok (.iconst (-1), 1) := by decide +kernel
theorem dX0_share_32 : decode cX0_share 32 = .ok (.ixor, 1) := by decide +kernel
theorem dX0_share_33 : decode cX0_share 33 = .ok (.iand, 1) := by decide +kernel
theorem dX0_share_34 : decode cX0_share 34 = .ok (.ifCond .ne 31, 3) := by decide +kernel
theorem dX0_share_37 : decode cX0_share 37 = .ok (.aload_n 0, 1) := by decide +kernel
theorem dX0_share_38 : decode cX0_share 38 = .ok (.getfield 15, 3) := by decide +kernel
theorem dX0_share_41 : decode cX0_share 41 = .ok (.iload 4, 2) := by decide +kernel
theorem dX0_share_43 : decode cX0_share 43 = .ok (.baload, 1) := by decide +kernel
theorem dX0_share_44 : decode cX0_share 44 = .ok (.ifCond .eq 21, 3) := by decide +kernel
theorem dX0_share_47 : decode cX0_share 47 = .ok (.aload_n 0, 1) := by decide +kernel
theorem dX0_share_48 : decode cX0_share 48 = .ok (.getfield 11, 3) := by decide +kernel
theorem dX0_share_51 : decode cX0_share 51 = .ok (.iload_n 2, 1) := by decide +kernel
theorem dX0_share_52 : decode cX0_share 52 = .ok (.iload 4, 2) := by decide +kernel
theorem dX0_share_54 : decode cX0_share 54 = .ok (.iconst (-1), 1) := by decide +kernel
theorem dX0_share_55 : decode cX0_share 55 = .ok (.ixor, 1) := by decide +kernel
theorem dX0_share_56 : decode cX0_share 56 = .ok (.iand, 1) := by decide +kernel
theorem dX0_share_57 : decode cX0_share 57 = .ok (.baload, 1) := by decide +kernel
theorem dX0_share_58 : decode cX0_share 58 = .ok (.ifCond .eq 7, 3) := by decide +kernel
theorem dX0_share_61 : decode cX0_share 61 = .ok (.iconst 1, 1) := by decide +kernel
theorem dX0_share_62 : decode cX0_share 62 = .ok (.goto 4, 3) := by decide +kernel
theorem dX0_share_65 : decode cX0_share 65 = .ok (.iconst 0, 1) := by decide +kernel
theorem dX0_share_66 : decode cX0_share 66 = .ok (.istore_n 3, 1) := by decide +kernel
theorem dX0_share_67 : decode cX0_share 67 = .ok (.iinc 4 1, 3) := by decide +kernel
theorem dX0_share_70 : decode cX0_share 70 = .ok (.goto (-52), 3) := by decide +kernel
theorem dX0_share_73 : decode cX0_share 73 = .ok (.aload_n 0, 1) := by decide +kernel
theorem dX0_share_74 : decode cX0_share 74 = .ok (.getfield 11, 3) := by decide +kernel
theorem dX0_share_77 : decode cX0_share 77 = .ok (.iload_n 2, 1) := by decide +kernel
theorem dX0_share_78 : decode cX0_share 78 = .ok (.iload_n 3, 1) := by decide +kernel
theorem dX0_share_79 : decode cX0_share 79 = .ok (.bastore, 1) := by decide +kernel
theorem dX0_share_80 : decode cX0_share 80 = .ok (.iinc 2 (-1), 3) := by decide +kernel
theorem dX0_share_83 : decode cX0_share 83 = .ok (.goto (-74), 3) := by decide +kernel
theorem dX0_share_86 : decode cX0_share 86 = .ok (.return_, 1) := by decide +kernel
theorem dX0_bestTwo_0 : decode cX0_bestTwo 0 = .ok (.bipush (-9), 2) := by decide +kernel
theorem dX0_bestTwo_2 : decode cX0_bestTwo 2 = .ok (.istore_n 3, 1) := by decide +kernel
theorem dX0_bestTwo_3 : decode cX0_bestTwo 3 = .ok (.iconst 0, 1) := by decide +kernel
theorem dX0_bestTwo_4 : decode cX0_bestTwo 4 = .ok (.istore 4, 2) := by decide +kernel
theorem dX0_bestTwo_6 : decode cX0_bestTwo 6 = .ok (.iconst 1, 1) := by decide +kernel
theorem dX0_bestTwo_7 : decode cX0_bestTwo 7 = .ok (.istore 5, 2) := by decide +kernel
theorem dX0_bestTwo_9 : decode cX0_bestTwo 9 = .ok (.iconst 0, 1) := by decide +kernel
theorem dX0_bestTwo_10 : decode cX0_bestTwo 10 = .ok (.istore 6, 2) := by decide +kernel
theorem dX0_bestTwo_12 : decode cX0_bestTwo 12 = .ok (.iload 6, 2) := by decide +kernel
theorem dX0_bestTwo_14 : decode cX0_bestTwo 14 = .ok (.aload_n 1, 1) := by decide +kernel
theorem dX0_bestTwo_15 : decode cX0_bestTwo 15 = .ok (.getfield 25, 3) := by decide +kernel
theorem dX0_bestTwo_18 : decode cX0_bestTwo 18 = .ok (.if_icmp .ge 139, 3) := by decide +kernel
theorem dX0_bestTwo_21 : decode cX0_bestTwo 21 = .ok (.iload 6, 2) := by decide +kernel
theorem dX0_bestTwo_23 : decode cX0_bestTwo 23 = .ok (.iconst 1, 1) := by decide +kernel
theorem dX0_bestTwo_24 : decode cX0_bestTwo 24 = .ok (.iadd, 1) := by decide +kernel
theorem dX0_bestTwo_25 : decode cX0_bestTwo 25 = .ok (.istore 7, 2) := by decide +kernel
theorem dX0_bestTwo_27 : decode cX0_bestTwo 27 = .ok (.iload 7, 2) := by decide +kernel
theorem dX0_bestTwo_29 : decode cX0_bestTwo 29 = .ok (.aload_n 1, 1) := by decide +kernel
theorem dX0_bestTwo_30 : decode cX0_bestTwo 30 = .ok (.getfield 25, 3) := by decide +kernel
theorem dX0_bestTwo_33 : decode cX0_bestTwo 33 = .ok (.if_icmp .ge 118, 3) := by decide +kernel
theorem dX0_bestTwo_36 : decode cX0_bestTwo 36 = .ok (.aload_n 0, 1) := by decide +kernel
theorem dX0_bestTwo_37 : decode cX0_bestTwo 37 = .ok (.getfield 21, 3) := by decide +kernel
theorem dX0_bestTwo_40 : decode cX0_bestTwo 40 = .ok (.aload_n 2, 1) := by decide +kernel
theorem dX0_bestTwo_41 : decode cX0_bestTwo 41 = .ok (.invokevirtual 57, 3) := by decide +kernel
theorem dX0_bestTwo_44 : decode cX0_bestTwo 44 = .ok (.aload_n 0, 1) := by decide +kernel
theorem dX0_bestTwo_45 : decode cX0_bestTwo 45 = .ok (.getfield 21, 3) := by decide +kernel
theorem dX0_bestTwo_48 : decode cX0_bestTwo 48 = .ok (.iload 6, 2) := by decide +kernel
theorem dX0_bestTwo_50 : decode cX0_bestTwo 50 = .ok (.aload_n 1, 1) := by decide +kernel
theorem dX0_bestTwo_51 : decode cX0_bestTwo 51 = .ok (.getfield 61, 3) := by decide +kernel
theorem dX0_bestTwo_54 : decode cX0_bestTwo 54 = .ok (.iload 6, 2) := by decide +kernel
theorem dX0_bestTwo_56 : decode cX0_bestTwo 56 = .ok (.aaload, 1) := by decide +kernel
theorem dX0_bestTwo_57 : decode cX0_bestTwo 57 = .ok (.bipush 12, 2) := by decide +kernel
theorem dX0_bestTwo_59 : decode cX0_bestTwo 59 = .ok (.iconst 0, 1) := by decide +kernel
theorem dX0_bestTwo_60 : decode cX0_bestTwo 60 = .ok (.invokevirtual 65, 3) := by decide +kernel
theorem dX0_bestTwo_63 : decode cX0_bestTwo 63 = .ok (.aload_n 0, 1) := by decide +kernel
theorem dX0_bestTwo_64 : decode cX0_bestTwo 64 = .ok (.getfield 21, 3) := by decide +kernel
theorem dX0_bestTwo_67 : decode cX0_bestTwo 67 = .ok (.iload 7, 2) := by decide +kernel
theorem dX0_bestTwo_69 : decode cX0_bestTwo 69 = .ok (.aload_n 1, 1) := by decide +kernel
theorem dX0_bestTwo_70 : decode cX0_bestTwo 70 = .ok (.getfield 61, 3) := by decide +kernel
theorem dX0_bestTwo_73 : decode cX0_bestTwo 73 = .ok (.iload 7, 2) := by decide +kernel
theorem dX0_bestTwo_75 : decode cX0_bestTwo 75 = .ok (.aaload, 1) := by decide +kernel
theorem dX0_bestTwo_76 : decode cX0_bestTwo 76 = .ok (.bipush 12, 2) := by decide +kernel
theorem dX0_bestTwo_78 : decode cX0_bestTwo 78 = .ok (.iconst 0, 1) := by decide +kernel
theorem dX0_bestTwo_79 : decode cX0_bestTwo 79 = .ok (.invokevirtual 65, 3) := by decide +kernel
theorem dX0_bestTwo_82 : decode cX0_bestTwo 82 = .ok (.aload_n 0, 1) := by decide +kernel
theorem dX0_bestTwo_83 : decode cX0_bestTwo 83 = .ok (.getfield 21, 3) := by decide +kernel
theorem dX0_bestTwo_86 : decode cX0_bestTwo 86 = .ok (.invokevirtual 79, 3) := by decide +kernel
theorem dX0_bestTwo_89 : decode cX0_bestTwo 89 = .ok (.iload_n 3, 1) := by decide +kernel
theorem dX0_bestTwo_90 : decode cX0_bestTwo 90 = .ok (.bipush (-9), 2) := by decide +kernel
theorem dX0_bestTwo_92 : decode cX0_bestTwo 92 = .ok (.if_icmp .eq 26, 3) := by decide +kernel
theorem dX0_bestTwo_95 : decode cX0_bestTwo 95 = .ok (.aload_n 0, 1) := by decide +kernel
theorem dX0_bestTwo_96 : decode cX0_bestTwo 96 = .ok (.getfield 21, 3) := by decide +kernel
theorem dX0_bestTwo_99 : decode cX0_bestTwo 99 = .ok (.getfield 82, 3) := by decide +kernel
theorem dX0_bestTwo_102 : decode cX0_bestTwo 102 = .ok (.iload 5, 2) := by decide +kernel
theorem dX0_bestTwo_104 : decode cX0_bestTwo 104 = .ok (.imul, 1) := by decide +kernel
theorem dX0_bestTwo_105 : decode cX0_bestTwo 105 = .ok (.iload 4, 2) := by decide +kernel
theorem dX0_bestTwo_107 : decode cX0_bestTwo 107 = .ok (.aload_n 0, 1) := by decide +kernel
theorem dX0_bestTwo_108 : decode cX0_bestTwo 108 = .ok (.getfield 21, 3) := by decide +kernel
theorem dX0_bestTwo_111 : decode cX0_bestTwo 111 = .ok (.getfield 85, 3) := by decide +kernel
theorem dX0_bestTwo_114 : decode cX0_bestTwo 114 = .ok (.imul, 1) := by decide +kernel
theorem dX0_bestTwo_115 : decode cX0_bestTwo 115 = .ok (.if_icmp .le 30, 3) := by decide +kernel
theorem dX0_bestTwo_118 : decode cX0_bestTwo 118 = .ok (.bipush 10, 2) := by decide +kernel
theorem dX0_bestTwo_120 : decode cX0_bestTwo 120 = .ok (.iload 6, 2) := by decide +kernel
theorem dX0_bestTwo_122 : decode cX0_bestTwo 122 = .ok (.imul, 1) := by decide +kernel
theorem dX0_bestTwo_123 : decode cX0_bestTwo 123 = .ok (.iload 7, 2) := by decide +kernel
theorem dX0_bestTwo_125 : decode cX0_bestTwo 125 = .ok (.iadd, 1) := by decide +kernel
theorem dX0_bestTwo_126 : decode cX0_bestTwo 126 = .ok (.istore_n 3, 1) := by decide +kernel
theorem dX0_bestTwo_127 : decode cX0_bestTwo 127 = .ok (.aload_n 0, 1) := by decide +kernel
theorem dX0_bestTwo_128 : decode cX0_bestTwo 128 = .ok (.getfield 21, 3) := by decide +kernel
theorem dX0_bestTwo_131 : decode cX0_bestTwo 131 = .ok (.getfield 82, 3) := by decide +kernel
theorem dX0_bestTwo_134 : decode cX0_bestTwo 134 = .ok (.istore 4, 2) := by decide +kernel
theorem dX0_bestTwo_136 : decode cX0_bestTwo 136 = .ok (.aload_n 0, 1) := by decide +kernel
theorem dX0_bestTwo_137 : decode cX0_bestTwo 137 = .ok (.getfield 21, 3) := by decide +kernel
theorem dX0_bestTwo_140 : decode cX0_bestTwo 140 = .ok (.getfield 85, 3) := by decide +kernel
theorem dX0_bestTwo_143 : decode cX0_bestTwo 143 = .ok (.istore 5, 2) := by decide +kernel
theorem dX0_bestTwo_145 : decode cX0_bestTwo 145 = .ok (.iinc 7 1, 3) := by decide +kernel
theorem dX0_bestTwo_148 : decode cX0_bestTwo 148 = .ok (.goto (-121), 3) := by decide +kernel
theorem dX0_bestTwo_151 : decode cX0_bestTwo 151 = .ok (.iinc 6 1, 3) := by decide +kernel
theorem dX0_bestTwo_154 : decode cX0_bestTwo 154 = .ok (.goto (-142), 3) := by decide +kernel
theorem dX0_bestTwo_157 : decode cX0_bestTwo 157 = .ok (.iload_n 3, 1) := by decide +kernel
theorem dX0_bestTwo_158 : decode cX0_bestTwo 158 = .ok (.ireturn, 1) := by decide +kernel
theorem dX1_init_0 : decode cX1_init 0 = .ok (.aload_n 0, 1) := by decide +kernel
theorem dX1_init_1 : decode cX1_init 1 = .ok (.invokespecial 3, 3) := by decide +kernel
theorem dX1_init_4 : decode cX1_init 4 = .ok (.aload_n 0, 1) := by decide +kernel
theorem dX1_init_5 : decode cX1_init 5 = .ok (.iconst 3, 1) := by decide +kernel
theorem dX1_init_6 : decode cX1_init 6 = .ok (.newarray .int, 2) := by decide +kernel
theorem dX1_init_8 : decode cX1_init 8 = .ok (.putfield 9, 3) := by decide +kernel
theorem dX1_init_11 : decode cX1_init 11 = .ok (.aload_n 0, 1) := by decide +kernel
theorem dX1_init_12 : decode cX1_init 12 = .ok (.iconst 3, 1) := by decide +kernel
theorem dX1_init_13 : decode cX1_init 13 = .ok (.newarray .int, 2) := by decide +kernel
theorem dX1_init_15 : decode cX1_init 15 = .ok (.putfield 15, 3) := by decide +kernel
theorem dX1_init_18 : decode cX1_init 18 = .ok (.aload_n 0, 1) := by decide +kernel
theorem dX1_init_19 : decode cX1_init 19 = .ok (.iconst 1, 1) := by decide +kernel
theorem dX1_init_20 : decode cX1_init 20 = .ok (.putfield 18, 3) := by decide +kernel
theorem dX1_init_23 : decode cX1_init 23 = .ok (.return_, 1) := by decide +kernel
theorem dX1_begin_0 : decode cX1_begin 0 = .ok (.aload_n 0, 1) := by decide +kernel
theorem dX1_begin_1 : decode cX1_begin 1 = .ok (.aload_n 1, 1) := by decide +kernel
theorem dX1_begin_2 : decode cX1_begin 2 = .ok (.getfield 22, 3) := by decide +kernel
theorem dX1_begin_5 : decode cX1_begin 5 = .ok (.putfield 27, 3) := by decide +kernel
theorem dX1_begin_8 : decode cX1_begin 8 = .ok (.aload_n 0, 1) := by decide +kernel
theorem dX1_begin_9 : decode cX1_begin 9 = .ok (.iconst 0, 1) := by decide +kernel
theorem dX1_begin_10 : decode cX1_begin 10 = .ok (.putfield 28, 3) := by decide +kernel
theorem dX1_begin_13 : decode cX1_begin 13 = .ok (.iconst 0, 1) := by decide +kernel
theorem dX1_begin_14 : decode cX1_begin 14 = .ok (.istore_n 2, 1) := by decide +kernel
theorem dX1_begin_15 : decode cX1_begin 15 = .ok (.iload_n 2, 1) := by decide +kernel
theorem dX1_begin_16 : decode cX1_begin 16 = .ok (.iconst 3, 1) := by decide +kernel
theorem dX1_begin_17 : decode cX1_begin 17 = .ok (.if_icmp .ge 28, 3) := by decide +kernel
theorem dX1_begin_20 : decode cX1_begin 20 = .ok (.aload_n 0, 1) := by decide +kernel
theorem dX1_begin_21 : decode cX1_begin 21 = .ok (.getfield 9, 3) := by decide +kernel
theorem dX1_begin_24 : decode cX1_begin 24 = .ok (.iload_n 2, 1) := by decide +kernel
theorem dX1_begin_25 : decode cX1_begin 25 = .ok (.aload_n 1, 1) := by decide +kernel
theorem dX1_begin_26 : decode cX1_begin 26 = .ok (.getfield 31, 3) := by decide +kernel
theorem dX1_begin_29 : decode cX1_begin 29 = .ok (.iload_n 2, 1) := by decide +kernel
theorem dX1_begin_30 : decode cX1_begin 30 = .ok (.iaload, 1) := by decide +kernel
theorem dX1_begin_31 : decode cX1_begin 31 = .ok (.iastore, 1) := by decide +kernel
theorem dX1_begin_32 : decode cX1_begin 32 = .ok (.aload_n 0, 1) := by decide +kernel
theorem dX1_begin_33 : decode cX1_begin 33 = .ok (.getfield 15, 3) := by decide +kernel
theorem dX1_begin_36 : decode cX1_begin 36 = .ok (.iload_n 2, 1) := by decide +kernel
theorem dX1_begin_37 : decode cX1_begin 37 = .ok (.iconst 0, 1) := by decide +kernel
theorem dX1_begin_38 : decode cX1_begin 38 = .ok (.iastore, 1) := by decide +kernel
theorem dX1_begin_39 : decode cX1_begin 39 = .ok (.iinc 2 1, 3) := by decide +kernel
theorem dX1_begin_42 : decode cX1_begin 42 = .ok (.goto (-27), 3) := by decide +kernel
theorem dX1_begin_45 : decode cX1_begin 45 = .ok (.return_, 1) := by decide +kernel
theorem dX1_stand_0 : decode cX1_stand 0 = .ok (.aload_n 0, 1) := by decide +kernel
theorem dX1_stand_1 : decode cX1_stand 1 = .ok (.dup, 1) := by decide +kernel
theorem dX1_stand_2 : decode cX1_stand 2 = .ok (.getfield 28, 3) := by decide +kernel
theorem dX1_stand_5 : decode cX1_stand 5 = .ok (.iconst 1, 1) := by decide +kernel
theorem dX1_stand_6 : decode cX1_stand 6 = .ok (.iload_n 1, 1) := by decide +kernel
theorem dX1_stand_7 : decode cX1_stand 7 = .ok (.ishl, 1) := by decide +kernel
theorem dX1_stand_8 : decode cX1_stand 8 = .ok (.ior, 1) := by decide +kernel
theorem dX1_stand_9 : decode cX1_stand 9 = .ok (.putfield 28, 3) := by decide +kernel
theorem dX1_stand_12 : decode cX1_stand 12 = .ok (.return_, 1) := by decide +kernel
theorem dX1_add_0 : decode cX1_add 0 = .ok (.aload_n 0, 1) := by decide +kernel
theorem dX1_add_1 : decode cX1_add 1 = .ok (.dup, 1) := by decide +kernel
theorem dX1_add_2 : decode cX1_add 2 = .ok (.getfield 28, 3) := by decide +kernel
theorem dX1_add_5 : decode cX1_add 5 = .ok (.iconst 1, 1) := by decide +kernel
theorem dX1_add_6 : decode cX1_add 6 = .ok (.iload_n 1, 1) := by decide +kernel
theorem dX1_add_7 : decode cX1_add 7 = .ok (.ishl, 1) := by decide +kernel
theorem dX1_add_8 : decode cX1_add 8 = .ok (.ior, 1) := by decide +kernel
theorem dX1_add_9 : decode cX1_add 9 = .ok (.putfield 28, 3) := by decide +kernel
theorem dX1_add_12 : decode cX1_add 12 = .ok (.iload 4, 2) := by decide +kernel
theorem dX1_add_14 : decode cX1_add 14 = .ok (.sipush 240, 3) := by decide +kernel
theorem dX1_add_17 : decode cX1_add 17 = .ok (.if_icmp .gt 15, 3) := by decide +kernel
theorem dX1_add_20 : decode cX1_add 20 = .ok (.iload_n 3, 1) := by decide +kernel
theorem dX1_add_21 : decode cX1_add 21 = .ok (.getstatic 32, 3) := by decide +kernel
theorem dX1_add_24 : decode cX1_add 24 = .ok (.aload_n 0, 1) := by decide +kernel
theorem dX1_add_25 : decode cX1_add 25 = .ok (.getfield 27, 3) := by decide +kernel
theorem dX1_add_28 : decode cX1_add 28 = .ok (.iaload, 1) := by decide +kernel
theorem dX1_add_29 : decode cX1_add 29 = .ok (.if_icmp .ge 4, 3) := by decide +kernel
theorem dX1_add_32 : decode cX1_add 32 = .ok (.return_, 1) := by decide +kernel
theorem dX1_add_33 : decode cX1_add 33 = .ok (.aload_n 2, 1) := by decide +kernel
theorem dX1_add_34 : decode cX1_add 34 = .ok (.getfield 35, 3) := by decide +kernel
theorem dX1_add_37 : decode cX1_add 37 = .ok (.iconst 0, 1) := by decide +kernel
theorem dX1_add_38 : decode cX1_add 38 = .ok (.iaload, 1) := by decide +kernel
theorem dX1_add_39 : decode cX1_add 39 = .ok (.istore 5, 2) := by decide +kernel
theorem dX1_add_41 : decode cX1_add 41 = .ok (.aload_n 0, 1) := by decide +kernel
theorem dX1_add_42 : decode cX1_add 42 = .ok (.getfield 27, 3) := by decide +kernel
theorem dX1_add_45 : decode cX1_add 45 = .ok (.iconst 5, 1) := by decide +kernel
theorem dX1_add_46 : decode cX1_add 46 = .ok (.if_icmp .ne 21, 3) := by decide +kernel
theorem dX1_add_49 : decode cX1_add 49 = .ok (.iload 5, 2) := by decide +kernel
theorem dX1_add_51 : decode cX1_add 51 = .ok (.iload 4, 2) := by decide +kernel
theorem dX1_add_53 : decode cX1_add 53 = .ok (.if_icmp .le 11, 3) := by decide +kernel
theorem dX1_add_56 : decode cX1_add 56 = .ok (.iload 5, 2) := by decide +kernel
theorem dX1_add_58 : decode cX1_add 58 = .ok (.iload 4, 2) := by decide +kernel
theorem dX1_add_60 : decode cX1_add 60 = .ok (.isub, 1) := by decide +kernel
theorem dX1_add_61 : decode cX1_add 61 = .ok (.goto 4, 3) := by decide +kernel
theorem dX1_add_64 : decode cX1_add 64 = .ok (.iconst 0, 1) := by decide +kernel
theorem dX1_add_65 : decode cX1_add 65 = .ok (.istore 5, 2) := by decide +kernel
theorem dX1_add_67 : decode cX1_add 67 = .ok (.aload_n 2, 1) := by decide +kernel
theorem dX1_add_68 : decode cX1_add 68 = .ok (.getfield 35, 3) := by decide +kernel
theorem dX1_add_71 : decode cX1_add 71 = .ok (.iconst 1, 1) := by decide +kernel
theorem dX1_add_72 : decode cX1_add 72 = .ok (.iaload, 1) := by decide +kernel
theorem dX1_add_73 : decode cX1_add 73 = .ok (.istore 6, 2) := by decide +kernel
theorem dX1_add_75 : decode cX1_add 75 = .ok (.aload_n 0, 1) := by decide +kernel
theorem dX1_add_76 : decode cX1_add 76 = .ok (.getfield 27, 3) := by decide +kernel
theorem dX1_add_79 : decode cX1_add 79 = .ok (.iconst 4, 1) := by decide +kernel
theorem dX1_add_80 : decode cX1_add 80 = .ok (.if_icmp .ne 9, 3) := by decide +kernel
theorem dX1_add_83 : decode cX1_add 83 = .ok (.iconst 2, 1) := by decide +kernel
theorem dX1_add_84 : decode cX1_add 84 = .ok (.iload 6, 2) := by decide +kernel
theorem dX1_add_86 : decode cX1_add 86 = .ok (.imul, 1) := by decide +kernel
theorem dX1_add_87 : decode cX1_add 87 = .ok (.istore 6, 2) := by decide +kernel
theorem dX1_add_89 : decode cX1_add 89 = .ok (.aload_n 0, 1) := by decide +kernel
theorem dX1_add_90 : decode cX1_add 90 = .ok (.getfield 15, 3) := by decide +kernel
theorem dX1_add_93 : decode cX1_add 93 = .ok (.iconst 0, 1) := by decide +kernel
theorem dX1_add_94 : decode cX1_add 94 = .ok (.dup2, 1) := by decide +kernel
theorem dX1_add_95 : decode cX1_add 95 = .ok (.iaload, 1) := by decide +kernel
theorem dX1_add_96 : decode cX1_add 96 = .ok (.iload 5, 2) := by decide +kernel
theorem dX1_add_98 : decode cX1_add 98 = .ok (.iload_n 3, 1) := by decide +kernel
theorem dX1_add_99 : decode cX1_add 99 = .ok (.imul, 1) := by decide +kernel
theorem dX1_add_100 : decode cX1_add 100 = .ok (.iadd, 1) := by decide +kernel
theorem dX1_add_101 : decode cX1_add 101 = .ok (.iastore, 1) := by decide +kernel
theorem dX1_add_102 : decode cX1_add 102 = .ok (.aload_n 0, 1) := by decide +kernel
theorem dX1_add_103 : decode cX1_add 103 = .ok (.getfield 15, 3) := by decide +kernel
theorem dX1_add_106 : decode cX1_add 106 = .ok (.iconst 1, 1) := by decide +kernel
theorem dX1_add_107 : decode cX1_add 107 = .ok (.dup2, 1) := by decide +kernel
theorem dX1_add_108 : decode cX1_add 108 = .ok (.iaload, 1) := by decide +kernel
theorem dX1_add_109 : decode cX1_add 109 = .ok (.iload 6, 2) := by decide +kernel
theorem dX1_add_111 : decode cX1_add 111 = .ok (.iload_n 3, 1) := by decide +kernel
theorem dX1_add_112 : decode cX1_add 112 = .ok (.imul, 1) := by decide +kernel
theorem dX1_add_113 : decode cX1_add 113 = .ok (.iadd, 1) := by decide +kernel
theorem dX1_add_114 : decode cX1_add 114 = .ok (.iastore, 1) := by decide +kernel
theorem dX1_add_115 : decode cX1_add 115 = .ok (.aload_n 0, 1) := by decide +kernel
theorem dX1_add_116 : decode cX1_add 116 = .ok (.getfield 15, 3) := by decide +kernel
theorem dX1_add_119 : decode cX1_add 119 = .ok (.iconst 2, 1) := by decide +kernel
theorem dX1_add_120 : decode cX1_add 120 = .ok (.dup2, 1) := by decide +kernel
theorem dX1_add_121 : decode cX1_add 121 = .ok (.iaload, 1) := by decide +kernel
theorem dX1_add_122 : decode cX1_add 122 = .ok (.aload_n 2, 1) := by decide +kernel
theorem dX1_add_123 : decode cX1_add 123 = .ok (.getfield 35, 3) := by decide +kernel
theorem dX1_add_126 : decode cX1_add 126 = .ok (.iconst 2, 1) := by decide +kernel
theorem dX1_add_127 : decode cX1_add 127 = .ok (.iaload, 1) := by decide +kernel
theorem dX1_add_128 : decode cX1_add 128 = .ok (.iload_n 3, 1) := by decide +kernel
theorem dX1_add_129 : decode cX1_add 129 = .ok (.imul, 1) := by decide +kernel
theorem dX1_add_130 : decode cX1_add 130 = .ok (.iadd, 1) := by decide +kernel
theorem dX1_add_131 : decode cX1_add 131 = .ok (.iastore, 1) := by decide +kernel
theorem dX1_add_132 : decode cX1_add 132 = .ok (.return_, 1) := by decide +kernel
theorem dX1_sum_0 : decode cX1_sum 0 = .ok (.aload_n 0, 1) := by decide +kernel
theorem dX1_sum_1 : decode cX1_sum 1 = .ok (.getfield 27, 3) := by decide +kernel
theorem dX1_sum_4 : decode cX1_sum 4 = .ok (.iconst 3, 1) := by decide +kernel
theorem dX1_sum_5 : decode cX1_sum 5 = .ok (.if_icmp .ne 30, 3) := by decide +kernel
theorem dX1_sum_8 : decode cX1_sum 8 = .ok (.aload_n 0, 1) := by decide +kernel
theorem dX1_sum_9 : decode cX1_sum 9 = .ok (.getfield 28, 3) := by decide +kernel
theorem dX1_sum_12 : decode cX1_sum 12 = .ok (.invokestatic 40, 3) := by decide +kernel
theorem dX1_sum_15 : decode cX1_sum 15 = .ok (.iconst 2, 1) := by decide +kernel
theorem dX1_sum_16 : decode cX1_sum 16 = .ok (.if_icmp .lt 19, 3) := by decide +kernel
theorem dX1_sum_19 : decode cX1_sum 19 = .ok (.aload_n 0, 1) := by decide +kernel
theorem dX1_sum_20 : decode cX1_sum 20 = .ok (.getfield 15, 3) := by decide +kernel
theorem dX1_sum_23 : decode cX1_sum 23 = .ok (.iload_n 1, 1) := by decide +kernel
theorem dX1_sum_24 : decode cX1_sum 24 = .ok (.iaload, 1) := by decide +kernel
theorem dX1_sum_25 : decode cX1_sum 25 = .ok (.aload_n 0, 1) := by decide +kernel
theorem dX1_sum_26 : decode cX1_sum 26 = .ok (.getfield 15, 3) := by decide +kernel
theorem dX1_sum_29 : decode cX1_sum 29 = .ok (.iload_n 1, 1) := by decide +kernel
theorem dX1_sum_30 : decode cX1_sum 30 = .ok (.iaload, 1) := by decide +kernel
theorem dX1_sum_31 : decode cX1_sum 31 = .ok (.iconst 2, 1) := by decide +kernel
theorem dX1_sum_32 : decode cX1_sum 32 = .ok (.idiv, 1) := by decide +kernel
theorem dX1_sum_33 : decode cX1_sum 33 = .ok (.iadd, 1) := by decide +kernel
theorem dX1_sum_34 : decode cX1_sum 34 = .ok (.ireturn, 1) := by decide +kernel
theorem dX1_sum_35 : decode cX1_sum 35 = .ok (.aload_n 0, 1) := by decide +kernel
theorem dX1_sum_36 : decode cX1_sum 36 = .ok (.getfield 15, 3) := by decide +kernel
theorem dX1_sum_39 : decode cX1_sum 39 = .ok (.iload_n 1, 1) := by decide +kernel
theorem dX1_sum_40 : decode cX1_sum 40 = .ok (.iaload, 1) := by decide +kernel
theorem dX1_sum_41 : decode cX1_sum 41 = .ok (.ireturn, 1) := by decide +kernel
theorem dX1_isDone_0 : decode cX1_isDone 0 = .ok (.iconst 0, 1) := by decide +kernel
theorem dX1_isDone_1 : decode cX1_isDone 1 = .ok (.istore_n 1, 1) := by decide +kernel
theorem dX1_isDone_2 : decode cX1_isDone 2 = .ok (.iload_n 1, 1) := by decide +kernel
theorem dX1_isDone_3 : decode cX1_isDone 3 = .ok (.iconst 3, 1) := by decide +kernel
theorem dX1_isDone_4 : decode cX1_isDone 4 = .ok (.if_icmp .ge 28, 3) := by decide +kernel
theorem dX1_isDone_7 : decode cX1_isDone 7 = .ok (.aload_n 0, 1) := by decide +kernel
theorem dX1_isDone_8 : decode cX1_isDone 8 = .ok (.iload_n 1, 1) := by decide +kernel
theorem dX1_isDone_9 : decode cX1_isDone 9 = .ok (.invokevirtual 46, 3) := by decide +kernel
theorem dX1_isDone_12 : decode cX1_isDone 12 = .ok (.bipush 12, 2) := by decide +kernel
theorem dX1_isDone_14 : decode cX1_isDone 14 = .ok (.aload_n 0, 1) := by decide +kernel
theorem dX1_isDone_15 : decode cX1_isDone 15 = .ok (.getfield 9, 3) := by decide +kernel
theorem dX1_isDone_18 : decode cX1_isDone 18 = .ok (.iload_n 1, 1) := by decide +kernel
theorem dX1_isDone_19 : decode cX1_isDone 19 = .ok (.iaload, 1) := by decide +kernel
theorem dX1_isDone_20 : decode cX1_isDone 20 = .ok (.imul, 1) := by decide +kernel
theorem dX1_isDone_21 : decode cX1_isDone 21 = .ok (.if_icmp .ge 5, 3) := by decide +kernel
theorem dX1_isDone_24 : decode cX1_isDone 24 = .ok (.iconst 0, 1) := by decide +kernel
theorem dX1_isDone_25 : decode cX1_isDone 25 = .ok (.ireturn, 1) := by decide +kernel
theorem dX1_isDone_26 : decode cX1_isDone 26 = .ok (.iinc 1 1, 3) := by decide +kernel
theorem dX1_isDone_29 : decode cX1_isDone 29 = .ok (.goto (-27), 3) := by decide +kernel
theorem dX1_isDone_32 : decode cX1_isDone 32 = .ok (.iconst 1, 1) := by decide +kernel
theorem dX1_isDone_33 : decode cX1_isDone 33 = .ok (.ireturn, 1) := by decide +kernel
theorem dX1_weigh_0 : decode cX1_weigh 0 = .ok (.aload_n 0, 1) := by decide +kernel
theorem dX1_weigh_1 : decode cX1_weigh 1 = .ok (.iconst 1, 1) := by decide +kernel
theorem dX1_weigh_2 : decode cX1_weigh 2 = .ok (.putfield 49, 3) := by decide +kernel
theorem dX1_weigh_5 : decode cX1_weigh 5 = .ok (.aload_n 0, 1) := by decide +kernel
theorem dX1_weigh_6 : decode cX1_weigh 6 = .ok (.iconst 1, 1) := by decide +kernel
theorem dX1_weigh_7 : decode cX1_weigh 7 = .ok (.putfield 18, 3) := by decide +kernel
theorem dX1_weigh_10 : decode cX1_weigh 10 = .ok (.iconst 0, 1) := by decide +kernel
theorem dX1_weigh_11 : decode cX1_weigh 11 = .ok (.istore_n 1, 1) := by decide +kernel
theorem dX1_weigh_12 : decode cX1_weigh 12 = .ok (.iload_n 1, 1) := by decide +kernel
theorem dX1_weigh_13 : decode cX1_weigh 13 = .ok (.iconst 3, 1) := by decide +kernel
theorem dX1_weigh_14 : decode cX1_weigh 14 = .ok (.if_icmp .ge 56, 3) := by decide +kernel
theorem dX1_weigh_17 : decode cX1_weigh 17 = .ok (.bipush 12, 2) := by decide +kernel
theorem dX1_weigh_19 : decode cX1_weigh 19 = .ok (.aload_n 0, 1) := by decide +kernel
theorem dX1_weigh_20 : decode cX1_weigh 20 = .ok (.getfield 9, 3) := by decide +kernel
theorem dX1_weigh_23 : decode cX1_weigh 23 = .ok (.iload_n 1, 1) := by decide +kernel
theorem dX1_weigh_24 : decode cX1_weigh 24 = .ok (.iaload, 1) := by decide +kernel
theorem dX1_weigh_25 : decode cX1_weigh 25 = .ok (.imul, 1) := by decide +kernel
theorem dX1_weigh_26 : decode cX1_weigh 26 = .ok (.istore_n 2, 1) := by decide +kernel
theorem dX1_weigh_27 : decode cX1_weigh 27 = .ok (.iload_n 2, 1) := by decide +kernel
theorem dX1_weigh_28 : decode cX1_weigh 28 = .ok (.ifCond .le 36, 3) := by decide +kernel
theorem dX1_weigh_31 : decode cX1_weigh 31 = .ok (.aload_n 0, 1) := by decide +kernel
theorem dX1_weigh_32 : decode cX1_weigh 32 = .ok (.iload_n 1, 1) := by decide +kernel
theorem dX1_weigh_33 : decode cX1_weigh 33 = .ok (.invokevirtual 46, 3) := by decide +kernel
theorem dX1_weigh_36 : decode cX1_weigh 36 = .ok (.aload_n 0, 1) := by decide +kernel
theorem dX1_weigh_37 : decode cX1_weigh 37 = .ok (.getfield 18, 3) := by decide +kernel
theorem dX1_weigh_40 : decode cX1_weigh 40 = .ok (.imul, 1) := by decide +kernel
theorem dX1_weigh_41 : decode cX1_weigh 41 = .ok (.aload_n 0, 1) := by decide +kernel
theorem dX1_weigh_42 : decode cX1_weigh 42 = .ok (.getfield 49, 3) := by decide +kernel
theorem dX1_weigh_45 : decode cX1_weigh 45 = .ok (.iload_n 2, 1) := by decide +kernel
theorem dX1_weigh_46 : decode cX1_weigh 46 = .ok (.imul, 1) := by decide +kernel
theorem dX1_weigh_47 : decode cX1_weigh 47 = .ok (.if_icmp .ge 17, 3) := by decide +kernel
theorem dX1_weigh_50 : decode cX1_weigh 50 = .ok (.aload_n 0, 1) := by decide +kernel
theorem dX1_weigh_51 : decode cX1_weigh 51 = .ok (.aload_n 0, 1) := by decide +kernel
theorem dX1_weigh_52 : decode cX1_weigh 52 = .ok (.iload_n 1, 1) := by decide +kernel
theorem dX1_weigh_53 : decode cX1_weigh 53 = .ok (.invokevirtual 46, 3) := by decide +kernel
theorem dX1_weigh_56 : decode cX1_weigh 56 = .ok (.putfield 49, 3) := by decide +kernel
theorem dX1_weigh_59 : decode cX1_weigh 59 = .ok (.aload_n 0, 1) := by decide +kernel
theorem dX1_weigh_60 : decode cX1_weigh 60 = .ok (.iload_n 2, 1) := by decide +kernel
theorem dX1_weigh_61 : decode cX1_weigh 61 = .ok (.putfield 18, 3) := by decide +kernel
theorem dX1_weigh_64 : decode cX1_weigh 64 = .ok (.iinc 1 1, 3) := by decide +kernel
theorem dX1_weigh_67 : decode cX1_weigh 67 = .ok (.goto (-55), 3) := by decide +kernel
theorem dX1_weigh_70 : decode cX1_weigh 70 = .ok (.lconst 1, 1) := by decide +kernel
theorem dX1_weigh_71 : decode cX1_weigh 71 = .ok (.aload_n 0, 1) := by decide +kernel
theorem dX1_weigh_72 : decode cX1_weigh 72 = .ok (.getfield 49, 3) := by decide +kernel
theorem dX1_weigh_75 : decode cX1_weigh 75 = .ok (.i2l, 1) := by decide +kernel
theorem dX1_weigh_76 : decode cX1_weigh 76 = .ok (.aload_n 0, 1) := by decide +kernel
theorem dX1_weigh_77 : decode cX1_weigh 77 = .ok (.getfield 18, 3) := by decide +kernel
theorem dX1_weigh_80 : decode cX1_weigh 80 = .ok (.i2l, 1) := by decide +kernel
theorem dX1_weigh_81 : decode cX1_weigh 81 = .ok (.invokestatic 52, 3) := by decide +kernel
theorem dX1_weigh_84 : decode cX1_weigh 84 = .ok (.invokestatic 56, 3) := by decide +kernel
theorem dX1_weigh_87 : decode cX1_weigh 87 = .ok (.l2i, 1) := by decide +kernel
theorem dX1_weigh_88 : decode cX1_weigh 88 = .ok (.istore_n 1, 1) := by decide +kernel
theorem dX1_weigh_89 : decode cX1_weigh 89 = .ok (.aload_n 0, 1) := by decide +kernel
theorem dX1_weigh_90 : decode cX1_weigh 90 = .ok (.dup, 1) := by decide +kernel
theorem dX1_weigh_91 : decode cX1_weigh 91 = .ok (.getfield 49, 3) := by decide +kernel
theorem dX1_weigh_94 : decode cX1_weigh 94 = .ok (.iload_n 1, 1) := by decide +kernel
theorem dX1_weigh_95 : decode cX1_weigh 95 = .ok (.idiv, 1) := by decide +kernel
theorem dX1_weigh_96 : decode cX1_weigh 96 = .ok (.putfield 49, 3) := by decide +kernel
theorem dX1_weigh_99 : decode cX1_weigh 99 = .ok (.aload_n 0, 1) := by decide +kernel
theorem dX1_weigh_100 : decode cX1_weigh 100 = .ok (.dup, 1) := by decide +kernel
theorem dX1_weigh_101 : decode cX1_weigh 101 = .ok (.getfield 18, 3) := by decide +kernel
theorem dX1_weigh_104 : decode cX1_weigh 104 = .ok (.iload_n 1, 1) := by decide +kernel
theorem dX1_weigh_105 : decode cX1_weigh 105 = .ok (.idiv, 1) := by decide +kernel
theorem dX1_weigh_106 : decode cX1_weigh 106 = .ok (.putfield 18, 3) := by decide +kernel
theorem dX1_weigh_109 : decode cX1_weigh 109 = .ok (.return_, 1) := by decide +kernel
theorem dX2_init_0 : decode cX2_init 0 = .ok (.aload_n 0, 1) := by decide +kernel
theorem dX2_init_1 : decode cX2_init 1 = .ok (.invokespecial 3, 3) := by decide +kernel
theorem dX2_init_4 : decode cX2_init 4 = .ok (.aload_n 0, 1) := by decide +kernel
theorem dX2_init_5 : decode cX2_init 5 = .ok (.bipush (-9), 2) := by decide +kernel
theorem dX2_init_7 : decode cX2_init 7 = .ok (.putfield 9, 3) := by decide +kernel
theorem dX2_init_10 : decode cX2_init 10 = .ok (.return_, 1) := by decide +kernel
theorem dX2_clear_0 : decode cX2_clear 0 = .ok (.aload_n 0, 1) := by decide +kernel
theorem dX2_clear_1 : decode cX2_clear 1 = .ok (.iconst 0, 1) := by decide +kernel
theorem dX2_clear_2 : decode cX2_clear 2 = .ok (.putfield 15, 3) := by decide +kernel
theorem dX2_clear_5 : decode cX2_clear 5 = .ok (.aload_n 0, 1) := by decide +kernel
theorem dX2_clear_6 : decode cX2_clear 6 = .ok (.iconst 0, 1) := by decide +kernel
theorem dX2_clear_7 : decode cX2_clear 7 = .ok (.putfield 18, 3) := by decide +kernel
theorem dX2_clear_10 : decode cX2_clear 10 = .ok (.aload_n 0, 1) := by decide +kernel
theorem dX2_clear_11 : decode cX2_clear 11 = .ok (.iconst 0, 1) := by decide +kernel
theorem dX2_clear_12 : decode cX2_clear 12 = .ok (.putfield 21, 3) := by decide +kernel
theorem dX2_clear_15 : decode cX2_clear 15 = .ok (.aload_n 0, 1) := by decide +kernel
theorem dX2_clear_16 : decode cX2_clear 16 = .ok (.bipush (-9), 2) := by decide +kernel
theorem dX2_clear_18 : decode cX2_clear 18 = .ok (.putfield 9, 3) := by decide +kernel
theorem dX2_clear_21 : decode cX2_clear 21 = .ok (.aload_n 0, 1) := by decide +kernel
theorem dX2_clear_22 : decode cX2_clear 22 = .ok (.iconst 0, 1) := by decide +kernel
theorem dX2_clear_23 : decode cX2_clear 23 = .ok (.putfield 24, 3) := by decide +kernel
theorem dX2_clear_26 : decode cX2_clear 26 = .ok (.aload_n 0, 1) := by decide +kernel
theorem dX2_clear_27 : decode cX2_clear 27 = .ok (.iconst 0, 1) := by decide +kernel
theorem dX2_clear_28 : decode cX2_clear 28 = .ok (.putfield 27, 3) := by decide +kernel
theorem dX2_clear_31 : decode cX2_clear 31 = .ok (.aload_n 0, 1) := by decide +kernel
theorem dX2_clear_32 : decode cX2_clear 32 = .ok (.iconst 0, 1) := by decide +kernel
theorem dX2_clear_33 : decode cX2_clear 33 = .ok (.putfield 30, 3) := by decide +kernel
theorem dX2_clear_36 : decode cX2_clear 36 = .ok (.return_, 1) := by decide +kernel
theorem dX2_become_0 : decode cX2_become 0 = .ok (.aload_n 0, 1) := by decide +kernel
theorem dX2_become_1 : decode cX2_become 1 = .ok (.aload_n 1, 1) := by decide +kernel
theorem dX2_become_2 : decode cX2_become 2 = .ok (.getfield 15, 3) := by decide +kernel
theorem dX2_become_5 : decode cX2_become 5 = .ok (.putfield 15, 3) := by decide +kernel
theorem dX2_become_8 : decode cX2_become 8 = .ok (.aload_n 0, 1) := by decide +kernel
theorem dX2_become_9 : decode cX2_become 9 = .ok (.aload_n 1, 1) := by decide +kernel
theorem dX2_become_10 : decode cX2_become 10 = .ok (.getfield 18, 3) := by decide +kernel
theorem dX2_become_13 : decode cX2_become 13 = .ok (.putfield 18, 3) := by decide +kernel
theorem dX2_become_16 : decode cX2_become 16 = .ok (.aload_n 0, 1) := by decide +kernel
theorem dX2_become_17 : decode cX2_become 17 = .ok (.aload_n 1, 1) := by decide +kernel
theorem dX2_become_18 : decode cX2_become 18 = .ok (.getfield 21, 3) := by decide +kernel
theorem dX2_become_21 : decode cX2_become 21 = .ok (.putfield 21, 3) := by decide +kernel
theorem dX2_become_24 : decode cX2_become 24 = .ok (.aload_n 0, 1) := by decide +kernel
theorem dX2_become_25 : decode cX2_become 25 = .ok (.aload_n 1, 1) := by decide +kernel
theorem dX2_become_26 : decode cX2_become 26 = .ok (.getfield 9, 3) := by decide +kernel
theorem dX2_become_29 : decode cX2_become 29 = .ok (.putfield 9, 3) := by decide +kernel
theorem dX2_become_32 : decode cX2_become 32 = .ok (.aload_n 0, 1) := by decide +kernel
theorem dX2_become_33 : decode cX2_become 33 = .ok (.aload_n 1, 1) := by decide +kernel
theorem dX2_become_34 : decode cX2_become 34 = .ok (.getfield 24, 3) := by decide +kernel
theorem dX2_become_37 : decode cX2_become 37 = .ok (.putfield 24, 3) := by decide +kernel
theorem dX2_become_40 : decode cX2_become 40 = .ok (.aload_n 0, 1) := by decide +kernel
theorem dX2_become_41 : decode cX2_become 41 = .ok (.aload_n 1, 1) := by decide +kernel
theorem dX2_become_42 : decode cX2_become 42 = .ok (.getfield 27, 3) := by decide +kernel
theorem dX2_become_45 : decode cX2_become 45 = .ok (.putfield 27, 3) := by decide +kernel
theorem dX2_become_48 : decode cX2_become 48 = .ok (.aload_n 0, 1) := by decide +kernel
theorem dX2_become_49 : decode cX2_become 49 = .ok (.aload_n 1, 1) := by decide +kernel
theorem dX2_become_50 : decode cX2_become 50 = .ok (.getfield 30, 3) := by decide +kernel
theorem dX2_become_53 : decode cX2_become 53 = .ok (.putfield 30, 3) := by decide +kernel
theorem dX2_become_56 : decode cX2_become 56 = .ok (.return_, 1) := by decide +kernel
theorem dX3_init_0 : decode cX3_init 0 = .ok (.aload_n 0, 1) := by decide +kernel
theorem dX3_init_1 : decode cX3_init 1 = .ok (.invokespecial 3, 3) := by decide +kernel
theorem dX3_init_4 : decode cX3_init 4 = .ok (.aload_n 0, 1) := by decide +kernel
theorem dX3_init_5 : decode cX3_init 5 = .ok (.iconst 3, 1) := by decide +kernel
theorem dX3_init_6 : decode cX3_init 6 = .ok (.newarray .int, 2) := by decide +kernel
theorem dX3_init_8 : decode cX3_init 8 = .ok (.putfield 9, 3) := by decide +kernel
theorem dX3_init_11 : decode cX3_init 11 = .ok (.aload_n 0, 1) := by decide +kernel
theorem dX3_init_12 : decode cX3_init 12 = .ok (.iconst 1, 1) := by decide +kernel
theorem dX3_init_13 : decode cX3_init 13 = .ok (.putfield 15, 3) := by decide +kernel
theorem dX3_init_16 : decode cX3_init 16 = .ok (.return_, 1) := by decide +kernel
theorem dX3_become_0 : decode cX3_become 0 = .ok (.aload_n 1, 1) := by decide +kernel
theorem dX3_become_1 : decode cX3_become 1 = .ok (.getfield 9, 3) := by decide +kernel
theorem dX3_become_4 : decode cX3_become 4 = .ok (.iconst 0, 1) := by decide +kernel
theorem dX3_become_5 : decode cX3_become 5 = .ok (.aload_n 0, 1) := by decide +kernel
theorem dX3_become_6 : decode cX3_become 6 = .ok (.getfield 9, 3) := by decide +kernel
theorem dX3_become_9 : decode cX3_become 9 = .ok (.iconst 0, 1) := by decide +kernel
theorem dX3_become_10 : decode cX3_become 10 = .ok (.iconst 3, 1) := by decide +kernel
theorem dX3_become_11 : decode cX3_become 11 = .ok (.invokestatic 19, 3) := by decide +kernel
theorem dX3_become_14 : decode cX3_become 14 = .ok (.aload_n 0, 1) := by decide +kernel
theorem dX3_become_15 : decode cX3_become 15 = .ok (.aload_n 1, 1) := by decide +kernel
theorem dX3_become_16 : decode cX3_become 16 = .ok (.getfield 15, 3) := by decide +kernel
theorem dX3_become_19 : decode cX3_become 19 = .ok (.putfield 15, 3) := by decide +kernel
theorem dX3_become_22 : decode cX3_become 22 = .ok (.return_, 1) := by decide +kernel
theorem dX4_init_0 : decode cX4_init 0 = .ok (.aload_n 0, 1) := by decide +kernel
theorem dX4_init_1 : decode cX4_init 1 = .ok (.invokespecial 3, 3) := by decide +kernel
theorem dX4_init_4 : decode cX4_init 4 = .ok (.aload_n 0, 1) := by decide +kernel
theorem dX4_init_5 : decode cX4_init 5 = .ok (.bipush 6, 2) := by decide +kernel
theorem dX4_init_7 : decode cX4_init 7 = .ok (.bipush 6, 2) := by decide +kernel
theorem dX4_init_9 : decode cX4_init 9 = .ok (.multianewarray 9 2, 4) := by decide +kernel
theorem dX4_init_13 : decode cX4_init 13 = .ok (.putfield 11, 3) := by decide +kernel
theorem dX4_init_16 : decode cX4_init 16 = .ok (.aload_n 0, 1) := by decide +kernel
theorem dX4_init_17 : decode cX4_init 17 = .ok (.new 16, 3) := by decide +kernel
theorem dX4_init_20 : decode cX4_init 20 = .ok (.dup, 1) := by decide +kernel
theorem dX4_init_21 : decode cX4_init 21 = .ok (.invokespecial 18, 3) := by decide +kernel
theorem dX4_init_24 : decode cX4_init 24 = .ok (.putfield 19, 3) := by decide +kernel
theorem dX4_init_27 : decode cX4_init 27 = .ok (.aload_n 0, 1) := by decide +kernel
theorem dX4_init_28 : decode cX4_init 28 = .ok (.new 16, 3) := by decide +kernel
theorem dX4_init_31 : decode cX4_init 31 = .ok (.dup, 1) := by decide +kernel
theorem dX4_init_32 : decode cX4_init 32 = .ok (.invokespecial 18, 3) := by decide +kernel
theorem dX4_init_35 : decode cX4_init 35 = .ok (.putfield 23, 3) := by decide +kernel
theorem dX4_init_38 : decode cX4_init 38 = .ok (.return_, 1) := by decide +kernel
theorem dX4_isKind_0 : decode cX4_isKind 0 = .ok (.iload_n 0, 1) := by decide +kernel
theorem dX4_isKind_1 : decode cX4_isKind 1 = .ok (.ifCond .lt 12, 3) := by decide +kernel
theorem dX4_isKind_4 : decode cX4_isKind 4 = .ok (.iload_n 0, 1) := by decide +kernel
theorem dX4_isKind_5 : decode cX4_isKind 5 = .ok (.iconst 3, 1) := by decide +kernel
theorem dX4_isKind_6 : decode cX4_isKind 6 = .ok (.if_icmp .gt 7, 3) := by decide +kernel
theorem dX4_isKind_9 : decode cX4_isKind 9 = .ok (.iconst 1, 1) := by decide +kernel
theorem dX4_isKind_10 : decode cX4_isKind 10 = .ok (.goto 4, 3) := by decide +kernel
theorem dX4_isKind_13 : decode cX4_isKind 13 = .ok (.iconst 0, 1) := by decide +kernel
theorem dX4_isKind_14 : decode cX4_isKind 14 = .ok (.ireturn, 1) := by decide +kernel
theorem dX4_make_0 : decode cX4_make 0 = .ok (.iconst 0, 1) := by decide +kernel
theorem dX4_make_1 : decode cX4_make 1 = .ok (.istore_n 3, 1) := by decide +kernel
theorem dX4_make_2 : decode cX4_make 2 = .ok (.iload_n 3, 1) := by decide +kernel
theorem dX4_make_3 : decode cX4_make 3 = .ok (.bipush 6, 2) := by decide +kernel
theorem dX4_make_5 : decode cX4_make 5 = .ok (.if_icmp .ge 35, 3) := by decide +kernel
theorem dX4_make_8 : decode cX4_make 8 = .ok (.iconst 0, 1) := by decide +kernel
theorem dX4_make_9 : decode cX4_make 9 = .ok (.istore 4, 2) := by decide +kernel
theorem dX4_make_11 : decode cX4_make 11 = .ok (.iload 4, 2) := by decide +kernel
theorem dX4_make_13 : decode cX4_make 13 = .ok (.bipush 6, 2) := by decide +kernel
theorem dX4_make_15 : decode cX4_make 15 = .ok (.if_icmp .ge 19, 3) := by decide +kernel
theorem dX4_make_18 : decode cX4_make 18 = .ok (.aload_n 0, 1) := by decide +kernel
theorem dX4_make_19 : decode cX4_make 19 = .ok (.getfield 11, 3) := by decide +kernel
theorem dX4_make_22 : decode cX4_make 22 = .ok (.iload_n 3, 1) := by decide +kernel
theorem dX4_make_23 : decode cX4_make 23 = .ok (.aaload, 1) := by decide +kernel
theorem dX4_make_24 : decode cX4_make 24 = .ok (.iload 4, 2) := by decide +kernel
theorem dX4_make_26 : decode cX4_make 26 = .ok (.iconst 0, 1) := by decide +kernel
theorem dX4_make_27 : decode cX4_make 27 = .ok (.iastore, 1) := by decide +kernel
theorem dX4_make_28 : decode cX4_make 28 = .ok (.iinc 4 1, 3) := by decide +kernel
theorem dX4_make_31 : decode cX4_make 31 = .ok (.goto (-20), 3) := by decide +kernel
theorem dX4_make_34 : decode cX4_make 34 = .ok (.iinc 3 1, 3) := by decide +kernel
theorem dX4_make_37 : decode cX4_make 37 = .ok (.goto (-35), 3) := by decide +kernel
theorem dX4_make_40 : decode cX4_make 40 = .ok (.iload_n 1, 1) := by decide +kernel
theorem dX4_make_41 : decode cX4_make 41 = .ok (.tableswitch 65 0 3 #[31, 39, 47, 56], 31) := by decide +kernel
theorem dX4_make_72 : decode cX4_make 72 = .ok (.aload_n 0, 1) := by decide +kernel
theorem dX4_make_73 : decode cX4_make 73 = .ok (.aload_n 2, 1) := by decide +kernel
theorem dX4_make_74 : decode cX4_make 74 = .ok (.invokevirtual 26, 3) := by decide +kernel
theorem dX4_make_77 : decode cX4_make 77 = .ok (.goto 29, 3) := by decide +kernel
theorem dX4_make_80 : decode cX4_make 80 = .ok (.aload_n 0, 1) := by decide +kernel
theorem dX4_make_81 : decode cX4_make 81 = .ok (.aload_n 2, 1) := by decide +kernel
theorem dX4_make_82 : decode cX4_make 82 = .ok (.invokevirtual 30, 3) := by decide +kernel
theorem dX4_make_85 : decode cX4_make 85 = .ok (.goto 21, 3) := by decide +kernel
theorem dX4_make_88 : decode cX4_make 88 = .ok (.aload_n 0, 1) := by decide +kernel
theorem dX4_make_89 : decode cX4_make 89 = .ok (.aload_n 2, 1) := by decide +kernel
theorem dX4_make_90 : decode cX4_make 90 = .ok (.iconst 0, 1) := by decide +kernel
theorem dX4_make_91 : decode cX4_make 91 = .ok (.invokevirtual 33, 3) := by decide +kernel
theorem dX4_make_94 : decode cX4_make 94 = .ok (.goto 12, 3) := by decide +kernel
theorem dX4_make_97 : decode cX4_make 97 = .ok (.aload_n 0, 1) := by decide +kernel
theorem dX4_make_98 : decode cX4_make 98 = .ok (.aload_n 2, 1) := by decide +kernel
theorem dX4_make_99 : decode cX4_make 99 = .ok (.iconst 1, 1) := by decide +kernel
theorem dX4_make_100 : decode cX4_make 100 = .ok (.invokevirtual 33, 3) := by decide +kernel
theorem dX4_make_103 : decode cX4_make 103 = .ok (.goto 3, 3) := by decide +kernel
theorem dX4_make_106 : decode cX4_make 106 = .ok (.return_, 1) := by decide +kernel
theorem dX4_worth_0 : decode cX4_worth 0 = .ok (.iconst 0, 1) := by decide +kernel
theorem dX4_worth_1 : decode cX4_worth 1 = .ok (.istore_n 2, 1) := by decide +kernel
theorem dX4_worth_2 : decode cX4_worth 2 = .ok (.iconst 0, 1) := by decide +kernel
theorem dX4_worth_3 : decode cX4_worth 3 = .ok (.istore_n 3, 1) := by decide +kernel
theorem dX4_worth_4 : decode cX4_worth 4 = .ok (.iload_n 3, 1) := by decide +kernel
theorem dX4_worth_5 : decode cX4_worth 5 = .ok (.aload_n 1, 1) := by decide +kernel
theorem dX4_worth_6 : decode cX4_worth 6 = .ok (.getfield 37, 3) := by decide +kernel
theorem dX4_worth_9 : decode cX4_worth 9 = .ok (.if_icmp .ge 30, 3) := by decide +kernel
theorem dX4_worth_12 : decode cX4_worth 12 = .ok (.aload_n 0, 1) := by decide +kernel
theorem dX4_worth_13 : decode cX4_worth 13 = .ok (.aload_n 1, 1) := by decide +kernel
theorem dX4_worth_14 : decode cX4_worth 14 = .ok (.iload_n 3, 1) := by decide +kernel
theorem dX4_worth_15 : decode cX4_worth 15 = .ok (.invokevirtual 43, 3) := by decide +kernel
theorem dX4_worth_18 : decode cX4_worth 18 = .ok (.ifCond .eq 15, 3) := by decide +kernel
theorem dX4_worth_21 : decode cX4_worth 21 = .ok (.iload_n 2, 1) := by decide +kernel
theorem dX4_worth_22 : decode cX4_worth 22 = .ok (.aload_n 1, 1) := by decide +kernel
theorem dX4_worth_23 : decode cX4_worth 23 = .ok (.getfield 47, 3) := by decide +kernel
theorem dX4_worth_26 : decode cX4_worth 26 = .ok (.iload_n 3, 1) := by decide +kernel
theorem dX4_worth_27 : decode cX4_worth 27 = .ok (.aaload, 1) := by decide +kernel
theorem dX4_worth_28 : decode cX4_worth 28 = .ok (.getfield 51, 3) := by decide +kernel
theorem dX4_worth_31 : decode cX4_worth 31 = .ok (.iadd, 1) := by decide +kernel
theorem dX4_worth_32 : decode cX4_worth 32 = .ok (.istore_n 2, 1) := by decide +kernel
theorem dX4_worth_33 : decode cX4_worth 33 = .ok (.iinc 3 1, 3) := by decide +kernel
theorem dX4_worth_36 : decode cX4_worth 36 = .ok (.goto (-32), 3) := by decide +kernel
theorem dX4_worth_39 : decode cX4_worth 39 = .ok (.iload_n 2, 1) := by decide +kernel
theorem dX4_worth_40 : decode cX4_worth 40 = .ok (.ireturn, 1) := by decide +kernel
theorem dX4_makeWholes_0 : decode cX4_makeWholes 0 = .ok (.iconst 0, 1) := by decide +kernel
theorem dX4_makeWholes_1 : decode cX4_makeWholes 1 = .ok (.istore_n 2, 1) := by decide +kernel
theorem dX4_makeWholes_2 : decode cX4_makeWholes 2 = .ok (.iload_n 2, 1) := by decide +kernel
theorem dX4_makeWholes_3 : decode cX4_makeWholes 3 = .ok (.aload_n 1, 1) := by decide +kernel
theorem dX4_makeWholes_4 : decode cX4_makeWholes 4 = .ok (.getfield 56, 3) := by decide +kernel
theorem dX4_makeWholes_7 : decode cX4_makeWholes 7 = .ok (.if_icmp .ge 69, 3) := by decide +kernel
theorem dX4_makeWholes_10 : decode cX4_makeWholes 10 = .ok (.iconst 0, 1) := by decide +kernel
theorem dX4_makeWholes_11 : decode cX4_makeWholes 11 = .ok (.istore_n 3, 1) := by decide +kernel
theorem dX4_makeWholes_12 : decode cX4_makeWholes 12 = .ok (.iconst 0, 1) := by decide +kernel
theorem dX4_makeWholes_13 : decode cX4_makeWholes 13 = .ok (.istore 4, 2) := by decide +kernel
theorem dX4_makeWholes_15 : decode cX4_makeWholes 15 = .ok (.iload 4, 2) := by decide +kernel
theorem dX4_makeWholes_17 : decode cX4_makeWholes 17 = .ok (.aload_n 1, 1) := by decide +kernel
theorem dX4_makeWholes_18 : decode cX4_makeWholes 18 = .ok (.getfield 37, 3) := by decide +kernel
theorem dX4_makeWholes_21 : decode cX4_makeWholes 21 = .ok (.if_icmp .ge 49, 3) := by decide +kernel
theorem dX4_makeWholes_24 : decode cX4_makeWholes 24 = .ok (.iload_n 3, 1) := by decide +kernel
theorem dX4_makeWholes_25 : decode cX4_makeWholes 25 = .ok (.ifCond .ne 45, 3) := by decide +kernel
theorem dX4_makeWholes_28 : decode cX4_makeWholes 28 = .ok (.aload_n 0, 1) := by decide +kernel
theorem dX4_makeWholes_29 : decode cX4_makeWholes 29 = .ok (.aload_n 1, 1) := by decide +kernel
theorem dX4_makeWholes_30 : decode cX4_makeWholes 30 = .ok (.iload 4, 2) := by decide +kernel
theorem dX4_makeWholes_32 : decode cX4_makeWholes 32 = .ok (.invokevirtual 43, 3) := by decide +kernel
theorem dX4_makeWholes_35 : decode cX4_makeWholes 35 = .ok (.ifCond .ne 29, 3) := by decide +kernel
theorem dX4_makeWholes_38 : decode cX4_makeWholes 38 = .ok (.aload_n 0, 1) := by decide +kernel
theorem dX4_makeWholes_39 : decode cX4_makeWholes 39 = .ok (.aload_n 1, 1) := by decide +kernel
theorem dX4_makeWholes_40 : decode cX4_makeWholes 40 = .ok (.iload_n 2, 1) := by decide +kernel
theorem dX4_makeWholes_41 : decode cX4_makeWholes 41 = .ok (.iload 4, 2) := by decide +kernel
theorem dX4_makeWholes_43 : decode cX4_makeWholes 43 = .ok (.bipush 12, 2) := by decide +kernel
theorem dX4_makeWholes_45 : decode cX4_makeWholes 45 = .ok (.invokevirtual 59, 3) := by decide +kernel
theorem dX4_makeWholes_48 : decode cX4_makeWholes 48 = .ok (.ifCond .eq 16, 3) := by decide +kernel
theorem dX4_makeWholes_51 : decode cX4_makeWholes 51 = .ok (.aload_n 0, 1) := by decide +kernel
theorem dX4_makeWholes_52 : decode cX4_makeWholes 52 = .ok (.getfield 11, 3) := by decide +kernel
theorem dX4_makeWholes_55 : decode cX4_makeWholes 55 = .ok (.iload_n 2, 1) := by decide +kernel
theorem dX4_makeWholes_56 : decode cX4_makeWholes 56 = .ok (.aaload, 1) := by decide +kernel
theorem dX4_makeWholes_57 : decode cX4_makeWholes 57 = .ok (.iload 4, 2) := by decide +kernel
theorem dX4_makeWholes_59 : decode cX4_makeWholes 59 = .ok (.bipush 12, 2) := by decide +kernel
theorem dX4_makeWholes_61 : decode cX4_makeWholes 61 = .ok (.iastore, 1) := by decide +kernel
theorem dX4_makeWholes_62 : decode cX4_makeWholes 62 = .ok (.iconst 1, 1) := by decide +kernel
theorem dX4_makeWholes_63 : decode cX4_makeWholes 63 = .ok (.istore_n 3, 1) := by decide +kernel
theorem dX4_makeWholes_64 : decode cX4_makeWholes 64 = .ok (.iinc 4 1, 3) := by decide +kernel
theorem dX4_makeWholes_67 : decode cX4_makeWholes 67 = .ok (.goto (-52), 3) := by decide +kernel
theorem dX4_makeWholes_70 : decode cX4_makeWholes 70 = .ok (.iinc 2 1, 3) := by decide +kernel
theorem dX4_makeWholes_73 : decode cX4_makeWholes 73 = .ok (.goto (-71), 3) := by decide +kernel
theorem dX4_makeWholes_76 : decode cX4_makeWholes 76 = .ok (.return_, 1) := by decide +kernel
theorem dX4_makeEven_0 : decode cX4_makeEven 0 = .ok (.aload_n 1, 1) := by decide +kernel
theorem dX4_makeEven_1 : decode cX4_makeEven 1 = .ok (.getfield 37, 3) := by decide +kernel
theorem dX4_makeEven_4 : decode cX4_makeEven 4 = .ok (.iconst 1, 1) := by decide +kernel
theorem dX4_makeEven_5 : decode cX4_makeEven 5 = .ok (.if_icmp .ge 4, 3) := by decide +kernel
theorem dX4_makeEven_8 : decode cX4_makeEven 8 = .ok (.return_, 1) := by decide +kernel
theorem dX4_makeEven_9 : decode cX4_makeEven 9 = .ok (.bipush 12, 2) := by decide +kernel
theorem dX4_makeEven_11 : decode cX4_makeEven 11 = .ok (.aload_n 1, 1) := by decide +kernel
theorem dX4_makeEven_12 : decode cX4_makeEven 12 = .ok (.getfield 37, 3) := by decide +kernel
theorem dX4_makeEven_15 : decode cX4_makeEven 15 = .ok (.idiv, 1) := by decide +kernel
theorem dX4_makeEven_16 : decode cX4_makeEven 16 = .ok (.istore_n 2, 1) := by decide +kernel
theorem dX4_makeEven_17 : decode cX4_makeEven 17 = .ok (.iconst 0, 1) := by decide +kernel
theorem dX4_makeEven_18 : decode cX4_makeEven 18 = .ok (.istore_n 3, 1) := by decide +kernel
theorem dX4_makeEven_19 : decode cX4_makeEven 19 = .ok (.iload_n 3, 1) := by decide +kernel
theorem dX4_makeEven_20 : decode cX4_makeEven 20 = .ok (.aload_n 1, 1) := by decide +kernel
theorem dX4_makeEven_21 : decode cX4_makeEven 21 = .ok (.getfield 56, 3) := by decide +kernel
theorem dX4_makeEven_24 : decode cX4_makeEven 24 = .ok (.if_icmp .ge 50, 3) := by decide +kernel
theorem dX4_makeEven_27 : decode cX4_makeEven 27 = .ok (.iload_n 2, 1) := by decide +kernel
theorem dX4_makeEven_28 : decode cX4_makeEven 28 = .ok (.aload_n 1, 1) := by decide +kernel
theorem dX4_makeEven_29 : decode cX4_makeEven 29 = .ok (.getfield 63, 3) := by decide +kernel
theorem dX4_makeEven_32 : decode cX4_makeEven 32 = .ok (.iload_n 3, 1) := by decide +kernel
theorem dX4_makeEven_33 : decode cX4_makeEven 33 = .ok (.aaload, 1) := by decide +kernel
theorem dX4_makeEven_34 : decode cX4_makeEven 34 = .ok (.getfield 67, 3) := by decide +kernel
theorem dX4_makeEven_37 : decode cX4_makeEven 37 = .ok (.if_icmp .lt 31, 3) := by decide +kernel
theorem dX4_makeEven_40 : decode cX4_makeEven 40 = .ok (.iconst 0, 1) := by decide +kernel
theorem dX4_makeEven_41 : decode cX4_makeEven 41 = .ok (.istore 4, 2) := by decide +kernel
theorem dX4_makeEven_43 : decode cX4_makeEven 43 = .ok (.iload 4, 2) := by decide +kernel
theorem dX4_makeEven_45 : decode cX4_makeEven 45 = .ok (.aload_n 1, 1) := by decide +kernel
theorem dX4_makeEven_46 : decode cX4_makeEven 46 = .ok (.getfield 37, 3) := by decide +kernel
theorem dX4_makeEven_49 : decode cX4_makeEven 49 = .ok (.if_icmp .ge 19, 3) := by decide +kernel
theorem dX4_makeEven_52 : decode cX4_makeEven 52 = .ok (.aload_n 0, 1) := by decide +kernel
theorem dX4_makeEven_53 : decode cX4_makeEven 53 = .ok (.getfield 11, 3) := by decide +kernel
theorem dX4_makeEven_56 : decode cX4_makeEven 56 = .ok (.iload_n 3, 1) := by decide +kernel
theorem dX4_makeEven_57 : decode cX4_makeEven 57 = .ok (.aaload, 1) := by decide +kernel
theorem dX4_makeEven_58 : decode cX4_makeEven 58 = .ok (.iload 4, 2) := by decide +kernel
theorem dX4_makeEven_60 : decode cX4_makeEven 60 = .ok (.iload_n 2, 1) := by decide +kernel
theorem dX4_makeEven_61 : decode cX4_makeEven 61 = .ok (.iastore, 1) := by decide +kernel
theorem dX4_makeEven_62 : decode cX4_makeEven 62 = .ok (.iinc 4 1, 3) := by decide +kernel
theorem dX4_makeEven_65 : decode cX4_makeEven 65 = .ok (.goto (-22), 3) := by decide +kernel
theorem dX4_makeEven_68 : decode cX4_makeEven 68 = .ok (.iinc 3 1, 3) := by decide +kernel
theorem dX4_makeEven_71 : decode cX4_makeEven 71 = .ok (.goto (-52), 3) := by decide +kernel
theorem dX4_makeEven_74 : decode cX4_makeEven 74 = .ok (.return_, 1) := by decide +kernel
theorem dX4_makeNeed_0 : decode cX4_makeNeed 0 = .ok (.iconst 0, 1) := by decide +kernel
theorem dX4_makeNeed_1 : decode cX4_makeNeed 1 = .ok (.istore_n 3, 1) := by decide +kernel
theorem dX4_makeNeed_2 : decode cX4_makeNeed 2 = .ok (.iload_n 3, 1) := by decide +kernel
theorem dX4_makeNeed_3 : decode cX4_makeNeed 3 = .ok (.aload_n 1, 1) := by decide +kernel
theorem dX4_makeNeed_4 : decode cX4_makeNeed 4 = .ok (.getfield 37, 3) := by decide +kernel
theorem dX4_makeNeed_7 : decode cX4_makeNeed 7 = .ok (.if_icmp .ge 89, 3) := by decide +kernel
theorem dX4_makeNeed_10 : decode cX4_makeNeed 10 = .ok (.iconst 0, 1) := by decide +kernel
theorem dX4_makeNeed_11 : decode cX4_makeNeed 11 = .ok (.istore 4, 2) := by decide +kernel
theorem dX4_makeNeed_13 : decode cX4_makeNeed 13 = .ok (.iload 4, 2) := by decide +kernel
theorem dX4_makeNeed_15 : decode cX4_makeNeed 15 = .ok (.aload_n 1, 1) := by decide +kernel
theorem dX4_makeNeed_16 : decode cX4_makeNeed 16 = .ok (.getfield 56, 3) := by decide +kernel
theorem dX4_makeNeed_19 : decode cX4_makeNeed 19 = .ok (.if_icmp .ge 71, 3) := by decide +kernel
theorem dX4_makeNeed_22 : decode cX4_makeNeed 22 = .ok (.aload_n 0, 1) := by decide +kernel
theorem dX4_makeNeed_23 : decode cX4_makeNeed 23 = .ok (.aload_n 1, 1) := by decide +kernel
theorem dX4_makeNeed_24 : decode cX4_makeNeed 24 = .ok (.iload_n 3, 1) := by decide +kernel
theorem dX4_makeNeed_25 : decode cX4_makeNeed 25 = .ok (.invokevirtual 43, 3) := by decide +kernel
theorem dX4_makeNeed_28 : decode cX4_makeNeed 28 = .ok (.ifCond .ne 62, 3) := by decide +kernel
theorem dX4_makeNeed_31 : decode cX4_makeNeed 31 = .ok (.aload_n 1, 1) := by decide +kernel
theorem dX4_makeNeed_32 : decode cX4_makeNeed 32 = .ok (.getfield 63, 3) := by decide +kernel
theorem dX4_makeNeed_35 : decode cX4_makeNeed 35 = .ok (.iload 4, 2) := by decide +kernel
theorem dX4_makeNeed_37 : decode cX4_makeNeed 37 = .ok (.aaload, 1) := by decide +kernel
theorem dX4_makeNeed_38 : decode cX4_makeNeed 38 = .ok (.getfield 67, 3) := by decide +kernel
theorem dX4_makeNeed_41 : decode cX4_makeNeed 41 = .ok (.istore 5, 2) := by decide +kernel
theorem dX4_makeNeed_43 : decode cX4_makeNeed 43 = .ok (.bipush 12, 2) := by decide +kernel
theorem dX4_makeNeed_45 : decode cX4_makeNeed 45 = .ok (.aload_n 0, 1) := by decide +kernel
theorem dX4_makeNeed_46 : decode cX4_makeNeed 46 = .ok (.iload 4, 2) := by decide +kernel
theorem dX4_makeNeed_48 : decode cX4_makeNeed 48 = .ok (.invokevirtual 72, 3) := by decide +kernel
theorem dX4_makeNeed_51 : decode cX4_makeNeed 51 = .ok (.isub, 1) := by decide +kernel
theorem dX4_makeNeed_52 : decode cX4_makeNeed 52 = .ok (.iload_n 2, 1) := by decide +kernel
theorem dX4_makeNeed_53 : decode cX4_makeNeed 53 = .ok (.ifCond .eq 8, 3) := by decide +kernel
theorem dX4_makeNeed_56 : decode cX4_makeNeed 56 = .ok (.iload 5, 2) := by decide +kernel
theorem dX4_makeNeed_58 : decode cX4_makeNeed 58 = .ok (.goto 4, 3) := by decide +kernel
theorem dX4_makeNeed_61 : decode cX4_makeNeed 61 = .ok (.iconst 0, 1) := by decide +kernel
theorem dX4_makeNeed_62 : decode cX4_makeNeed 62 = .ok (.isub, 1) := by decide +kernel
theorem dX4_makeNeed_63 : decode cX4_makeNeed 63 = .ok (.istore 6, 2) := by decide +kernel
theorem dX4_makeNeed_65 : decode cX4_makeNeed 65 = .ok (.aload_n 0, 1) := by decide +kernel
theorem dX4_makeNeed_66 : decode cX4_makeNeed 66 = .ok (.getfield 11, 3) := by decide +kernel
theorem dX4_makeNeed_69 : decode cX4_makeNeed 69 = .ok (.iload 4, 2) := by decide +kernel
theorem dX4_makeNeed_71 : decode cX4_makeNeed 71 = .ok (.aaload, 1) := by decide +kernel
theorem dX4_makeNeed_72 : decode cX4_makeNeed 72 = .ok (.iload_n 3, 1) := by decide +kernel
theorem dX4_makeNeed_73 : decode cX4_makeNeed 73 = .ok (.aload_n 0, 1) := by decide +kernel
theorem dX4_makeNeed_74 : decode cX4_makeNeed 74 = .ok (.aload_n 1, 1) := by decide +kernel
theorem dX4_makeNeed_75 : decode cX4_makeNeed 75 = .ok (.iload 4, 2) := by decide +kernel
theorem dX4_makeNeed_77 : decode cX4_makeNeed 77 = .ok (.iload_n 3, 1) := by decide +kernel
theorem dX4_makeNeed_78 : decode cX4_makeNeed 78 = .ok (.iload 6, 2) := by decide +kernel
theorem dX4_makeNeed_80 : decode cX4_makeNeed 80 = .ok (.invokevirtual 76, 3) := by decide +kernel
theorem dX4_makeNeed_83 : decode cX4_makeNeed 83 = .ok (.iastore, 1) := by decide +kernel
theorem dX4_makeNeed_84 : decode cX4_makeNeed 84 = .ok (.iinc 4 1, 3) := by decide +kernel
theorem dX4_makeNeed_87 : decode cX4_makeNeed 87 = .ok (.goto (-74), 3) := by decide +kernel
theorem dX4_makeNeed_90 : decode cX4_makeNeed 90 = .ok (.iinc 3 1, 3) := by decide +kernel
theorem dX4_makeNeed_93 : decode cX4_makeNeed 93 = .ok (.goto (-91), 3) := by decide +kernel
theorem dX4_makeNeed_96 : decode cX4_makeNeed 96 = .ok (.return_, 1) := by decide +kernel
theorem dX4_used_0 : decode cX4_used 0 = .ok (.iconst 0, 1) := by decide +kernel
theorem dX4_used_1 : decode cX4_used 1 = .ok (.istore_n 2, 1) := by decide +kernel
theorem dX4_used_2 : decode cX4_used 2 = .ok (.iconst 0, 1) := by decide +kernel
theorem dX4_used_3 : decode cX4_used 3 = .ok (.istore_n 3, 1) := by decide +kernel
theorem dX4_used_4 : decode cX4_used 4 = .ok (.iload_n 3, 1) := by decide +kernel
theorem dX4_used_5 : decode cX4_used 5 = .ok (.bipush 6, 2) := by decide +kernel
theorem dX4_used_7 : decode cX4_used 7 = .ok (.if_icmp .ge 20, 3) := by decide +kernel
theorem dX4_used_10 : decode cX4_used 10 = .ok (.iload_n 2, 1) := by decide +kernel
theorem dX4_used_11 : decode cX4_used 11 = .ok (.aload_n 0, 1) := by decide +kernel
theorem dX4_used_12 : decode cX4_used 12 = .ok (.getfield 11, 3) := by decide +kernel
theorem dX4_used_15 : decode cX4_used 15 = .ok (.iload_n 1, 1) := by decide +kernel
theorem dX4_used_16 : decode cX4_used 16 = .ok (.aaload, 1) := by decide +kernel
theorem dX4_used_17 : decode cX4_used 17 = .ok (.iload_n 3, 1) := by decide +kernel
theorem dX4_used_18 : decode cX4_used 18 = .ok (.iaload, 1) := by decide +kernel
theorem dX4_used_19 : decode cX4_used 19 = .ok (.iadd, 1) := by decide +kernel
theorem dX4_used_20 : decode cX4_used 20 = .ok (.istore_n 2, 1) := by decide +kernel
theorem dX4_used_21 : decode cX4_used 21 = .ok (.iinc 3 1, 3) := by decide +kernel
theorem dX4_used_24 : decode cX4_used 24 = .ok (.goto (-20), 3) := by decide +kernel
theorem dX4_used_27 : decode cX4_used 27 = .ok (.iload_n 2, 1) := by decide +kernel
theorem dX4_used_28 : decode cX4_used 28 = .ok (.ireturn, 1) := by decide +kernel
theorem dX4_needed_0 : decode cX4_needed 0 = .ok (.aload_n 1, 1) := by decide +kernel
theorem dX4_needed_1 : decode cX4_needed 1 = .ok (.getfield 63, 3) := by decide +kernel
theorem dX4_needed_4 : decode cX4_needed 4 = .ok (.iload_n 2, 1) := by decide +kernel
theorem dX4_needed_5 : decode cX4_needed 5 = .ok (.aaload, 1) := by decide +kernel
theorem dX4_needed_6 : decode cX4_needed 6 = .ok (.getfield 67, 3) := by decide +kernel
theorem dX4_needed_9 : decode cX4_needed 9 = .ok (.istore 5, 2) := by decide +kernel
theorem dX4_needed_11 : decode cX4_needed 11 = .ok (.iload 5, 2) := by decide +kernel
theorem dX4_needed_13 : decode cX4_needed 13 = .ok (.istore 6, 2) := by decide +kernel
theorem dX4_needed_15 : decode cX4_needed 15 = .ok (.iload 6, 2) := by decide +kernel
theorem dX4_needed_17 : decode cX4_needed 17 = .ok (.iload 4, 2) := by decide +kernel
theorem dX4_needed_19 : decode cX4_needed 19 = .ok (.if_icmp .gt 49, 3) := by decide +kernel
theorem dX4_needed_22 : decode cX4_needed 22 = .ok (.aload_n 0, 1) := by decide +kernel
theorem dX4_needed_23 : decode cX4_needed 23 = .ok (.aload_n 0, 1) := by decide +kernel
theorem dX4_needed_24 : decode cX4_needed 24 = .ok (.getfield 23, 3) := by decide +kernel
theorem dX4_needed_27 : decode cX4_needed 27 = .ok (.aload_n 1, 1) := by decide +kernel
theorem dX4_needed_28 : decode cX4_needed 28 = .ok (.iload_n 3, 1) := by decide +kernel
theorem dX4_needed_29 : decode cX4_needed 29 = .ok (.invokevirtual 80, 3) := by decide +kernel
theorem dX4_needed_32 : decode cX4_needed 32 = .ok (.aload_n 0, 1) := by decide +kernel
theorem dX4_needed_33 : decode cX4_needed 33 = .ok (.getfield 23, 3) := by decide +kernel
theorem dX4_needed_36 : decode cX4_needed 36 = .ok (.iload_n 2, 1) := by decide +kernel
theorem dX4_needed_37 : decode cX4_needed 37 = .ok (.aload_n 1, 1) := by decide +kernel
theorem dX4_needed_38 : decode cX4_needed 38 = .ok (.getfield 63, 3) := by decide +kernel
theorem dX4_needed_41 : decode cX4_needed 41 = .ok (.iload_n 2, 1) := by decide +kernel
theorem dX4_needed_42 : decode cX4_needed 42 = .ok (.aaload, 1) := by decide +kernel
theorem dX4_needed_43 : decode cX4_needed 43 = .ok (.iload 6, 2) := by decide +kernel
theorem dX4_needed_45 : decode cX4_needed 45 = .ok (.iconst 0, 1) := by decide +kernel
theorem dX4_needed_46 : decode cX4_needed 46 = .ok (.invokevirtual 84, 3) := by decide +kernel
theorem dX4_needed_49 : decode cX4_needed 49 = .ok (.aload_n 0, 1) := by decide +kernel
theorem dX4_needed_50 : decode cX4_needed 50 = .ok (.getfield 23, 3) := by decide +kernel
theorem dX4_needed_53 : decode cX4_needed 53 = .ok (.invokevirtual 88, 3) := by decide +kernel
theorem dX4_needed_56 : decode cX4_needed 56 = .ok (.ifCond .eq 6, 3) := by decide +kernel
theorem dX4_needed_59 : decode cX4_needed 59 = .ok (.iload 6, 2) := by decide +kernel
theorem dX4_needed_61 : decode cX4_needed 61 = .ok (.ireturn, 1) := by decide +kernel
theorem dX4_needed_62 : decode cX4_needed 62 = .ok (.iinc 6 1, 3) := by decide +kernel
theorem dX4_needed_65 : decode cX4_needed 65 = .ok (.goto (-50), 3) := by decide +kernel
theorem dX4_needed_68 : decode cX4_needed 68 = .ok (.iload 4, 2) := by decide +kernel
theorem dX4_needed_70 : decode cX4_needed 70 = .ok (.iload 5, 2) := by decide +kernel
theorem dX4_needed_72 : decode cX4_needed 72 = .ok (.if_icmp .lt 20, 3) := by decide +kernel
theorem dX4_needed_75 : decode cX4_needed 75 = .ok (.aload_n 0, 1) := by decide +kernel
theorem dX4_needed_76 : decode cX4_needed 76 = .ok (.aload_n 1, 1) := by decide +kernel
theorem dX4_needed_77 : decode cX4_needed 77 = .ok (.iload_n 2, 1) := by decide +kernel
theorem dX4_needed_78 : decode cX4_needed 78 = .ok (.iload_n 3, 1) := by decide +kernel
theorem dX4_needed_79 : decode cX4_needed 79 = .ok (.iload 4, 2) := by decide +kernel
theorem dX4_needed_81 : decode cX4_needed 81 = .ok (.invokevirtual 59, 3) := by decide +kernel
theorem dX4_needed_84 : decode cX4_needed 84 = .ok (.ifCond .eq 8, 3) := by decide +kernel
theorem dX4_needed_87 : decode cX4_needed 87 = .ok (.iload 4, 2) := by decide +kernel
theorem dX4_needed_89 : decode cX4_needed 89 = .ok (.goto 4, 3) := by decide +kernel
theorem dX4_needed_92 : decode cX4_needed 92 = .ok (.iconst 0, 1) := by decide +kernel
theorem dX4_needed_93 : decode cX4_needed 93 = .ok (.ireturn, 1) := by decide +kernel
theorem dX4_gather_0 : decode cX4_gather 0 = .ok (.aload_n 1, 1) := by decide +kernel
theorem dX4_gather_1 : decode cX4_gather 1 = .ok (.aload_n 2, 1) := by decide +kernel
theorem dX4_gather_2 : decode cX4_gather 2 = .ok (.getfield 47, 3) := by decide +kernel
theorem dX4_gather_5 : decode cX4_gather 5 = .ok (.iload_n 3, 1) := by decide +kernel
theorem dX4_gather_6 : decode cX4_gather 6 = .ok (.aaload, 1) := by decide +kernel
theorem dX4_gather_7 : decode cX4_gather 7 = .ok (.invokevirtual 91, 3) := by decide +kernel
theorem dX4_gather_10 : decode cX4_gather 10 = .ok (.iconst 0, 1) := by decide +kernel
theorem dX4_gather_11 : decode cX4_gather 11 = .ok (.istore 4, 2) := by decide +kernel
theorem dX4_gather_13 : decode cX4_gather 13 = .ok (.iload 4, 2) := by decide +kernel
theorem dX4_gather_15 : decode cX4_gather 15 = .ok (.aload_n 2, 1) := by decide +kernel
theorem dX4_gather_16 : decode cX4_gather 16 = .ok (.getfield 56, 3) := by decide +kernel
theorem dX4_gather_19 : decode cX4_gather 19 = .ok (.if_icmp .ge 44, 3) := by decide +kernel
theorem dX4_gather_22 : decode cX4_gather 22 = .ok (.aload_n 0, 1) := by decide +kernel
theorem dX4_gather_23 : decode cX4_gather 23 = .ok (.getfield 11, 3) := by decide +kernel
theorem dX4_gather_26 : decode cX4_gather 26 = .ok (.iload 4, 2) := by decide +kernel
theorem dX4_gather_28 : decode cX4_gather 28 = .ok (.aaload, 1) := by decide +kernel
theorem dX4_gather_29 : decode cX4_gather 29 = .ok (.iload_n 3, 1) := by decide +kernel
theorem dX4_gather_30 : decode cX4_gather 30 = .ok (.iaload, 1) := by decide +kernel
theorem dX4_gather_31 : decode cX4_gather 31 = .ok (.ifCond .le 26, 3) := by decide +kernel
theorem dX4_gather_34 : decode cX4_gather 34 = .ok (.aload_n 1, 1) := by decide +kernel
theorem dX4_gather_35 : decode cX4_gather 35 = .ok (.iload 4, 2) := by decide +kernel
theorem dX4_gather_37 : decode cX4_gather 37 = .ok (.aload_n 2, 1) := by decide +kernel
theorem dX4_gather_38 : decode cX4_gather 38 = .ok (.getfield 63, 3) := by decide +kernel
theorem dX4_gather_41 : decode cX4_gather 41 = .ok (.iload 4, 2) := by decide +kernel
theorem dX4_gather_43 : decode cX4_gather 43 = .ok (.aaload, 1) := by decide +kernel
theorem dX4_gather_44 : decode cX4_gather 44 = .ok (.aload_n 0, 1) := by decide +kernel
theorem dX4_gather_45 : decode cX4_gather 45 = .ok (.getfield 11, 3) := by decide +kernel
theorem dX4_gather_48 : decode cX4_gather 48 = .ok (.iload 4, 2) := by decide +kernel
theorem dX4_gather_50 : decode cX4_gather 50 = .ok (.aaload, 1) := by decide +kernel
theorem dX4_gather_51 : decode cX4_gather 51 = .ok (.iload_n 3, 1) := by decide +kernel
theorem dX4_gather_52 : decode cX4_gather 52 = .ok (.iaload, 1) := by decide +kernel
theorem dX4_gather_53 : decode cX4_gather 53 = .ok (.iconst 0, 1) := by decide +kernel
theorem dX4_gather_54 : decode cX4_gather 54 = .ok (.invokevirtual 84, 3) := by decide +kernel
theorem dX4_gather_57 : decode cX4_gather 57 = .ok (.iinc 4 1, 3) := by decide +kernel
theorem dX4_gather_60 : decode cX4_gather 60 = .ok (.goto (-47), 3) := by decide +kernel
theorem dX4_gather_63 : decode cX4_gather 63 = .ok (.return_, 1) := by decide +kernel
theorem dX4_isDone_0 : decode cX4_isDone 0 = .ok (.aload_n 0, 1) := by decide +kernel
theorem dX4_isDone_1 : decode cX4_isDone 1 = .ok (.aload_n 0, 1) := by decide +kernel
theorem dX4_isDone_2 : decode cX4_isDone 2 = .ok (.getfield 19, 3) := by decide +kernel
theorem dX4_isDone_5 : decode cX4_isDone 5 = .ok (.aload_n 1, 1) := by decide +kernel
theorem dX4_isDone_6 : decode cX4_isDone 6 = .ok (.iload_n 2, 1) := by decide +kernel
theorem dX4_isDone_7 : decode cX4_isDone 7 = .ok (.invokevirtual 80, 3) := by decide +kernel
theorem dX4_isDone_10 : decode cX4_isDone 10 = .ok (.aload_n 0, 1) := by decide +kernel
theorem dX4_isDone_11 : decode cX4_isDone 11 = .ok (.getfield 19, 3) := by decide +kernel
theorem dX4_isDone_14 : decode cX4_isDone 14 = .ok (.invokevirtual 88, 3) := by decide +kernel
theorem dX4_isDone_17 : decode cX4_isDone 17 = .ok (.ireturn, 1) := by decide +kernel
theorem dX4_helps_0 : decode cX4_helps 0 = .ok (.aload_n 0, 1) := by decide +kernel
theorem dX4_helps_1 : decode cX4_helps 1 = .ok (.aload_n 0, 1) := by decide +kernel
theorem dX4_helps_2 : decode cX4_helps 2 = .ok (.getfield 19, 3) := by decide +kernel
theorem dX4_helps_5 : decode cX4_helps 5 = .ok (.aload_n 1, 1) := by decide +kernel
theorem dX4_helps_6 : decode cX4_helps 6 = .ok (.iload_n 3, 1) := by decide +kernel
theorem dX4_helps_7 : decode cX4_helps 7 = .ok (.invokevirtual 80, 3) := by decide +kernel
theorem dX4_helps_10 : decode cX4_helps 10 = .ok (.aload_n 0, 1) := by decide +kernel
theorem dX4_helps_11 : decode cX4_helps 11 = .ok (.aload_n 0, 1) := by decide +kernel
theorem dX4_helps_12 : decode cX4_helps 12 = .ok (.getfield 23, 3) := by decide +kernel
theorem dX4_helps_15 : decode cX4_helps 15 = .ok (.aload_n 1, 1) := by decide +kernel
theorem dX4_helps_16 : decode cX4_helps 16 = .ok (.iload_n 3, 1) := by decide +kernel
theorem dX4_helps_17 : decode cX4_helps 17 = .ok (.invokevirtual 80, 3) := by decide +kernel
theorem dX4_helps_20 : decode cX4_helps 20 = .ok (.aload_n 0, 1) := by decide +kernel
theorem dX4_helps_21 : decode cX4_helps 21 = .ok (.getfield 23, 3) := by decide +kernel
theorem dX4_helps_24 : decode cX4_helps 24 = .ok (.iload_n 2, 1) := by decide +kernel
theorem dX4_helps_25 : decode cX4_helps 25 = .ok (.aload_n 1, 1) := by decide +kernel
theorem dX4_helps_26 : decode cX4_helps 26 = .ok (.getfield 63, 3) := by decide +kernel
theorem dX4_helps_29 : decode cX4_helps 29 = .ok (.iload_n 2, 1) := by decide +kernel
theorem dX4_helps_30 : decode cX4_helps 30 = .ok (.aaload, 1) := by decide +kernel
theorem dX4_helps_31 : decode cX4_helps 31 = .ok (.iload 4, 2) := by decide +kernel
theorem dX4_helps_33 : decode cX4_helps 33 = .ok (.iconst 0, 1) := by decide +kernel
theorem dX4_helps_34 : decode cX4_helps 34 = .ok (.invokevirtual 84, 3) := by decide +kernel
theorem dX4_helps_37 : decode cX4_helps 37 = .ok (.iconst 0, 1) := by decide +kernel
theorem dX4_helps_38 : decode cX4_helps 38 = .ok (.istore 5, 2) := by decide +kernel
theorem dX4_helps_40 : decode cX4_helps 40 = .ok (.iload 5, 2) := by decide +kernel
theorem dX4_helps_42 : decode cX4_helps 42 = .ok (.iconst 3, 1) := by decide +kernel
theorem dX4_helps_43 : decode cX4_helps 43 = .ok (.if_icmp .ge 45, 3) := by decide +kernel
theorem dX4_helps_46 : decode cX4_helps 46 = .ok (.aload_n 0, 1) := by decide +kernel
theorem dX4_helps_47 : decode cX4_helps 47 = .ok (.getfield 19, 3) := by decide +kernel
theorem dX4_helps_50 : decode cX4_helps 50 = .ok (.getfield 95, 3) := by decide +kernel
theorem dX4_helps_53 : decode cX4_helps 53 = .ok (.iload 5, 2) := by decide +kernel
theorem dX4_helps_55 : decode cX4_helps 55 = .ok (.iaload, 1) := by decide +kernel
theorem dX4_helps_56 : decode cX4_helps 56 = .ok (.ifCond .le 26, 3) := by decide +kernel
theorem dX4_helps_59 : decode cX4_helps 59 = .ok (.aload_n 0, 1) := by decide +kernel
theorem dX4_helps_60 : decode cX4_helps 60 = .ok (.getfield 23, 3) := by decide +kernel
theorem dX4_helps_63 : decode cX4_helps 63 = .ok (.iload 5, 2) := by decide +kernel
theorem dX4_helps_65 : decode cX4_helps 65 = .ok (.invokevirtual 99, 3) := by decide +kernel
theorem dX4_helps_68 : decode cX4_helps 68 = .ok (.aload_n 0, 1) := by decide +kernel
theorem dX4_helps_69 : decode cX4_helps 69 = .ok (.getfield 19, 3) := by decide +kernel
theorem dX4_helps_72 : decode cX4_helps 72 = .ok (.iload 5, 2) := by decide +kernel
theorem dX4_helps_74 : decode cX4_helps 74 = .ok (.invokevirtual 99, 3) := by decide +kernel
theorem dX4_helps_77 : decode cX4_helps 77 = .ok (.if_icmp .le 5, 3) := by decide +kernel
theorem dX4_helps_80 : decode cX4_helps 80 = .ok (.iconst 1, 1) := by decide +kernel
theorem dX4_helps_81 : decode cX4_helps 81 = .ok (.ireturn, 1) := by decide +kernel
theorem dX4_helps_82 : decode cX4_helps 82 = .ok (.iinc 5 1, 3) := by decide +kernel
theorem dX4_helps_85 : decode cX4_helps 85 = .ok (.goto (-45), 3) := by decide +kernel
theorem dX4_helps_88 : decode cX4_helps 88 = .ok (.iconst 0, 1) := by decide +kernel
theorem dX4_helps_89 : decode cX4_helps 89 = .ok (.ireturn, 1) := by decide +kernel
theorem dX5_init_0 : decode cX5_init 0 = .ok (.aload_n 0, 1) := by decide +kernel
theorem dX5_init_1 : decode cX5_init 1 = .ok (.invokespecial 1, 3) := by decide +kernel
theorem dX5_init_4 : decode cX5_init 4 = .ok (.aload_n 0, 1) := by decide +kernel
theorem dX5_init_5 : decode cX5_init 5 = .ok (.bipush 35, 2) := by decide +kernel
theorem dX5_init_7 : decode cX5_init 7 = .ok (.iconst 3, 1) := by decide +kernel
theorem dX5_init_8 : decode cX5_init 8 = .ok (.multianewarray 9 2, 4) := by decide +kernel
theorem dX5_init_12 : decode cX5_init 12 = .ok (.putfield 11, 3) := by decide +kernel
theorem dX5_init_15 : decode cX5_init 15 = .ok (.aload_n 0, 1) := by decide +kernel
theorem dX5_init_16 : decode cX5_init 16 = .ok (.iconst 3, 1) := by decide +kernel
theorem dX5_init_17 : decode cX5_init 17 = .ok (.bipush 125, 2) := by decide +kernel
theorem dX5_init_19 : decode cX5_init 19 = .ok (.multianewarray 9 2, 4) := by decide +kernel
theorem dX5_init_23 : decode cX5_init 23 = .ok (.putfield 14, 3) := by decide +kernel
theorem dX5_init_26 : decode cX5_init 26 = .ok (.aload_n 0, 1) := by decide +kernel
theorem dX5_init_27 : decode cX5_init 27 = .ok (.iconst 3, 1) := by decide +kernel
theorem dX5_init_28 : decode cX5_init 28 = .ok (.newarray .int, 2) := by decide +kernel
theorem dX5_init_30 : decode cX5_init 30 = .ok (.putfield 17, 3) := by decide +kernel
theorem dX5_init_33 : decode cX5_init 33 = .ok (.aload_n 0, 1) := by decide +kernel
theorem dX5_init_34 : decode cX5_init 34 = .ok (.new 21, 3) := by decide +kernel
theorem dX5_init_37 : decode cX5_init 37 = .ok (.dup, 1) := by decide +kernel
theorem dX5_init_38 : decode cX5_init 38 = .ok (.invokespecial 23, 3) := by decide +kernel
theorem dX5_init_41 : decode cX5_init 41 = .ok (.putfield 24, 3) := by decide +kernel
theorem dX5_init_44 : decode cX5_init 44 = .ok (.return_, 1) := by decide +kernel
theorem dX5_fits_0 : decode cX5_fits 0 = .ok (.aload_n 0, 1) := by decide +kernel
theorem dX5_fits_1 : decode cX5_fits 1 = .ok (.getfield 28, 3) := by decide +kernel
theorem dX5_fits_4 : decode cX5_fits 4 = .ok (.iconst 3, 1) := by decide +kernel
theorem dX5_fits_5 : decode cX5_fits 5 = .ok (.if_icmp .gt 15, 3) := by decide +kernel
theorem dX5_fits_8 : decode cX5_fits 8 = .ok (.aload_n 0, 1) := by decide +kernel
theorem dX5_fits_9 : decode cX5_fits 9 = .ok (.getfield 34, 3) := by decide +kernel
theorem dX5_fits_12 : decode cX5_fits 12 = .ok (.iconst 3, 1) := by decide +kernel
theorem dX5_fits_13 : decode cX5_fits 13 = .ok (.if_icmp .gt 7, 3) := by decide +kernel
theorem dX5_fits_16 : decode cX5_fits 16 = .ok (.iconst 1, 1) := by decide +kernel
theorem dX5_fits_17 : decode cX5_fits 17 = .ok (.goto 4, 3) := by decide +kernel
theorem dX5_fits_20 : decode cX5_fits 20 = .ok (.iconst 0, 1) := by decide +kernel
theorem dX5_fits_21 : decode cX5_fits 21 = .ok (.ireturn, 1) := by decide +kernel
theorem dX5_forget_0 : decode cX5_forget 0 = .ok (.aload_n 0, 1) := by decide +kernel
theorem dX5_forget_1 : decode cX5_forget 1 = .ok (.iconst 0, 1) := by decide +kernel
theorem dX5_forget_2 : decode cX5_forget 2 = .ok (.putfield 37, 3) := by decide +kernel
theorem dX5_forget_5 : decode cX5_forget 5 = .ok (.return_, 1) := by decide +kernel
theorem dX5_quartersAt_0 : decode cX5_quartersAt 0 = .ok (.iload_n 1, 1) := by decide +kernel
theorem dX5_quartersAt_1 : decode cX5_quartersAt 1 = .ok (.ifCond .lt 17, 3) := by decide +kernel
theorem dX5_quartersAt_4 : decode cX5_quartersAt 4 = .ok (.iload_n 1, 1) := by decide +kernel
theorem dX5_quartersAt_5 : decode cX5_quartersAt 5 = .ok (.iconst 3, 1) := by decide +kernel
theorem dX5_quartersAt_6 : decode cX5_quartersAt 6 = .ok (.if_icmp .ge 12, 3) := by decide +kernel
theorem dX5_quartersAt_9 : decode cX5_quartersAt 9 = .ok (.iload_n 2, 1) := by decide +kernel
theorem dX5_quartersAt_10 : decode cX5_quartersAt 10 = .ok (.ifCond .lt 8, 3) := by decide +kernel
theorem dX5_quartersAt_13 : decode cX5_quartersAt 13 = .ok (.iload_n 2, 1) := by decide +kernel
theorem dX5_quartersAt_14 : decode cX5_quartersAt 14 = .ok (.iconst 3, 1) := by decide +kernel
theorem dX5_quartersAt_15 : decode cX5_quartersAt 15 = .ok (.if_icmp .lt 5, 3) := by decide +kernel
theorem dX5_quartersAt_18 : decode cX5_quartersAt 18 = .ok (.iconst 0, 1) := by decide +kernel
theorem dX5_quartersAt_19 : decode cX5_quartersAt 19 = .ok (.ireturn, 1) := by decide +kernel
theorem dX5_quartersAt_20 : decode cX5_quartersAt 20 = .ok (.aload_n 0, 1) := by decide +kernel
theorem dX5_quartersAt_21 : decode cX5_quartersAt 21 = .ok (.getfield 11, 3) := by decide +kernel
theorem dX5_quartersAt_24 : decode cX5_quartersAt 24 = .ok (.aload_n 0, 1) := by decide +kernel
theorem dX5_quartersAt_25 : decode cX5_quartersAt 25 = .ok (.getfield 17, 3) := by decide +kernel
theorem dX5_quartersAt_28 : decode cX5_quartersAt 28 = .ok (.iload_n 1, 1) := by decide +kernel
theorem dX5_quartersAt_29 : decode cX5_quartersAt 29 = .ok (.iaload, 1) := by decide +kernel
theorem dX5_quartersAt_30 : decode cX5_quartersAt 30 = .ok (.aaload, 1) := by decide +kernel
theorem dX5_quartersAt_31 : decode cX5_quartersAt 31 = .ok (.iload_n 2, 1) := by decide +kernel
theorem dX5_quartersAt_32 : decode cX5_quartersAt 32 = .ok (.iaload, 1) := by decide +kernel
theorem dX5_quartersAt_33 : decode cX5_quartersAt 33 = .ok (.ireturn, 1) := by decide +kernel
theorem dX5_find_0 : decode cX5_find 0 = .ok (.aload_n 0, 1) := by decide +kernel
theorem dX5_find_1 : decode cX5_find 1 = .ok (.getfield 37, 3) := by decide +kernel
theorem dX5_find_4 : decode cX5_find 4 = .ok (.ifCond .ne 10, 3) := by decide +kernel
theorem dX5_find_7 : decode cX5_find 7 = .ok (.aload_n 1, 1) := by decide +kernel
theorem dX5_find_8 : decode cX5_find 8 = .ok (.invokestatic 41, 3) := by decide +kernel
theorem dX5_find_11 : decode cX5_find 11 = .ok (.ifCond .ne 4, 3) := by decide +kernel
theorem dX5_find_14 : decode cX5_find 14 = .ok (.return_, 1) := by decide +kernel
theorem dX5_find_15 : decode cX5_find 15 = .ok (.aload_n 0, 1) := by decide +kernel
theorem dX5_find_16 : decode cX5_find 16 = .ok (.aload_n 1, 1) := by decide +kernel
theorem dX5_find_17 : decode cX5_find 17 = .ok (.getfield 34, 3) := by decide +kernel
theorem dX5_find_20 : decode cX5_find 20 = .ok (.invokevirtual 45, 3) := by decide +kernel
theorem dX5_find_23 : decode cX5_find 23 = .ok (.iconst 0, 1) := by decide +kernel
theorem dX5_find_24 : decode cX5_find 24 = .ok (.istore_n 2, 1) := by decide +kernel
theorem dX5_find_25 : decode cX5_find 25 = .ok (.iconst 0, 1) := by decide +kernel
theorem dX5_find_26 : decode cX5_find 26 = .ok (.istore_n 3, 1) := by decide +kernel
theorem dX5_find_27 : decode cX5_find 27 = .ok (.iload_n 3, 1) := by decide +kernel
theorem dX5_find_28 : decode cX5_find 28 = .ok (.iconst 3, 1) := by decide +kernel
theorem dX5_find_29 : decode cX5_find 29 = .ok (.if_icmp .ge 18, 3) := by decide +kernel
theorem dX5_find_32 : decode cX5_find 32 = .ok (.iload_n 2, 1) := by decide +kernel
theorem dX5_find_33 : decode cX5_find 33 = .ok (.aload_n 0, 1) := by decide +kernel
theorem dX5_find_34 : decode cX5_find 34 = .ok (.aload_n 1, 1) := by decide +kernel
theorem dX5_find_35 : decode cX5_find 35 = .ok (.iload_n 3, 1) := by decide +kernel
theorem dX5_find_36 : decode cX5_find 36 = .ok (.invokevirtual 49, 3) := by decide +kernel
theorem dX5_find_39 : decode cX5_find 39 = .ok (.iadd, 1) := by decide +kernel
theorem dX5_find_40 : decode cX5_find 40 = .ok (.istore_n 2, 1) := by decide +kernel
theorem dX5_find_41 : decode cX5_find 41 = .ok (.iinc 3 1, 3) := by decide +kernel
theorem dX5_find_44 : decode cX5_find 44 = .ok (.goto (-17), 3) := by decide +kernel
theorem dX5_find_47 : decode cX5_find 47 = .ok (.aload_n 0, 1) := by decide +kernel
theorem dX5_find_48 : decode cX5_find 48 = .ok (.aload_n 1, 1) := by decide +kernel
theorem dX5_find_49 : decode cX5_find 49 = .ok (.getfield 28, 3) := by decide +kernel
theorem dX5_find_52 : decode cX5_find 52 = .ok (.iload_n 2, 1) := by decide +kernel
theorem dX5_find_53 : decode cX5_find 53 = .ok (.invokevirtual 53, 3) := by decide +kernel
theorem dX5_find_56 : decode cX5_find 56 = .ok (.aload_n 0, 1) := by decide +kernel
theorem dX5_find_57 : decode cX5_find 57 = .ok (.iconst 1, 1) := by decide +kernel
theorem dX5_find_58 : decode cX5_find 58 = .ok (.putfield 37, 3) := by decide +kernel
theorem dX5_find_61 : decode cX5_find 61 = .ok (.return_, 1) := by decide +kernel
theorem dX5_listHows_0 : decode cX5_listHows 0 = .ok (.aload_n 0, 1) := by decide +kernel
theorem dX5_listHows_1 : decode cX5_listHows 1 = .ok (.iconst 0, 1) := by decide +kernel
theorem dX5_listHows_2 : decode cX5_listHows 2 = .ok (.putfield 57, 3) := by decide +kernel
theorem dX5_listHows_5 : decode cX5_listHows 5 = .ok (.iconst 0, 1) := by decide +kernel
theorem dX5_listHows_6 : decode cX5_listHows 6 = .ok (.istore_n 2, 1) := by decide +kernel
theorem dX5_listHows_7 : decode cX5_listHows 7 = .ok (.iload_n 2, 1) := by decide +kernel
theorem dX5_listHows_8 : decode cX5_listHows 8 = .ok (.iload_n 1, 1) := by decide +kernel
theorem dX5_listHows_9 : decode cX5_listHows 9 = .ok (.ifCond .le 7, 3) := by decide +kernel
theorem dX5_listHows_12 : decode cX5_listHows 12 = .ok (.iconst 4, 1) := by decide +kernel
theorem dX5_listHows_13 : decode cX5_listHows 13 = .ok (.goto 4, 3) := by decide +kernel
theorem dX5_listHows_16 : decode cX5_listHows 16 = .ok (.iconst 0, 1) := by decide +kernel
theorem dX5_listHows_17 : decode cX5_listHows 17 = .ok (.if_icmp .gt 117, 3) := by decide +kernel
theorem dX5_listHows_20 : decode cX5_listHows 20 = .ok (.iconst 0, 1) := by decide +kernel
theorem dX5_listHows_21 : decode cX5_listHows 21 = .ok (.istore_n 3, 1) := by decide +kernel
theorem dX5_listHows_22 : decode cX5_listHows 22 = .ok (.iload_n 3, 1) := by decide +kernel
theorem dX5_listHows_23 : decode cX5_listHows 23 = .ok (.iload_n 1, 1) := by decide +kernel
theorem dX5_listHows_24 : decode cX5_listHows 24 = .ok (.iconst 1, 1) := by decide +kernel
theorem dX5_listHows_25 : decode cX5_listHows 25 = .ok (.if_icmp .le 9, 3) := by decide +kernel
theorem dX5_listHows_28 : decode cX5_listHows 28 = .ok (.iconst 4, 1) := by decide +kernel
theorem dX5_listHows_29 : decode cX5_listHows 29 = .ok (.iload_n 2, 1) := by decide +kernel
theorem dX5_listHows_30 : decode cX5_listHows 30 = .ok (.isub, 1) := by decide +kernel
theorem dX5_listHows_31 : decode cX5_listHows 31 = .ok (.goto 4, 3) := by decide +kernel
theorem dX5_listHows_34 : decode cX5_listHows 34 = .ok (.iconst 0, 1) := by decide +kernel
theorem dX5_listHows_35 : decode cX5_listHows 35 = .ok (.if_icmp .gt 93, 3) := by decide +kernel
theorem dX5_listHows_38 : decode cX5_listHows 38 = .ok (.iconst 0, 1) := by decide +kernel
theorem dX5_listHows_39 : decode cX5_listHows 39 = .ok (.istore 4, 2) := by decide +kernel
theorem dX5_listHows_41 : decode cX5_listHows 41 = .ok (.iload 4, 2) := by decide +kernel
theorem dX5_listHows_43 : decode cX5_listHows 43 = .ok (.iload_n 1, 1) := by decide +kernel
theorem dX5_listHows_44 : decode cX5_listHows 44 = .ok (.iconst 2, 1) := by decide +kernel
theorem dX5_listHows_45 : decode cX5_listHows 45 = .ok (.if_icmp .le 11, 3) := by decide +kernel
theorem dX5_listHows_48 : decode cX5_listHows 48 = .ok (.iconst 4, 1) := by decide +kernel
theorem dX5_listHows_49 : decode cX5_listHows 49 = .ok (.iload_n 2, 1) := by decide +kernel
theorem dX5_listHows_50 : decode cX5_listHows 50 = .ok (.isub, 1) := by decide +kernel
theorem dX5_listHows_51 : decode cX5_listHows 51 = .ok (.iload_n 3, 1) := by decide +kernel
theorem dX5_listHows_52 : decode cX5_listHows 52 = .ok (.isub, 1) := by decide +kernel
theorem dX5_listHows_53 : decode cX5_listHows 53 = .ok (.goto 4, 3) := by decide +kernel
theorem dX5_listHows_56 : decode cX5_listHows 56 = .ok (.iconst 0, 1) := by decide +kernel
theorem dX5_listHows_57 : decode cX5_listHows 57 = .ok (.if_icmp .gt 65, 3) := by decide +kernel
theorem dX5_listHows_60 : decode cX5_listHows 60 = .ok (.aload_n 0, 1) := by decide +kernel
theorem dX5_listHows_61 : decode cX5_listHows 61 = .ok (.getfield 57, 3) := by decide +kernel
theorem dX5_listHows_64 : decode cX5_listHows 64 = .ok (.bipush 35, 2) := by decide +kernel
theorem dX5_listHows_66 : decode cX5_listHows 66 = .ok (.if_icmp .ge 50, 3) := by decide +kernel
theorem dX5_listHows_69 : decode cX5_listHows 69 = .ok (.aload_n 0, 1) := by decide +kernel
theorem dX5_listHows_70 : decode cX5_listHows 70 = .ok (.getfield 11, 3) := by decide +kernel
theorem dX5_listHows_73 : decode cX5_listHows 73 = .ok (.aload_n 0, 1) := by decide +kernel
theorem dX5_listHows_74 : decode cX5_listHows 74 = .ok (.getfield 57, 3) := by decide +kernel
theorem dX5_listHows_77 : decode cX5_listHows 77 = .ok (.aaload, 1) := by decide +kernel
theorem dX5_listHows_78 : decode cX5_listHows 78 = .ok (.iconst 0, 1) := by decide +kernel
theorem dX5_listHows_79 : decode cX5_listHows 79 = .ok (.iload_n 2, 1) := by decide +kernel
theorem dX5_listHows_80 : decode cX5_listHows 80 = .ok (.iastore, 1) := by decide +kernel
theorem dX5_listHows_81 : decode cX5_listHows 81 = .ok (.aload_n 0, 1) := by decide +kernel
theorem dX5_listHows_82 : decode cX5_listHows 82 = .ok (.getfield 11, 3) := by decide +kernel
theorem dX5_listHows_85 : decode cX5_listHows 85 = .ok (.aload_n 0, 1) := by decide +kernel
theorem dX5_listHows_86 : decode cX5_listHows 86 = .ok (.getfield 57, 3) := by decide +kernel
theorem dX5_listHows_89 : decode cX5_listHows 89 = .ok (.aaload, 1) := by decide +kernel
theorem dX5_listHows_90 : decode cX5_listHows 90 = .ok (.iconst 1, 1) := by decide +kernel
theorem dX5_listHows_91 : decode cX5_listHows 91 = .ok (.iload_n 3, 1) := by decide +kernel
theorem dX5_listHows_92 : decode cX5_listHows 92 = .ok (.iastore, 1) := by decide +kernel
theorem dX5_listHows_93 : decode cX5_listHows 93 = .ok (.aload_n 0, 1) := by decide +kernel
theorem dX5_listHows_94 : decode cX5_listHows 94 = .ok (.getfield 11, 3) := by decide +kernel
theorem dX5_listHows_97 : decode cX5_listHows 97 = .ok (.aload_n 0, 1) := by decide +kernel
theorem dX5_listHows_98 : decode cX5_listHows 98 = .ok (.getfield 57, 3) := by decide +kernel
theorem dX5_listHows_101 : decode cX5_listHows 101 = .ok (.aaload, 1) := by decide +kernel
theorem dX5_listHows_102 : decode cX5_listHows 102 = .ok (.iconst 2, 1) := by decide +kernel
theorem dX5_listHows_103 : decode cX5_listHows 103 = .ok (.iload 4, 2) := by decide +kernel
theorem dX5_listHows_105 : decode cX5_listHows 105 = .ok (.iastore, 1) := by decide +kernel
theorem dX5_listHows_106 : decode cX5_listHows 106 = .ok (.aload_n 0, 1) := by decide +kernel
theorem dX5_listHows_107 : decode cX5_listHows 107 = .ok (.dup, 1) := by decide +kernel
theorem dX5_listHows_108 : decode cX5_listHows 108 = .ok (.getfield 57, 3) := by decide +kernel
theorem dX5_listHows_111 : decode cX5_listHows 111 = .ok (.iconst 1, 1) := by decide +kernel
theorem dX5_listHows_112 : decode cX5_listHows 112 = .ok (.iadd, 1) := by decide +kernel
theorem dX5_listHows_113 : decode cX5_listHows 113 = .ok (.putfield 57, 3) := by decide +kernel
theorem dX5_listHows_116 : decode cX5_listHows 116 = .ok (.iinc 4 1, 3) := by decide +kernel
theorem dX5_listHows_119 : decode cX5_listHows 119 = .ok (.goto (-78), 3) := by decide +kernel
theorem dX5_listHows_122 : decode cX5_listHows 122 = .ok (.iinc 3 1, 3) := by decide +kernel
theorem dX5_listHows_125 : decode cX5_listHows 125 = .ok (.goto (-103), 3) := by decide +kernel
theorem dX5_listHows_128 : decode cX5_listHows 128 = .ok (.iinc 2 1, 3) := by decide +kernel
theorem dX5_listHows_131 : decode cX5_listHows 131 = .ok (.goto (-124), 3) := by decide +kernel
theorem dX5_listHows_134 : decode cX5_listHows 134 = .ok (.return_, 1) := by decide +kernel
theorem dX5_fillGains_0 : decode cX5_fillGains 0 = .ok (.iconst 0, 1) := by decide +kernel
theorem dX5_fillGains_1 : decode cX5_fillGains 1 = .ok (.istore_n 3, 1) := by decide +kernel
theorem dX5_fillGains_2 : decode cX5_fillGains 2 = .ok (.iconst 0, 1) := by decide +kernel
theorem dX5_fillGains_3 : decode cX5_fillGains 3 = .ok (.istore 4, 2) := by decide +kernel
theorem dX5_fillGains_5 : decode cX5_fillGains 5 = .ok (.iload 4, 2) := by decide +kernel
theorem dX5_fillGains_7 : decode cX5_fillGains 7 = .ok (.bipush 125, 2) := by decide +kernel
theorem dX5_fillGains_9 : decode cX5_fillGains 9 = .ok (.if_icmp .ge 52, 3) := by decide +kernel
theorem dX5_fillGains_12 : decode cX5_fillGains 12 = .ok (.aload_n 0, 1) := by decide +kernel
theorem dX5_fillGains_13 : decode cX5_fillGains 13 = .ok (.getfield 14, 3) := by decide +kernel
theorem dX5_fillGains_16 : decode cX5_fillGains 16 = .ok (.iload_n 2, 1) := by decide +kernel
theorem dX5_fillGains_17 : decode cX5_fillGains 17 = .ok (.aaload, 1) := by decide +kernel
theorem dX5_fillGains_18 : decode cX5_fillGains 18 = .ok (.iload 4, 2) := by decide +kernel
theorem dX5_fillGains_20 : decode cX5_fillGains 20 = .ok (.iload_n 2, 1) := by decide +kernel
theorem dX5_fillGains_21 : decode cX5_fillGains 21 = .ok (.aload_n 1, 1) := by decide +kernel
theorem dX5_fillGains_22 : decode cX5_fillGains 22 = .ok (.getfield 34, 3) := by decide +kernel
theorem dX5_fillGains_25 : decode cX5_fillGains 25 = .ok (.if_icmp .ge 14, 3) := by decide +kernel
theorem dX5_fillGains_28 : decode cX5_fillGains 28 = .ok (.aload_n 0, 1) := by decide +kernel
theorem dX5_fillGains_29 : decode cX5_fillGains 29 = .ok (.aload_n 1, 1) := by decide +kernel
theorem dX5_fillGains_30 : decode cX5_fillGains 30 = .ok (.iload_n 2, 1) := by decide +kernel
theorem dX5_fillGains_31 : decode cX5_fillGains 31 = .ok (.iload 4, 2) := by decide +kernel
theorem dX5_fillGains_33 : decode cX5_fillGains 33 = .ok (.invokevirtual 60, 3) := by decide +kernel
theorem dX5_fillGains_36 : decode cX5_fillGains 36 = .ok (.goto 4, 3) := by decide +kernel
theorem dX5_fillGains_39 : decode cX5_fillGains 39 = .ok (.iconst 0, 1) := by decide +kernel
theorem dX5_fillGains_40 : decode cX5_fillGains 40 = .ok (.iastore, 1) := by decide +kernel
theorem dX5_fillGains_41 : decode cX5_fillGains 41 = .ok (.iload_n 3, 1) := by decide +kernel
theorem dX5_fillGains_42 : decode cX5_fillGains 42 = .ok (.aload_n 0, 1) := by decide +kernel
theorem dX5_fillGains_43 : decode cX5_fillGains 43 = .ok (.getfield 14, 3) := by decide +kernel
theorem dX5_fillGains_46 : decode cX5_fillGains 46 = .ok (.iload_n 2, 1) := by decide +kernel
theorem dX5_fillGains_47 : decode cX5_fillGains 47 = .ok (.aaload, 1) := by decide +kernel
theorem dX5_fillGains_48 : decode cX5_fillGains 48 = .ok (.iload 4, 2) := by decide +kernel
theorem dX5_fillGains_50 : decode cX5_fillGains 50 = .ok (.iaload, 1) := by decide +kernel
theorem dX5_fillGains_51 : decode cX5_fillGains 51 = .ok (.invokestatic 64, 3) := by decide +kernel
theorem dX5_fillGains_54 : decode cX5_fillGains 54 = .ok (.istore_n 3, 1) := by decide +kernel
theorem dX5_fillGains_55 : decode cX5_fillGains 55 = .ok (.iinc 4 1, 3) := by decide +kernel
theorem dX5_fillGains_58 : decode cX5_fillGains 58 = .ok (.goto (-53), 3) := by decide +kernel
theorem dX5_fillGains_61 : decode cX5_fillGains 61 = .ok (.iload_n 3, 1) := by decide +kernel
theorem dX5_fillGains_62 : decode cX5_fillGains 62 = .ok (.ireturn, 1) := by decide +kernel
theorem dX5_gain_0 : decode cX5_gain 0 = .ok (.aload_n 0, 1) := by decide +kernel
theorem dX5_gain_1 : decode cX5_gain 1 = .ok (.getfield 24, 3) := by decide +kernel
theorem dX5_gain_4 : decode cX5_gain 4 = .ok (.aload_n 1, 1) := by decide +kernel
theorem dX5_gain_5 : decode cX5_gain 5 = .ok (.getfield 70, 3) := by decide +kernel
theorem dX5_gain_8 : decode cX5_gain 8 = .ok (.iload_n 2, 1) := by decide +kernel
theorem dX5_gain_9 : decode cX5_gain 9 = .ok (.aaload, 1) := by decide +kernel
theorem dX5_gain_10 : decode cX5_gain 10 = .ok (.invokevirtual 74, 3) := by decide +kernel
theorem dX5_gain_13 : decode cX5_gain 13 = .ok (.iload_n 3, 1) := by decide +kernel
theorem dX5_gain_14 : decode cX5_gain 14 = .ok (.istore 4, 2) := by decide +kernel
theorem dX5_gain_16 : decode cX5_gain 16 = .ok (.iconst 2, 1) := by decide +kernel
theorem dX5_gain_17 : decode cX5_gain 17 = .ok (.istore 5, 2) := by decide +kernel
theorem dX5_gain_19 : decode cX5_gain 19 = .ok (.iload 5, 2) := by decide +kernel
theorem dX5_gain_21 : decode cX5_gain 21 = .ok (.ifCond .lt 44, 3) := by decide +kernel
theorem dX5_gain_24 : decode cX5_gain 24 = .ok (.iload 4, 2) := by decide +kernel
theorem dX5_gain_26 : decode cX5_gain 26 = .ok (.iconst 5, 1) := by decide +kernel
theorem dX5_gain_27 : decode cX5_gain 27 = .ok (.irem, 1) := by decide +kernel
theorem dX5_gain_28 : decode cX5_gain 28 = .ok (.istore 6, 2) := by decide +kernel
theorem dX5_gain_30 : decode cX5_gain 30 = .ok (.iload 4, 2) := by decide +kernel
theorem dX5_gain_32 : decode cX5_gain 32 = .ok (.iconst 5, 1) := by decide +kernel
theorem dX5_gain_33 : decode cX5_gain 33 = .ok (.idiv, 1) := by decide +kernel
theorem dX5_gain_34 : decode cX5_gain 34 = .ok (.istore 4, 2) := by decide +kernel
theorem dX5_gain_36 : decode cX5_gain 36 = .ok (.iload 6, 2) := by decide +kernel
theorem dX5_gain_38 : decode cX5_gain 38 = .ok (.ifCond .le 21, 3) := by decide +kernel
theorem dX5_gain_41 : decode cX5_gain 41 = .ok (.iload 5, 2) := by decide +kernel
theorem dX5_gain_43 : decode cX5_gain 43 = .ok (.aload_n 1, 1) := by decide +kernel
theorem dX5_gain_44 : decode cX5_gain 44 = .ok (.getfield 28, 3) := by decide +kernel
theorem dX5_gain_47 : decode cX5_gain 47 = .ok (.if_icmp .ge 12, 3) := by decide +kernel
theorem dX5_gain_50 : decode cX5_gain 50 = .ok (.aload_n 0, 1) := by decide +kernel
theorem dX5_gain_51 : decode cX5_gain 51 = .ok (.aload_n 1, 1) := by decide +kernel
theorem dX5_gain_52 : decode cX5_gain 52 = .ok (.iload 5, 2) := by decide +kernel
theorem dX5_gain_54 : decode cX5_gain 54 = .ok (.iload 6, 2) := by decide +kernel
theorem dX5_gain_56 : decode cX5_gain 56 = .ok (.invokevirtual 78, 3) := by decide +kernel
theorem dX5_gain_59 : decode cX5_gain 59 = .ok (.iinc 5 (-1), 3) := by decide +kernel
theorem dX5_gain_62 : decode cX5_gain 62 = .ok (.goto (-43), 3) := by decide +kernel
theorem dX5_gain_65 : decode cX5_gain 65 = .ok (.aload_n 0, 1) := by decide +kernel
theorem dX5_gain_66 : decode cX5_gain 66 = .ok (.getfield 24, 3) := by decide +kernel
theorem dX5_gain_69 : decode cX5_gain 69 = .ok (.invokevirtual 82, 3) := by decide +kernel
theorem dX5_gain_72 : decode cX5_gain 72 = .ok (.ifCond .eq 15, 3) := by decide +kernel
theorem dX5_gain_75 : decode cX5_gain 75 = .ok (.aload_n 1, 1) := by decide +kernel
theorem dX5_gain_76 : decode cX5_gain 76 = .ok (.getfield 70, 3) := by decide +kernel
theorem dX5_gain_79 : decode cX5_gain 79 = .ok (.iload_n 2, 1) := by decide +kernel
theorem dX5_gain_80 : decode cX5_gain 80 = .ok (.aaload, 1) := by decide +kernel
theorem dX5_gain_81 : decode cX5_gain 81 = .ok (.getfield 86, 3) := by decide +kernel
theorem dX5_gain_84 : decode cX5_gain 84 = .ok (.goto 4, 3) := by decide +kernel
theorem dX5_gain_87 : decode cX5_gain 87 = .ok (.iconst 0, 1) := by decide +kernel
theorem dX5_gain_88 : decode cX5_gain 88 = .ok (.ireturn, 1) := by decide +kernel
theorem dX5_addQuarters_0 : decode cX5_addQuarters 0 = .ok (.iload_n 3, 1) := by decide +kernel
theorem dX5_addQuarters_1 : decode cX5_addQuarters 1 = .ok (.iconst 3, 1) := by decide +kernel
theorem dX5_addQuarters_2 : decode cX5_addQuarters 2 = .ok (.imul, 1) := by decide +kernel
theorem dX5_addQuarters_3 : decode cX5_addQuarters 3 = .ok (.istore 4, 2) := by decide +kernel
theorem dX5_addQuarters_5 : decode cX5_addQuarters 5 = .ok (.iload 4, 2) := by decide +kernel
theorem dX5_addQuarters_7 : decode cX5_addQuarters 7 = .ok (.aload_n 1, 1) := by decide +kernel
theorem dX5_addQuarters_8 : decode cX5_addQuarters 8 = .ok (.getfield 91, 3) := by decide +kernel
theorem dX5_addQuarters_11 : decode cX5_addQuarters 11 = .ok (.iload_n 2, 1) := by decide +kernel
theorem dX5_addQuarters_12 : decode cX5_addQuarters 12 = .ok (.aaload, 1) := by decide +kernel
theorem dX5_addQuarters_13 : decode cX5_addQuarters 13 = .ok (.getfield 95, 3) := by decide +kernel
theorem dX5_addQuarters_16 : decode cX5_addQuarters 16 = .ok (.if_icmp .ge 14, 3) := by decide +kernel
theorem dX5_addQuarters_19 : decode cX5_addQuarters 19 = .ok (.aload_n 0, 1) := by decide +kernel
theorem dX5_addQuarters_20 : decode cX5_addQuarters 20 = .ok (.getfield 24, 3) := by decide +kernel
theorem dX5_addQuarters_23 : decode cX5_addQuarters 23 = .ok (.iload_n 2, 1) := by decide +kernel
theorem dX5_addQuarters_24 : decode cX5_addQuarters 24 = .ok (.invokevirtual 100, 3) := by decide +kernel
theorem dX5_addQuarters_27 : decode cX5_addQuarters 27 = .ok (.goto 20, 3) := by decide +kernel
theorem dX5_addQuarters_30 : decode cX5_addQuarters 30 = .ok (.aload_n 0, 1) := by decide +kernel
theorem dX5_addQuarters_31 : decode cX5_addQuarters 31 = .ok (.getfield 24, 3) := by decide +kernel
theorem dX5_addQuarters_34 : decode cX5_addQuarters 34 = .ok (.iload_n 2, 1) := by decide +kernel
theorem dX5_addQuarters_35 : decode cX5_addQuarters 35 = .ok (.aload_n 1, 1) := by decide +kernel
theorem dX5_addQuarters_36 : decode cX5_addQuarters 36 = .ok (.getfield 91, 3) := by decide +kernel
theorem dX5_addQuarters_39 : decode cX5_addQuarters 39 = .ok (.iload_n 2, 1) := by decide +kernel
theorem dX5_addQuarters_40 : decode cX5_addQuarters 40 = .ok (.aaload, 1) := by decide +kernel
theorem dX5_addQuarters_41 : decode cX5_addQuarters 41 = .ok (.iload 4, 2) := by decide +kernel
theorem dX5_addQuarters_43 : decode cX5_addQuarters 43 = .ok (.iconst 0, 1) := by decide +kernel
theorem dX5_addQuarters_44 : decode cX5_addQuarters 44 = .ok (.invokevirtual 103, 3) := by decide +kernel
theorem dX5_addQuarters_47 : decode cX5_addQuarters 47 = .ok (.return_, 1) := by decide +kernel
theorem dX5_search_0 : decode cX5_search 0 = .ok (.aload_n 0, 1) := by decide +kernel
theorem dX5_search_1 : decode cX5_search 1 = .ok (.iconst (-1), 1) := by decide +kernel
theorem dX5_search_2 : decode cX5_search 2 = .ok (.putfield 107, 3) := by decide +kernel
theorem dX5_search_5 : decode cX5_search 5 = .ok (.iload_n 1, 1) := by decide +kernel
theorem dX5_search_6 : decode cX5_search 6 = .ok (.ifCond .le 10, 3) := by decide +kernel
theorem dX5_search_9 : decode cX5_search 9 = .ok (.aload_n 0, 1) := by decide +kernel
theorem dX5_search_10 : decode cX5_search 10 = .ok (.getfield 57, 3) := by decide +kernel
theorem dX5_search_13 : decode cX5_search 13 = .ok (.goto 4, 3) := by decide +kernel
theorem dX5_search_16 : decode cX5_search 16 = .ok (.iconst 1, 1) := by decide +kernel
theorem dX5_search_17 : decode cX5_search 17 = .ok (.istore_n 3, 1) := by decide +kernel
theorem dX5_search_18 : decode cX5_search 18 = .ok (.iload_n 1, 1) := by decide +kernel
theorem dX5_search_19 : decode cX5_search 19 = .ok (.iconst 1, 1) := by decide +kernel
theorem dX5_search_20 : decode cX5_search 20 = .ok (.if_icmp .le 10, 3) := by decide +kernel
theorem dX5_search_23 : decode cX5_search 23 = .ok (.aload_n 0, 1) := by decide +kernel
theorem dX5_search_24 : decode cX5_search 24 = .ok (.getfield 57, 3) := by decide +kernel
theorem dX5_search_27 : decode cX5_search 27 = .ok (.goto 4, 3) := by decide +kernel
theorem dX5_search_30 : decode cX5_search 30 = .ok (.iconst 1, 1) := by decide +kernel
theorem dX5_search_31 : decode cX5_search 31 = .ok (.istore 4, 2) := by decide +kernel
theorem dX5_search_33 : decode cX5_search 33 = .ok (.iload_n 1, 1) := by decide +kernel
theorem dX5_search_34 : decode cX5_search 34 = .ok (.iconst 2, 1) := by decide +kernel
theorem dX5_search_35 : decode cX5_search 35 = .ok (.if_icmp .le 10, 3) := by decide +kernel
theorem dX5_search_38 : decode cX5_search 38 = .ok (.aload_n 0, 1) := by decide +kernel
theorem dX5_search_39 : decode cX5_search 39 = .ok (.getfield 57, 3) := by decide +kernel
theorem dX5_search_42 : decode cX5_search 42 = .ok (.goto 4, 3) := by decide +kernel
theorem dX5_search_45 : decode cX5_search 45 = .ok (.iconst 1, 1) := by decide +kernel
theorem dX5_search_46 : decode cX5_search 46 = .ok (.istore 5, 2) := by decide +kernel
theorem dX5_search_48 : decode cX5_search 48 = .ok (.iconst 0, 1) := by decide +kernel
theorem dX5_search_49 : decode cX5_search 49 = .ok (.istore 6, 2) := by decide +kernel
theorem dX5_search_51 : decode cX5_search 51 = .ok (.iload 6, 2) := by decide +kernel
theorem dX5_search_53 : decode cX5_search 53 = .ok (.iload_n 3, 1) := by decide +kernel
theorem dX5_search_54 : decode cX5_search 54 = .ok (.if_icmp .ge 131, 3) := by decide +kernel
theorem dX5_search_57 : decode cX5_search 57 = .ok (.aload_n 0, 1) := by decide +kernel
theorem dX5_search_58 : decode cX5_search 58 = .ok (.getfield 107, 3) := by decide +kernel
theorem dX5_search_61 : decode cX5_search 61 = .ok (.iload_n 2, 1) := by decide +kernel
theorem dX5_search_62 : decode cX5_search 62 = .ok (.if_icmp .ge 123, 3) := by decide +kernel
theorem dX5_search_65 : decode cX5_search 65 = .ok (.iconst 0, 1) := by decide +kernel
theorem dX5_search_66 : decode cX5_search 66 = .ok (.istore 7, 2) := by decide +kernel
theorem dX5_search_68 : decode cX5_search 68 = .ok (.iload 7, 2) := by decide +kernel
theorem dX5_search_70 : decode cX5_search 70 = .ok (.iload 4, 2) := by decide +kernel
theorem dX5_search_72 : decode cX5_search 72 = .ok (.if_icmp .ge 107, 3) := by decide +kernel
theorem dX5_search_75 : decode cX5_search 75 = .ok (.aload_n 0, 1) := by decide +kernel
theorem dX5_search_76 : decode cX5_search 76 = .ok (.getfield 107, 3) := by decide +kernel
theorem dX5_search_79 : decode cX5_search 79 = .ok (.iload_n 2, 1) := by decide +kernel
theorem dX5_search_80 : decode cX5_search 80 = .ok (.if_icmp .ge 99, 3) := by decide +kernel
theorem dX5_search_83 : decode cX5_search 83 = .ok (.iconst 0, 1) := by decide +kernel
theorem dX5_search_84 : decode cX5_search 84 = .ok (.istore 8, 2) := by decide +kernel
theorem dX5_search_86 : decode cX5_search 86 = .ok (.iload 8, 2) := by decide +kernel
theorem dX5_search_88 : decode cX5_search 88 = .ok (.iload 5, 2) := by decide +kernel
theorem dX5_search_90 : decode cX5_search 90 = .ok (.if_icmp .ge 83, 3) := by decide +kernel
theorem dX5_search_93 : decode cX5_search 93 = .ok (.aload_n 0, 1) := by decide +kernel
theorem dX5_search_94 : decode cX5_search 94 = .ok (.getfield 107, 3) := by decide +kernel
theorem dX5_search_97 : decode cX5_search 97 = .ok (.iload_n 2, 1) := by decide +kernel
theorem dX5_search_98 : decode cX5_search 98 = .ok (.if_icmp .ge 75, 3) := by decide +kernel
theorem dX5_search_101 : decode cX5_search 101 = .ok (.aload_n 0, 1) := by decide +kernel
theorem dX5_search_102 : decode cX5_search 102 = .ok (.aload_n 0, 1) := by decide +kernel
theorem dX5_search_103 : decode cX5_search 103 = .ok (.getfield 11, 3) := by decide +kernel
theorem dX5_search_106 : decode cX5_search 106 = .ok (.iload 6, 2) := by decide +kernel
theorem dX5_search_108 : decode cX5_search 108 = .ok (.aaload, 1) := by decide +kernel
theorem dX5_search_109 : decode cX5_search 109 = .ok (.aload_n 0, 1) := by decide +kernel
theorem dX5_search_110 : decode cX5_search 110 = .ok (.getfield 11, 3) := by decide +kernel
theorem dX5_search_113 : decode cX5_search 113 = .ok (.iload 7, 2) := by decide +kernel
theorem dX5_search_115 : decode cX5_search 115 = .ok (.aaload, 1) := by decide +kernel
theorem dX5_search_116 : decode cX5_search 116 = .ok (.aload_n 0, 1) := by decide +kernel
theorem dX5_search_117 : decode cX5_search 117 = .ok (.getfield 11, 3) := by decide +kernel
theorem dX5_search_120 : decode cX5_search 120 = .ok (.iload 8, 2) := by decide +kernel
theorem dX5_search_122 : decode cX5_search 122 = .ok (.aaload, 1) := by decide +kernel
theorem dX5_search_123 : decode cX5_search 123 = .ok (.invokevirtual 108, 3) := by decide +kernel
theorem dX5_search_126 : decode cX5_search 126 = .ok (.istore 9, 2) := by decide +kernel
theorem dX5_search_128 : decode cX5_search 128 = .ok (.iload 9, 2) := by decide +kernel
theorem dX5_search_130 : decode cX5_search 130 = .ok (.aload_n 0, 1) := by decide +kernel
theorem dX5_search_131 : decode cX5_search 131 = .ok (.getfield 107, 3) := by decide +kernel
theorem dX5_search_134 : decode cX5_search 134 = .ok (.if_icmp .le 33, 3) := by decide +kernel
theorem dX5_search_137 : decode cX5_search 137 = .ok (.aload_n 0, 1) := by decide +kernel
theorem dX5_search_138 : decode cX5_search 138 = .ok (.iload 9, 2) := by decide +kernel
theorem dX5_search_140 : decode cX5_search 140 = .ok (.putfield 107, 3) := by decide +kernel
theorem dX5_search_143 : decode cX5_search 143 = .ok (.aload_n 0, 1) := by decide +kernel
theorem dX5_search_144 : decode cX5_search 144 = .ok (.getfield 17, 3) := by decide +kernel
theorem dX5_search_147 : decode cX5_search 147 = .ok (.iconst 0, 1) := by decide +kernel
theorem dX5_search_148 : decode cX5_search 148 = .ok (.iload 6, 2) := by decide +kernel
theorem dX5_search_150 : decode cX5_search 150 = .ok (.iastore, 1) := by decide +kernel
theorem dX5_search_151 : decode cX5_search 151 = .ok (.aload_n 0, 1) := by decide +kernel
theorem dX5_search_152 : decode cX5_search 152 = .ok (.getfield 17, 3) := by decide +kernel
theorem dX5_search_155 : decode cX5_search 155 = .ok (.iconst 1, 1) := by decide +kernel
theorem dX5_search_156 : decode cX5_search 156 = .ok (.iload 7, 2) := by decide +kernel
theorem dX5_search_158 : decode cX5_search 158 = .ok (.iastore, 1) := by decide +kernel
theorem dX5_search_159 : decode cX5_search 159 = .ok (.aload_n 0, 1) := by decide +kernel
theorem dX5_search_160 : decode cX5_search 160 = .ok (.getfield 17, 3) := by decide +kernel
theorem dX5_search_163 : decode cX5_search 163 = .ok (.iconst 2, 1) := by decide +kernel
theorem dX5_search_164 : decode cX5_search 164 = .ok (.iload 8, 2) := by decide +kernel
theorem dX5_search_166 : decode cX5_search 166 = .ok (.iastore, 1) := by decide +kernel
theorem dX5_search_167 : decode cX5_search 167 = .ok (.iinc 8 1, 3) := by decide +kernel
theorem dX5_search_170 : decode cX5_search 170 = .ok (.goto (-84), 3) := by decide +kernel
theorem dX5_search_173 : decode cX5_search 173 = .ok (.iinc 7 1, 3) := by decide +kernel
theorem dX5_search_176 : decode cX5_search 176 = .ok (.goto (-108), 3) := by decide +kernel
theorem dX5_search_179 : decode cX5_search 179 = .ok (.iinc 6 1, 3) := by decide +kernel
theorem dX5_search_182 : decode cX5_search 182 = .ok (.goto (-131), 3) := by decide +kernel
theorem dX5_search_185 : decode cX5_search 185 = .ok (.return_, 1) := by decide +kernel
theorem dX5_worthOf_0 : decode cX5_worthOf 0 = .ok (.aload_n 0, 1) := by decide +kernel
theorem dX5_worthOf_1 : decode cX5_worthOf 1 = .ok (.getfield 14, 3) := by decide +kernel
theorem dX5_worthOf_4 : decode cX5_worthOf 4 = .ok (.iconst 0, 1) := by decide +kernel
theorem dX5_worthOf_5 : decode cX5_worthOf 5 = .ok (.aaload, 1) := by decide +kernel
theorem dX5_worthOf_6 : decode cX5_worthOf 6 = .ok (.aload_n 1, 1) := by decide +kernel
theorem dX5_worthOf_7 : decode cX5_worthOf 7 = .ok (.iconst 0, 1) := by decide +kernel
theorem dX5_worthOf_8 : decode cX5_worthOf 8 = .ok (.iaload, 1) := by decide +kernel
theorem dX5_worthOf_9 : decode cX5_worthOf 9 = .ok (.aload_n 2, 1) := by decide +kernel
theorem dX5_worthOf_10 : decode cX5_worthOf 10 = .ok (.iconst 0, 1) := by decide +kernel
theorem dX5_worthOf_11 : decode cX5_worthOf 11 = .ok (.iaload, 1) := by decide +kernel
theorem dX5_worthOf_12 : decode cX5_worthOf 12 = .ok (.aload_n 3, 1) := by decide +kernel
theorem dX5_worthOf_13 : decode cX5_worthOf 13 = .ok (.iconst 0, 1) := by decide +kernel
theorem dX5_worthOf_14 : decode cX5_worthOf 14 = .ok (.iaload, 1) := by decide +kernel
theorem dX5_worthOf_15 : decode cX5_worthOf 15 = .ok (.invokestatic 112, 3) := by decide +kernel
theorem dX5_worthOf_18 : decode cX5_worthOf 18 = .ok (.iaload, 1) := by decide +kernel
theorem dX5_worthOf_19 : decode cX5_worthOf 19 = .ok (.aload_n 0, 1) := by decide +kernel
theorem dX5_worthOf_20 : decode cX5_worthOf 20 = .ok (.getfield 14, 3) := by decide +kernel
theorem dX5_worthOf_23 : decode cX5_worthOf 23 = .ok (.iconst 1, 1) := by decide +kernel
theorem dX5_worthOf_24 : decode cX5_worthOf 24 = .ok (.aaload, 1) := by decide +kernel
theorem dX5_worthOf_25 : decode cX5_worthOf 25 = .ok (.aload_n 1, 1) := by decide +kernel
theorem dX5_worthOf_26 : decode cX5_worthOf 26 = .ok (.iconst 1, 1) := by decide +kernel
theorem dX5_worthOf_27 : decode cX5_worthOf 27 = .ok (.iaload, 1) := by decide +kernel
theorem dX5_worthOf_28 : decode cX5_worthOf 28 = .ok (.aload_n 2, 1) := by decide +kernel
theorem dX5_worthOf_29 : decode cX5_worthOf 29 = .ok (.iconst 1, 1) := by decide +kernel
theorem dX5_worthOf_30 : decode cX5_worthOf 30 = .ok (.iaload, 1) := by decide +kernel
theorem dX5_worthOf_31 : decode cX5_worthOf 31 = .ok (.aload_n 3, 1) := by decide +kernel
theorem dX5_worthOf_32 : decode cX5_worthOf 32 = .ok (.iconst 1, 1) := by decide +kernel
theorem dX5_worthOf_33 : decode cX5_worthOf 33 = .ok (.iaload, 1) := by decide +kernel
theorem dX5_worthOf_34 : decode cX5_worthOf 34 = .ok (.invokestatic 112, 3) := by decide +kernel
theorem dX5_worthOf_37 : decode cX5_worthOf 37 = .ok (.iaload, 1) := by decide +kernel
theorem dX5_worthOf_38 : decode cX5_worthOf 38 = .ok (.iadd, 1) := by decide +kernel
theorem dX5_worthOf_39 : decode cX5_worthOf 39 = .ok (.aload_n 0, 1) := by decide +kernel
theorem dX5_worthOf_40 : decode cX5_worthOf 40 = .ok (.getfield 14, 3) := by decide +kernel
theorem dX5_worthOf_43 : decode cX5_worthOf 43 = .ok (.iconst 2, 1) := by decide +kernel
theorem dX5_worthOf_44 : decode cX5_worthOf 44 = .ok (.aaload, 1) := by decide +kernel
theorem dX5_worthOf_45 : decode cX5_worthOf 45 = .ok (.aload_n 1, 1) := by decide +kernel
theorem dX5_worthOf_46 : decode cX5_worthOf 46 = .ok (.iconst 2, 1) := by decide +kernel
theorem dX5_worthOf_47 : decode cX5_worthOf 47 = .ok (.iaload, 1) := by decide +kernel
theorem dX5_worthOf_48 : decode cX5_worthOf 48 = .ok (.aload_n 2, 1) := by decide +kernel
theorem dX5_worthOf_49 : decode cX5_worthOf 49 = .ok (.iconst 2, 1) := by decide +kernel
theorem dX5_worthOf_50 : decode cX5_worthOf 50 = .ok (.iaload, 1) := by decide +kernel
theorem dX5_worthOf_51 : decode cX5_worthOf 51 = .ok (.aload_n 3, 1) := by decide +kernel
theorem dX5_worthOf_52 : decode cX5_worthOf 52 = .ok (.iconst 2, 1) := by decide +kernel
theorem dX5_worthOf_53 : decode cX5_worthOf 53 = .ok (.iaload, 1) := by decide +kernel
theorem dX5_worthOf_54 : decode cX5_worthOf 54 = .ok (.invokestatic 112, 3) := by decide +kernel
theorem dX5_worthOf_57 : decode cX5_worthOf 57 = .ok (.iaload, 1) := by decide +kernel
theorem dX5_worthOf_58 : decode cX5_worthOf 58 = .ok (.iadd, 1) := by decide +kernel
theorem dX5_worthOf_59 : decode cX5_worthOf 59 = .ok (.ireturn, 1) := by decide +kernel
theorem dX5_mix_0 : decode cX5_mix 0 = .ok (.iload_n 0, 1) := by decide +kernel
theorem dX5_mix_1 : decode cX5_mix 1 = .ok (.iconst 5, 1) := by decide +kernel
theorem dX5_mix_2 : decode cX5_mix 2 = .ok (.imul, 1) := by decide +kernel
theorem dX5_mix_3 : decode cX5_mix 3 = .ok (.iload_n 1, 1) := by decide +kernel
theorem dX5_mix_4 : decode cX5_mix 4 = .ok (.iadd, 1) := by decide +kernel
theorem dX5_mix_5 : decode cX5_mix 5 = .ok (.iconst 5, 1) := by decide +kernel
theorem dX5_mix_6 : decode cX5_mix 6 = .ok (.imul, 1) := by decide +kernel
theorem dX5_mix_7 : decode cX5_mix 7 = .ok (.iload_n 2, 1) := by decide +kernel
theorem dX5_mix_8 : decode cX5_mix 8 = .ok (.iadd, 1) := by decide +kernel
theorem dX5_mix_9 : decode cX5_mix 9 = .ok (.ireturn, 1) := by decide +kernel
theorem dX6_init_0 : decode cX6_init 0 = .ok (.aload_n 0, 1) := by decide +kernel
theorem dX6_init_1 : decode cX6_init 1 = .ok (.invokespecial 3, 3) := by decide +kernel
theorem dX6_init_4 : decode cX6_init 4 = .ok (.aload_n 0, 1) := by decide +kernel
theorem dX6_init_5 : decode cX6_init 5 = .ok (.bipush 64, 2) := by decide +kernel
theorem dX6_init_7 : decode cX6_init 7 = .ok (.newarray .int, 2) := by decide +kernel
theorem dX6_init_9 : decode cX6_init 9 = .ok (.putfield 11, 3) := by decide +kernel
theorem dX6_init_12 : decode cX6_init 12 = .ok (.aload_n 0, 1) := by decide +kernel
theorem dX6_init_13 : decode cX6_init 13 = .ok (.bipush 6, 2) := by decide +kernel
theorem dX6_init_15 : decode cX6_init 15 = .ok (.newarray .int, 2) := by decide +kernel
theorem dX6_init_17 : decode cX6_init 17 = .ok (.putfield 15, 3) := by decide +kernel
theorem dX6_init_20 : decode cX6_init 20 = .ok (.return_, 1) := by decide +kernel
theorem dX6_isFull_0 : decode cX6_isFull 0 = .ok (.aload_n 0, 1) := by decide +kernel
theorem dX6_isFull_1 : decode cX6_isFull 1 = .ok (.getfield 18, 3) := by decide +kernel
theorem dX6_isFull_4 : decode cX6_isFull 4 = .ok (.bipush 64, 2) := by decide +kernel
theorem dX6_isFull_6 : decode cX6_isFull 6 = .ok (.if_icmp .lt 7, 3) := by decide +kernel
theorem dX6_isFull_9 : decode cX6_isFull 9 = .ok (.iconst 1, 1) := by decide +kernel
theorem dX6_isFull_10 : decode cX6_isFull 10 = .ok (.goto 4, 3) := by decide +kernel
theorem dX6_isFull_13 : decode cX6_isFull 13 = .ok (.iconst 0, 1) := by decide +kernel
theorem dX6_isFull_14 : decode cX6_isFull 14 = .ok (.ireturn, 1) := by decide +kernel
theorem dX6_take_0 : decode cX6_take 0 = .ok (.aload_n 0, 1) := by decide +kernel
theorem dX6_take_1 : decode cX6_take 1 = .ok (.getfield 18, 3) := by decide +kernel
theorem dX6_take_4 : decode cX6_take 4 = .ok (.bipush 64, 2) := by decide +kernel
theorem dX6_take_6 : decode cX6_take 6 = .ok (.if_icmp .ge 23, 3) := by decide +kernel
theorem dX6_take_9 : decode cX6_take 9 = .ok (.aload_n 0, 1) := by decide +kernel
theorem dX6_take_10 : decode cX6_take 10 = .ok (.getfield 11, 3) := by decide +kernel
theorem dX6_take_13 : decode cX6_take 13 = .ok (.aload_n 0, 1) := by decide +kernel
theorem dX6_take_14 : decode cX6_take 14 = .ok (.getfield 18, 3) := by decide +kernel
theorem dX6_take_17 : decode cX6_take 17 = .ok (.iload_n 1, 1) := by decide +kernel
theorem dX6_take_18 : decode cX6_take 18 = .ok (.iastore, 1) := by decide +kernel
theorem dX6_take_19 : decode cX6_take 19 = .ok (.aload_n 0, 1) := by decide +kernel
theorem dX6_take_20 : decode cX6_take 20 = .ok (.dup, 1) := by decide +kernel
theorem dX6_take_21 : decode cX6_take 21 = .ok (.getfield 18, 3) := by decide +kernel
theorem dX6_take_24 : decode cX6_take 24 = .ok (.iconst 1, 1) := by decide +kernel
theorem dX6_take_25 : decode cX6_take 25 = .ok (.iadd, 1) := by decide +kernel
theorem dX6_take_26 : decode cX6_take 26 = .ok (.putfield 18, 3) := by decide +kernel
theorem dX6_take_29 : decode cX6_take 29 = .ok (.aload_n 0, 1) := by decide +kernel
theorem dX6_take_30 : decode cX6_take 30 = .ok (.getfield 18, 3) := by decide +kernel
theorem dX6_take_33 : decode cX6_take 33 = .ok (.ireturn, 1) := by decide +kernel
theorem dX6_clear_0 : decode cX6_clear 0 = .ok (.aload_n 0, 1) := by decide +kernel
theorem dX6_clear_1 : decode cX6_clear 1 = .ok (.iconst 0, 1) := by decide +kernel
theorem dX6_clear_2 : decode cX6_clear 2 = .ok (.putfield 18, 3) := by decide +kernel
theorem dX6_clear_5 : decode cX6_clear 5 = .ok (.return_, 1) := by decide +kernel
theorem dX6_tellAll_0 : decode cX6_tellAll 0 = .ok (.aload_n 0, 1) := by decide +kernel
theorem dX6_tellAll_1 : decode cX6_tellAll 1 = .ok (.invokevirtual 22, 3) := by decide +kernel
theorem dX6_tellAll_4 : decode cX6_tellAll 4 = .ok (.istore_n 2, 1) := by decide +kernel
theorem dX6_tellAll_5 : decode cX6_tellAll 5 = .ok (.iload_n 2, 1) := by decide +kernel
theorem dX6_tellAll_6 : decode cX6_tellAll 6 = .ok (.ifCond .lt 9, 3) := by decide +kernel
theorem dX6_tellAll_9 : decode cX6_tellAll 9 = .ok (.sipush (-1000), 3) := by decide +kernel
theorem dX6_tellAll_12 : decode cX6_tellAll 12 = .ok (.iload_n 2, 1) := by decide +kernel
theorem dX6_tellAll_13 : decode cX6_tellAll 13 = .ok (.isub, 1) := by decide +kernel
theorem dX6_tellAll_14 : decode cX6_tellAll 14 = .ok (.ireturn, 1) := by decide +kernel
theorem dX6_tellAll_15 : decode cX6_tellAll 15 = .ok (.aload_n 0, 1) := by decide +kernel
theorem dX6_tellAll_16 : decode cX6_tellAll 16 = .ok (.iconst 0, 1) := by decide +kernel
theorem dX6_tellAll_17 : decode cX6_tellAll 17 = .ok (.putfield 26, 3) := by decide +kernel
theorem dX6_tellAll_20 : decode cX6_tellAll 20 = .ok (.iconst 0, 1) := by decide +kernel
theorem dX6_tellAll_21 : decode cX6_tellAll 21 = .ok (.istore_n 3, 1) := by decide +kernel
theorem dX6_tellAll_22 : decode cX6_tellAll 22 = .ok (.iload_n 3, 1) := by decide +kernel
theorem dX6_tellAll_23 : decode cX6_tellAll 23 = .ok (.bipush 64, 2) := by decide +kernel
theorem dX6_tellAll_25 : decode cX6_tellAll 25 = .ok (.if_icmp .ge 56, 3) := by decide +kernel
theorem dX6_tellAll_28 : decode cX6_tellAll 28 = .ok (.aload_n 0, 1) := by decide +kernel
theorem dX6_tellAll_29 : decode cX6_tellAll 29 = .ok (.getfield 26, 3) := by decide +kernel
theorem dX6_tellAll_32 : decode cX6_tellAll 32 = .ok (.aload_n 0, 1) := by decide +kernel
theorem dX6_tellAll_33 : decode cX6_tellAll 33 = .ok (.getfield 18, 3) := by decide +kernel
theorem dX6_tellAll_36 : decode cX6_tellAll 36 = .ok (.if_icmp .ge 45, 3) := by decide +kernel
theorem dX6_tellAll_39 : decode cX6_tellAll 39 = .ok (.aload_n 0, 1) := by decide +kernel
theorem dX6_tellAll_40 : decode cX6_tellAll 40 = .ok (.getfield 26, 3) := by decide +kernel
theorem dX6_tellAll_43 : decode cX6_tellAll 43 = .ok (.istore 4, 2) := by decide +kernel
theorem dX6_tellAll_45 : decode cX6_tellAll 45 = .ok (.aload_n 0, 1) := by decide +kernel
theorem dX6_tellAll_46 : decode cX6_tellAll 46 = .ok (.invokevirtual 29, 3) := by decide +kernel
theorem dX6_tellAll_49 : decode cX6_tellAll 49 = .ok (.pop, 1) := by decide +kernel
theorem dX6_tellAll_50 : decode cX6_tellAll 50 = .ok (.aload_n 1, 1) := by decide +kernel
theorem dX6_tellAll_51 : decode cX6_tellAll 51 = .ok (.aload_n 0, 1) := by decide +kernel
theorem dX6_tellAll_52 : decode cX6_tellAll 52 = .ok (.getfield 11, 3) := by decide +kernel
theorem dX6_tellAll_55 : decode cX6_tellAll 55 = .ok (.iload 4, 2) := by decide +kernel
theorem dX6_tellAll_57 : decode cX6_tellAll 57 = .ok (.iaload, 1) := by decide +kernel
theorem dX6_tellAll_58 : decode cX6_tellAll 58 = .ok (.aload_n 0, 1) := by decide +kernel
theorem dX6_tellAll_59 : decode cX6_tellAll 59 = .ok (.getfield 15, 3) := by decide +kernel
theorem dX6_tellAll_62 : decode cX6_tellAll 62 = .ok (.invokevirtual 33, 3) := by decide +kernel
theorem dX6_tellAll_65 : decode cX6_tellAll 65 = .ok (.ifCond .ne 10, 3) := by decide +kernel
theorem dX6_tellAll_68 : decode cX6_tellAll 68 = .ok (.sipush (-2000), 3) := by decide +kernel
theorem dX6_tellAll_71 : decode cX6_tellAll 71 = .ok (.iload 4, 2) := by decide +kernel
theorem dX6_tellAll_73 : decode cX6_tellAll 73 = .ok (.isub, 1) := by decide +kernel
theorem dX6_tellAll_74 : decode cX6_tellAll 74 = .ok (.ireturn, 1) := by decide +kernel
theorem dX6_tellAll_75 : decode cX6_tellAll 75 = .ok (.iinc 3 1, 3) := by decide +kernel
theorem dX6_tellAll_78 : decode cX6_tellAll 78 = .ok (.goto (-56), 3) := by decide +kernel
theorem dX6_tellAll_81 : decode cX6_tellAll 81 = .ok (.iload_n 3, 1) := by decide +kernel
theorem dX6_tellAll_82 : decode cX6_tellAll 82 = .ok (.ireturn, 1) := by decide +kernel
theorem dX6_wrongLetter_0 : decode cX6_wrongLetter 0 = .ok (.aload_n 0, 1) := by decide +kernel
theorem dX6_wrongLetter_1 : decode cX6_wrongLetter 1 = .ok (.iconst 0, 1) := by decide +kernel
theorem dX6_wrongLetter_2 : decode cX6_wrongLetter 2 = .ok (.putfield 26, 3) := by decide +kernel
theorem dX6_wrongLetter_5 : decode cX6_wrongLetter 5 = .ok (.iconst 0, 1) := by decide +kernel
theorem dX6_wrongLetter_6 : decode cX6_wrongLetter 6 = .ok (.istore_n 1, 1) := by decide +kernel
theorem dX6_wrongLetter_7 : decode cX6_wrongLetter 7 = .ok (.iload_n 1, 1) := by decide +kernel
theorem dX6_wrongLetter_8 : decode cX6_wrongLetter 8 = .ok (.bipush 64, 2) := by decide +kernel
theorem dX6_wrongLetter_10 : decode cX6_wrongLetter 10 = .ok (.if_icmp .ge 36, 3) := by decide +kernel
theorem dX6_wrongLetter_13 : decode cX6_wrongLetter 13 = .ok (.aload_n 0, 1) := by decide +kernel
theorem dX6_wrongLetter_14 : decode cX6_wrongLetter 14 = .ok (.getfield 26, 3) := by decide +kernel
theorem dX6_wrongLetter_17 : decode cX6_wrongLetter 17 = .ok (.aload_n 0, 1) := by decide +kernel
theorem dX6_wrongLetter_18 : decode cX6_wrongLetter 18 = .ok (.getfield 18, 3) := by decide +kernel
theorem dX6_wrongLetter_21 : decode cX6_wrongLetter 21 = .ok (.if_icmp .lt 7, 3) := by decide +kernel
theorem dX6_wrongLetter_24 : decode cX6_wrongLetter 24 = .ok (.iload_n 1, 1) := by decide +kernel
theorem dX6_wrongLetter_25 : decode cX6_wrongLetter 25 = .ok (.ifCond .ne 21, 3) := by decide +kernel
theorem dX6_wrongLetter_28 : decode cX6_wrongLetter 28 = .ok (.aload_n 0, 1) := by decide +kernel
theorem dX6_wrongLetter_29 : decode cX6_wrongLetter 29 = .ok (.invokevirtual 29, 3) := by decide +kernel
theorem dX6_wrongLetter_32 : decode cX6_wrongLetter 32 = .ok (.ifCond .ne 8, 3) := by decide +kernel
theorem dX6_wrongLetter_35 : decode cX6_wrongLetter 35 = .ok (.aload_n 0, 1) := by decide +kernel
theorem dX6_wrongLetter_36 : decode cX6_wrongLetter 36 = .ok (.getfield 26, 3) := by decide +kernel
theorem dX6_wrongLetter_39 : decode cX6_wrongLetter 39 = .ok (.ireturn, 1) := by decide +kernel
theorem dX6_wrongLetter_40 : decode cX6_wrongLetter 40 = .ok (.iinc 1 1, 3) := by decide +kernel
theorem dX6_wrongLetter_43 : decode cX6_wrongLetter 43 = .ok (.goto (-36), 3) := by decide +kernel
theorem dX6_wrongLetter_46 : decode cX6_wrongLetter 46 = .ok (.iconst (-1), 1) := by decide +kernel
theorem dX6_wrongLetter_47 : decode cX6_wrongLetter 47 = .ok (.ireturn, 1) := by decide +kernel
theorem dX6_readStatement_0 : decode cX6_readStatement 0 = .ok (.aload_n 0, 1) := by decide +kernel
theorem dX6_readStatement_1 : decode cX6_readStatement 1 = .ok (.iconst 0, 1) := by decide +kernel
theorem dX6_readStatement_2 : decode cX6_readStatement 2 = .ok (.putfield 39, 3) := by decide +kernel
theorem dX6_readStatement_5 : decode cX6_readStatement 5 = .ok (.aload_n 0, 1) := by decide +kernel
theorem dX6_readStatement_6 : decode cX6_readStatement 6 = .ok (.invokevirtual 42, 3) := by decide +kernel
theorem dX6_readStatement_9 : decode cX6_readStatement 9 = .ok (.istore_n 1, 1) := by decide +kernel
theorem dX6_readStatement_10 : decode cX6_readStatement 10 = .ok (.iload_n 1, 1) := by decide +kernel
theorem dX6_readStatement_11 : decode cX6_readStatement 11 = .ok (.lookupswitch 229 #[(107, 173), (110, 41), (112, 132), (119, 74)], 41) := by decide +kernel
theorem dX6_readStatement_52 : decode cX6_readStatement 52 = .ok (.aload_n 0, 1) := by decide +kernel
theorem dX6_readStatement_53 : decode cX6_readStatement 53 = .ok (.dup, 1) := by decide +kernel
theorem dX6_readStatement_54 : decode cX6_readStatement 54 = .ok (.getfield 26, 3) := by decide +kernel
theorem dX6_readStatement_57 : decode cX6_readStatement 57 = .ok (.iconst 1, 1) := by decide +kernel
theorem dX6_readStatement_58 : decode cX6_readStatement 58 = .ok (.iadd, 1) := by decide +kernel
theorem dX6_readStatement_59 : decode cX6_readStatement 59 = .ok (.putfield 26, 3) := by decide +kernel
theorem dX6_readStatement_62 : decode cX6_readStatement 62 = .ok (.aload_n 0, 1) := by decide +kernel
theorem dX6_readStatement_63 : decode cX6_readStatement 63 = .ok (.iconst 1, 1) := by decide +kernel
theorem dX6_readStatement_64 : decode cX6_readStatement 64 = .ok (.invokevirtual 45, 3) := by decide +kernel
theorem dX6_readStatement_67 : decode cX6_readStatement 67 = .ok (.ifCond .eq 16, 3) := by decide +kernel
theorem dX6_readStatement_70 : decode cX6_readStatement 70 = .ok (.aload_n 0, 1) := by decide +kernel
theorem dX6_readStatement_71 : decode cX6_readStatement 71 = .ok (.bipush 59, 2) := by decide +kernel
theorem dX6_readStatement_73 : decode cX6_readStatement 73 = .ok (.invokevirtual 49, 3) := by decide +kernel
theorem dX6_readStatement_76 : decode cX6_readStatement 76 = .ok (.ifCond .eq 7, 3) := by decide +kernel
theorem dX6_readStatement_79 : decode cX6_readStatement 79 = .ok (.iconst 1, 1) := by decide +kernel
theorem dX6_readStatement_80 : decode cX6_readStatement 80 = .ok (.goto 4, 3) := by decide +kernel
theorem dX6_readStatement_83 : decode cX6_readStatement 83 = .ok (.iconst 0, 1) := by decide +kernel
theorem dX6_readStatement_84 : decode cX6_readStatement 84 = .ok (.ireturn, 1) := by decide +kernel
theorem dX6_readStatement_85 : decode cX6_readStatement 85 = .ok (.aload_n 0, 1) := by decide +kernel
theorem dX6_readStatement_86 : decode cX6_readStatement 86 = .ok (.dup, 1) := by decide +kernel
theorem dX6_readStatement_87 : decode cX6_readStatement 87 = .ok (.getfield 26, 3) := by decide +kernel
theorem dX6_readStatement_90 : decode cX6_readStatement 90 = .ok (.iconst 1, 1) := by decide +kernel
theorem dX6_readStatement_91 : decode cX6_readStatement 91 = .ok (.iadd, 1) := by decide +kernel
theorem dX6_readStatement_92 : decode cX6_readStatement 92 = .ok (.putfield 26, 3) := by decide +kernel
theorem dX6_readStatement_95 : decode cX6_readStatement 95 = .ok (.aload_n 0, 1) := by decide +kernel
theorem dX6_readStatement_96 : decode cX6_readStatement 96 = .ok (.iconst 1, 1) := by decide +kernel
theorem dX6_readStatement_97 : decode cX6_readStatement 97 = .ok (.invokevirtual 45, 3) := by decide +kernel
theorem dX6_readStatement_100 : decode cX6_readStatement 100 = .ok (.ifCond .eq 41, 3) := by decide +kernel
theorem dX6_readStatement_103 : decode cX6_readStatement 103 = .ok (.aload_n 0, 1) := by decide +kernel
theorem dX6_readStatement_104 : decode cX6_readStatement 104 = .ok (.iconst 1, 1) := by decide +kernel
theorem dX6_readStatement_105 : decode cX6_readStatement 105 = .ok (.invokevirtual 45, 3) := by decide +kernel
theorem dX6_readStatement_108 : decode cX6_readStatement 108 = .ok (.ifCond .eq 33, 3) := by decide +kernel
theorem dX6_readStatement_111 : decode cX6_readStatement 111 = .ok (.aload_n 0, 1) := by decide +kernel
theorem dX6_readStatement_112 : decode cX6_readStatement 112 = .ok (.bipush 44, 2) := by decide +kernel
theorem dX6_readStatement_114 : decode cX6_readStatement 114 = .ok (.invokevirtual 49, 3) := by decide +kernel
theorem dX6_readStatement_117 : decode cX6_readStatement 117 = .ok (.ifCond .eq 24, 3) := by decide +kernel
theorem dX6_readStatement_120 : decode cX6_readStatement 120 = .ok (.aload_n 0, 1) := by decide +kernel
theorem dX6_readStatement_121 : decode cX6_readStatement 121 = .ok (.iconst 2, 1) := by decide +kernel
theorem dX6_readStatement_122 : decode cX6_readStatement 122 = .ok (.invokevirtual 45, 3) := by decide +kernel
theorem dX6_readStatement_125 : decode cX6_readStatement 125 = .ok (.ifCond .eq 16, 3) := by decide +kernel
theorem dX6_readStatement_128 : decode cX6_readStatement 128 = .ok (.aload_n 0, 1) := by decide +kernel
theorem dX6_readStatement_129 : decode cX6_readStatement 129 = .ok (.bipush 59, 2) := by decide +kernel
theorem dX6_readStatement_131 : decode cX6_readStatement 131 = .ok (.invokevirtual 49, 3) := by decide +kernel
theorem dX6_readStatement_134 : decode cX6_readStatement 134 = .ok (.ifCond .eq 7, 3) := by decide +kernel
theorem dX6_readStatement_137 : decode cX6_readStatement 137 = .ok (.iconst 1, 1) := by decide +kernel
theorem dX6_readStatement_138 : decode cX6_readStatement 138 = .ok (.goto 4, 3) := by decide +kernel
theorem dX6_readStatement_141 : decode cX6_readStatement 141 = .ok (.iconst 0, 1) := by decide +kernel
theorem dX6_readStatement_142 : decode cX6_readStatement 142 = .ok (.ireturn, 1) := by decide +kernel
theorem dX6_readStatement_143 : decode cX6_readStatement 143 = .ok (.aload_n 0, 1) := by decide +kernel
theorem dX6_readStatement_144 : decode cX6_readStatement 144 = .ok (.dup, 1) := by decide +kernel
theorem dX6_readStatement_145 : decode cX6_readStatement 145 = .ok (.getfield 26, 3) := by decide +kernel
theorem dX6_readStatement_148 : decode cX6_readStatement 148 = .ok (.iconst 1, 1) := by decide +kernel
theorem dX6_readStatement_149 : decode cX6_readStatement 149 = .ok (.iadd, 1) := by decide +kernel
theorem dX6_readStatement_150 : decode cX6_readStatement 150 = .ok (.putfield 26, 3) := by decide +kernel
theorem dX6_readStatement_153 : decode cX6_readStatement 153 = .ok (.aload_n 0, 1) := by decide +kernel
theorem dX6_readStatement_154 : decode cX6_readStatement 154 = .ok (.iconst 2, 1) := by decide +kernel
theorem dX6_readStatement_155 : decode cX6_readStatement 155 = .ok (.invokevirtual 52, 3) := by decide +kernel
theorem dX6_readStatement_158 : decode cX6_readStatement 158 = .ok (.ifCond .eq 24, 3) := by decide +kernel
theorem dX6_readStatement_161 : decode cX6_readStatement 161 = .ok (.aload_n 0, 1) := by decide +kernel
theorem dX6_readStatement_162 : decode cX6_readStatement 162 = .ok (.iconst 2, 1) := by decide +kernel
theorem dX6_readStatement_163 : decode cX6_readStatement 163 = .ok (.invokevirtual 45, 3) := by decide +kernel
theorem dX6_readStatement_166 : decode cX6_readStatement 166 = .ok (.ifCond .eq 16, 3) := by decide +kernel
theorem dX6_readStatement_169 : decode cX6_readStatement 169 = .ok (.aload_n 0, 1) := by decide +kernel
theorem dX6_readStatement_170 : decode cX6_readStatement 170 = .ok (.bipush 59, 2) := by decide +kernel
theorem dX6_readStatement_172 : decode cX6_readStatement 172 = .ok (.invokevirtual 49, 3) := by decide +kernel
theorem dX6_readStatement_175 : decode cX6_readStatement 175 = .ok (.ifCond .eq 7, 3) := by decide +kernel
theorem dX6_readStatement_178 : decode cX6_readStatement 178 = .ok (.iconst 1, 1) := by decide +kernel
theorem dX6_readStatement_179 : decode cX6_readStatement 179 = .ok (.goto 4, 3) := by decide +kernel
theorem dX6_readStatement_182 : decode cX6_readStatement 182 = .ok (.iconst 0, 1) := by decide +kernel
theorem dX6_readStatement_183 : decode cX6_readStatement 183 = .ok (.ireturn, 1) := by decide +kernel
theorem dX6_readStatement_184 : decode cX6_readStatement 184 = .ok (.aload_n 0, 1) := by decide +kernel
theorem dX6_readStatement_185 : decode cX6_readStatement 185 = .ok (.dup, 1) := by decide +kernel
theorem dX6_readStatement_186 : decode cX6_readStatement 186 = .ok (.getfield 26, 3) := by decide +kernel
theorem dX6_readStatement_189 : decode cX6_readStatement 189 = .ok (.iconst 1, 1) := by decide +kernel
theorem dX6_readStatement_190 : decode cX6_readStatement 190 = .ok (.iadd, 1) := by decide +kernel
theorem dX6_readStatement_191 : decode cX6_readStatement 191 = .ok (.putfield 26, 3) := by decide +kernel
theorem dX6_readStatement_194 : decode cX6_readStatement 194 = .ok (.aload_n 0, 1) := by decide +kernel
theorem dX6_readStatement_195 : decode cX6_readStatement 195 = .ok (.invokevirtual 55, 3) := by decide +kernel
theorem dX6_readStatement_198 : decode cX6_readStatement 198 = .ok (.ifCond .eq 40, 3) := by decide +kernel
theorem dX6_readStatement_201 : decode cX6_readStatement 201 = .ok (.aload_n 0, 1) := by decide +kernel
theorem dX6_readStatement_202 : decode cX6_readStatement 202 = .ok (.iconst 1, 1) := by decide +kernel
theorem dX6_readStatement_203 : decode cX6_readStatement 203 = .ok (.invokevirtual 45, 3) := by decide +kernel
theorem dX6_readStatement_206 : decode cX6_readStatement 206 = .ok (.ifCond .eq 32, 3) := by decide +kernel
theorem dX6_readStatement_209 : decode cX6_readStatement 209 = .ok (.aload_n 0, 1) := by decide +kernel
theorem dX6_readStatement_210 : decode cX6_readStatement 210 = .ok (.iconst 3, 1) := by decide +kernel
theorem dX6_readStatement_211 : decode cX6_readStatement 211 = .ok (.invokevirtual 52, 3) := by decide +kernel
theorem dX6_readStatement_214 : decode cX6_readStatement 214 = .ok (.ifCond .eq 24, 3) := by decide +kernel
theorem dX6_readStatement_217 : decode cX6_readStatement 217 = .ok (.aload_n 0, 1) := by decide +kernel
theorem dX6_readStatement_218 : decode cX6_readStatement 218 = .ok (.iconst 2, 1) := by decide +kernel
theorem dX6_readStatement_219 : decode cX6_readStatement 219 = .ok (.invokevirtual 45, 3) := by decide +kernel
theorem dX6_readStatement_222 : decode cX6_readStatement 222 = .ok (.ifCond .eq 16, 3) := by decide +kernel
theorem dX6_readStatement_225 : decode cX6_readStatement 225 = .ok (.aload_n 0, 1) := by decide +kernel
theorem dX6_readStatement_226 : decode cX6_readStatement 226 = .ok (.bipush 59, 2) := by decide +kernel
theorem dX6_readStatement_228 : decode cX6_readStatement 228 = .ok (.invokevirtual 49, 3) := by decide +kernel
theorem dX6_readStatement_231 : decode cX6_readStatement 231 = .ok (.ifCond .eq 7, 3) := by decide +kernel
theorem dX6_readStatement_234 : decode cX6_readStatement 234 = .ok (.iconst 1, 1) := by decide +kernel
theorem dX6_readStatement_235 : decode cX6_readStatement 235 = .ok (.goto 4, 3) := by decide +kernel
theorem dX6_readStatement_238 : decode cX6_readStatement 238 = .ok (.iconst 0, 1) := by decide +kernel
theorem dX6_readStatement_239 : decode cX6_readStatement 239 = .ok (.ireturn, 1) := by decide +kernel
theorem dX6_readStatement_240 : decode cX6_readStatement 240 = .ok (.iconst 0, 1) := by decide +kernel
theorem dX6_readStatement_241 : decode cX6_readStatement 241 = .ok (.ireturn, 1) := by decide +kernel
theorem dX6_letter_0 : decode cX6_letter 0 = .ok (.aload_n 0, 1) := by decide +kernel
theorem dX6_letter_1 : decode cX6_letter 1 = .ok (.getfield 26, 3) := by decide +kernel
theorem dX6_letter_4 : decode cX6_letter 4 = .ok (.ifCond .lt 26, 3) := by decide +kernel
theorem dX6_letter_7 : decode cX6_letter 7 = .ok (.aload_n 0, 1) := by decide +kernel
theorem dX6_letter_8 : decode cX6_letter 8 = .ok (.getfield 26, 3) := by decide +kernel
theorem dX6_letter_11 : decode cX6_letter 11 = .ok (.aload_n 0, 1) := by decide +kernel
theorem dX6_letter_12 : decode cX6_letter 12 = .ok (.getfield 18, 3) := by decide +kernel
theorem dX6_letter_15 : decode cX6_letter 15 = .ok (.if_icmp .ge 15, 3) := by decide +kernel
theorem dX6_letter_18 : decode cX6_letter 18 = .ok (.aload_n 0, 1) := by decide +kernel
theorem dX6_letter_19 : decode cX6_letter 19 = .ok (.getfield 11, 3) := by decide +kernel
theorem dX6_letter_22 : decode cX6_letter 22 = .ok (.aload_n 0, 1) := by decide +kernel
theorem dX6_letter_23 : decode cX6_letter 23 = .ok (.getfield 26, 3) := by decide +kernel
theorem dX6_letter_26 : decode cX6_letter 26 = .ok (.iaload, 1) := by decide +kernel
theorem dX6_letter_27 : decode cX6_letter 27 = .ok (.goto 4, 3) := by decide +kernel
theorem dX6_letter_30 : decode cX6_letter 30 = .ok (.iconst (-1), 1) := by decide +kernel
theorem dX6_letter_31 : decode cX6_letter 31 = .ok (.ireturn, 1) := by decide +kernel
theorem dX6_say_0 : decode cX6_say 0 = .ok (.aload_n 0, 1) := by decide +kernel
theorem dX6_say_1 : decode cX6_say 1 = .ok (.getfield 39, 3) := by decide +kernel
theorem dX6_say_4 : decode cX6_say 4 = .ok (.aload_n 0, 1) := by decide +kernel
theorem dX6_say_5 : decode cX6_say 5 = .ok (.getfield 15, 3) := by decide +kernel
theorem dX6_say_8 : decode cX6_say 8 = .ok (.arraylength, 1) := by decide +kernel
theorem dX6_say_9 : decode cX6_say 9 = .ok (.if_icmp .ge 23, 3) := by decide +kernel
theorem dX6_say_12 : decode cX6_say 12 = .ok (.aload_n 0, 1) := by decide +kernel
theorem dX6_say_13 : decode cX6_say 13 = .ok (.getfield 15, 3) := by decide +kernel
theorem dX6_say_16 : decode cX6_say 16 = .ok (.aload_n 0, 1) := by decide +kernel
theorem dX6_say_17 : decode cX6_say 17 = .ok (.getfield 39, 3) := by decide +kernel
theorem dX6_say_20 : decode cX6_say 20 = .ok (.iload_n 1, 1) := by decide +kernel
theorem dX6_say_21 : decode cX6_say 21 = .ok (.iastore, 1) := by decide +kernel
theorem dX6_say_22 : decode cX6_say 22 = .ok (.aload_n 0, 1) := by decide +kernel
theorem dX6_say_23 : decode cX6_say 23 = .ok (.dup, 1) := by decide +kernel
theorem dX6_say_24 : decode cX6_say 24 = .ok (.getfield 39, 3) := by decide +kernel
theorem dX6_say_27 : decode cX6_say 27 = .ok (.iconst 1, 1) := by decide +kernel
theorem dX6_say_28 : decode cX6_say 28 = .ok (.iadd, 1) := by decide +kernel
theorem dX6_say_29 : decode cX6_say 29 = .ok (.putfield 39, 3) := by decide +kernel
theorem dX6_say_32 : decode cX6_say 32 = .ok (.return_, 1) := by decide +kernel
theorem dX6_readSign_0 : decode cX6_readSign 0 = .ok (.aload_n 0, 1) := by decide +kernel
theorem dX6_readSign_1 : decode cX6_readSign 1 = .ok (.invokevirtual 42, 3) := by decide +kernel
theorem dX6_readSign_4 : decode cX6_readSign 4 = .ok (.iload_n 1, 1) := by decide +kernel
theorem dX6_readSign_5 : decode cX6_readSign 5 = .ok (.if_icmp .eq 5, 3) := by decide +kernel
theorem dX6_readSign_8 : decode cX6_readSign 8 = .ok (.iconst 0, 1) := by decide +kernel
theorem dX6_readSign_9 : decode cX6_readSign 9 = .ok (.ireturn, 1) := by decide +kernel
theorem dX6_readSign_10 : decode cX6_readSign 10 = .ok (.aload_n 0, 1) := by decide +kernel
theorem dX6_readSign_11 : decode cX6_readSign 11 = .ok (.dup, 1) := by decide +kernel
theorem dX6_readSign_12 : decode cX6_readSign 12 = .ok (.getfield 26, 3) := by decide +kernel
theorem dX6_readSign_15 : decode cX6_readSign 15 = .ok (.iconst 1, 1) := by decide +kernel
theorem dX6_readSign_16 : decode cX6_readSign 16 = .ok (.iadd, 1) := by decide +kernel
theorem dX6_readSign_17 : decode cX6_readSign 17 = .ok (.putfield 26, 3) := by decide +kernel
theorem dX6_readSign_20 : decode cX6_readSign 20 = .ok (.iconst 1, 1) := by decide +kernel
theorem dX6_readSign_21 : decode cX6_readSign 21 = .ok (.ireturn, 1) := by decide +kernel
theorem dX6_isAtDigit_0 : decode cX6_isAtDigit 0 = .ok (.aload_n 0, 1) := by decide +kernel
theorem dX6_isAtDigit_1 : decode cX6_isAtDigit 1 = .ok (.getfield 26, 3) := by decide +kernel
theorem dX6_isAtDigit_4 : decode cX6_isAtDigit 4 = .ok (.ifCond .lt 46, 3) := by decide +kernel
theorem dX6_isAtDigit_7 : decode cX6_isAtDigit 7 = .ok (.aload_n 0, 1) := by decide +kernel
theorem dX6_isAtDigit_8 : decode cX6_isAtDigit 8 = .ok (.getfield 26, 3) := by decide +kernel
theorem dX6_isAtDigit_11 : decode cX6_isAtDigit 11 = .ok (.aload_n 0, 1) := by decide +kernel
theorem dX6_isAtDigit_12 : decode cX6_isAtDigit 12 = .ok (.getfield 18, 3) := by decide +kernel
theorem dX6_isAtDigit_15 : decode cX6_isAtDigit 15 = .ok (.if_icmp .ge 35, 3) := by decide +kernel
theorem dX6_isAtDigit_18 : decode cX6_isAtDigit 18 = .ok (.aload_n 0, 1) := by decide +kernel
theorem dX6_isAtDigit_19 : decode cX6_isAtDigit 19 = .ok (.getfield 11, 3) := by decide +kernel
theorem dX6_isAtDigit_22 : decode cX6_isAtDigit 22 = .ok (.aload_n 0, 1) := by decide +kernel
theorem dX6_isAtDigit_23 : decode cX6_isAtDigit 23 = .ok (.getfield 26, 3) := by decide +kernel
theorem dX6_isAtDigit_26 : decode cX6_isAtDigit 26 = .ok (.iaload, 1) := by decide +kernel
theorem dX6_isAtDigit_27 : decode cX6_isAtDigit 27 = .ok (.bipush 48, 2) := by decide +kernel
theorem dX6_isAtDigit_29 : decode cX6_isAtDigit 29 = .ok (.if_icmp .lt 21, 3) := by decide +kernel
theorem dX6_isAtDigit_32 : decode cX6_isAtDigit 32 = .ok (.aload_n 0, 1) := by decide +kernel
theorem dX6_isAtDigit_33 : decode cX6_isAtDigit 33 = .ok (.getfield 11, 3) := by decide +kernel
theorem dX6_isAtDigit_36 : decode cX6_isAtDigit 36 = .ok (.aload_n 0, 1) := by decide +kernel
theorem dX6_isAtDigit_37 : decode cX6_isAtDigit 37 = .ok (.getfield 26, 3) := by decide +kernel
theorem dX6_isAtDigit_40 : decode cX6_isAtDigit 40 = .ok (.iaload, 1) := by decide +kernel
theorem dX6_isAtDigit_41 : decode cX6_isAtDigit 41 = .ok (.bipush 57, 2) := by decide +kernel
theorem dX6_isAtDigit_43 : decode cX6_isAtDigit 43 = .ok (.if_icmp .gt 7, 3) := by decide +kernel
theorem dX6_isAtDigit_46 : decode cX6_isAtDigit 46 = .ok (.iconst 1, 1) := by decide +kernel
theorem dX6_isAtDigit_47 : decode cX6_isAtDigit 47 = .ok (.goto 4, 3) := by decide +kernel
theorem dX6_isAtDigit_50 : decode cX6_isAtDigit 50 = .ok (.iconst 0, 1) := by decide +kernel
theorem dX6_isAtDigit_51 : decode cX6_isAtDigit 51 = .ok (.ireturn, 1) := by decide +kernel
theorem dX6_readNumber_0 : decode cX6_readNumber 0 = .ok (.aload_n 0, 1) := by decide +kernel
theorem dX6_readNumber_1 : decode cX6_readNumber 1 = .ok (.invokevirtual 58, 3) := by decide +kernel
theorem dX6_readNumber_4 : decode cX6_readNumber 4 = .ok (.ifCond .ne 5, 3) := by decide +kernel
theorem dX6_readNumber_7 : decode cX6_readNumber 7 = .ok (.iconst 0, 1) := by decide +kernel
theorem dX6_readNumber_8 : decode cX6_readNumber 8 = .ok (.ireturn, 1) := by decide +kernel
theorem dX6_readNumber_9 : decode cX6_readNumber 9 = .ok (.iconst 0, 1) := by decide +kernel
theorem dX6_readNumber_10 : decode cX6_readNumber 10 = .ok (.istore_n 2, 1) := by decide +kernel
theorem dX6_readNumber_11 : decode cX6_readNumber 11 = .ok (.iconst 0, 1) := by decide +kernel
theorem dX6_readNumber_12 : decode cX6_readNumber 12 = .ok (.istore_n 3, 1) := by decide +kernel
theorem dX6_readNumber_13 : decode cX6_readNumber 13 = .ok (.iload_n 3, 1) := by decide +kernel
theorem dX6_readNumber_14 : decode cX6_readNumber 14 = .ok (.iload_n 1, 1) := by decide +kernel
theorem dX6_readNumber_15 : decode cX6_readNumber 15 = .ok (.if_icmp .ge 39, 3) := by decide +kernel
theorem dX6_readNumber_18 : decode cX6_readNumber 18 = .ok (.aload_n 0, 1) := by decide +kernel
theorem dX6_readNumber_19 : decode cX6_readNumber 19 = .ok (.invokevirtual 58, 3) := by decide +kernel
theorem dX6_readNumber_22 : decode cX6_readNumber 22 = .ok (.ifCond .eq 32, 3) := by decide +kernel
theorem dX6_readNumber_25 : decode cX6_readNumber 25 = .ok (.bipush 10, 2) := by decide +kernel
theorem dX6_readNumber_27 : decode cX6_readNumber 27 = .ok (.iload_n 2, 1) := by decide +kernel
theorem dX6_readNumber_28 : decode cX6_readNumber 28 = .ok (.imul, 1) := by decide +kernel
theorem dX6_readNumber_29 : decode cX6_readNumber 29 = .ok (.aload_n 0, 1) := by decide +kernel
theorem dX6_readNumber_30 : decode cX6_readNumber 30 = .ok (.invokevirtual 42, 3) := by decide +kernel
theorem dX6_readNumber_33 : decode cX6_readNumber 33 = .ok (.iadd, 1) := by decide +kernel
theorem dX6_readNumber_34 : decode cX6_readNumber 34 = .ok (.bipush 48, 2) := by decide +kernel
theorem dX6_readNumber_36 : decode cX6_readNumber 36 = .ok (.isub, 1) := by decide +kernel
theorem dX6_readNumber_37 : decode cX6_readNumber 37 = .ok (.istore_n 2, 1) := by decide +kernel
theorem dX6_readNumber_38 : decode cX6_readNumber 38 = .ok (.aload_n 0, 1) := by decide +kernel
theorem dX6_readNumber_39 : decode cX6_readNumber 39 = .ok (.dup, 1) := by decide +kernel
theorem dX6_readNumber_40 : decode cX6_readNumber 40 = .ok (.getfield 26, 3) := by decide +kernel
theorem dX6_readNumber_43 : decode cX6_readNumber 43 = .ok (.iconst 1, 1) := by decide +kernel
theorem dX6_readNumber_44 : decode cX6_readNumber 44 = .ok (.iadd, 1) := by decide +kernel
theorem dX6_readNumber_45 : decode cX6_readNumber 45 = .ok (.putfield 26, 3) := by decide +kernel
theorem dX6_readNumber_48 : decode cX6_readNumber 48 = .ok (.iinc 3 1, 3) := by decide +kernel
theorem dX6_readNumber_51 : decode cX6_readNumber 51 = .ok (.goto (-38), 3) := by decide +kernel
theorem dX6_readNumber_54 : decode cX6_readNumber 54 = .ok (.aload_n 0, 1) := by decide +kernel
theorem dX6_readNumber_55 : decode cX6_readNumber 55 = .ok (.iload_n 2, 1) := by decide +kernel
theorem dX6_readNumber_56 : decode cX6_readNumber 56 = .ok (.invokevirtual 61, 3) := by decide +kernel
theorem dX6_readNumber_59 : decode cX6_readNumber 59 = .ok (.iconst 1, 1) := by decide +kernel
theorem dX6_readNumber_60 : decode cX6_readNumber 60 = .ok (.ireturn, 1) := by decide +kernel
theorem dX6_readThree_0 : decode cX6_readThree 0 = .ok (.iconst 0, 1) := by decide +kernel
theorem dX6_readThree_1 : decode cX6_readThree 1 = .ok (.istore_n 2, 1) := by decide +kernel
theorem dX6_readThree_2 : decode cX6_readThree 2 = .ok (.iload_n 2, 1) := by decide +kernel
theorem dX6_readThree_3 : decode cX6_readThree 3 = .ok (.iconst 3, 1) := by decide +kernel
theorem dX6_readThree_4 : decode cX6_readThree 4 = .ok (.if_icmp .ge 28, 3) := by decide +kernel
theorem dX6_readThree_7 : decode cX6_readThree 7 = .ok (.aload_n 0, 1) := by decide +kernel
theorem dX6_readThree_8 : decode cX6_readThree 8 = .ok (.iload_n 1, 1) := by decide +kernel
theorem dX6_readThree_9 : decode cX6_readThree 9 = .ok (.invokevirtual 45, 3) := by decide +kernel
theorem dX6_readThree_12 : decode cX6_readThree 12 = .ok (.ifCond .eq 12, 3) := by decide +kernel
theorem dX6_readThree_15 : decode cX6_readThree 15 = .ok (.aload_n 0, 1) := by decide +kernel
theorem dX6_readThree_16 : decode cX6_readThree 16 = .ok (.bipush 44, 2) := by decide +kernel
theorem dX6_readThree_18 : decode cX6_readThree 18 = .ok (.invokevirtual 49, 3) := by decide +kernel
theorem dX6_readThree_21 : decode cX6_readThree 21 = .ok (.ifCond .ne 5, 3) := by decide +kernel
theorem dX6_readThree_24 : decode cX6_readThree 24 = .ok (.iconst 0, 1) := by decide +kernel
theorem dX6_readThree_25 : decode cX6_readThree 25 = .ok (.ireturn, 1) := by decide +kernel
theorem dX6_readThree_26 : decode cX6_readThree 26 = .ok (.iinc 2 1, 3) := by decide +kernel
theorem dX6_readThree_29 : decode cX6_readThree 29 = .ok (.goto (-27), 3) := by decide +kernel
theorem dX6_readThree_32 : decode cX6_readThree 32 = .ok (.iconst 1, 1) := by decide +kernel
theorem dX6_readThree_33 : decode cX6_readThree 33 = .ok (.ireturn, 1) := by decide +kernel
theorem dX6_readKind_0 : decode cX6_readKind 0 = .ok (.aload_n 0, 1) := by decide +kernel
theorem dX6_readKind_1 : decode cX6_readKind 1 = .ok (.invokevirtual 42, 3) := by decide +kernel
theorem dX6_readKind_4 : decode cX6_readKind 4 = .ok (.istore_n 1, 1) := by decide +kernel
theorem dX6_readKind_5 : decode cX6_readKind 5 = .ok (.iconst 0, 1) := by decide +kernel
theorem dX6_readKind_6 : decode cX6_readKind 6 = .ok (.istore_n 2, 1) := by decide +kernel
theorem dX6_readKind_7 : decode cX6_readKind 7 = .ok (.iload_n 2, 1) := by decide +kernel
theorem dX6_readKind_8 : decode cX6_readKind 8 = .ok (.getstatic 65, 3) := by decide +kernel
theorem dX6_readKind_11 : decode cX6_readKind 11 = .ok (.arraylength, 1) := by decide +kernel
theorem dX6_readKind_12 : decode cX6_readKind 12 = .ok (.if_icmp .ge 35, 3) := by decide +kernel
theorem dX6_readKind_15 : decode cX6_readKind 15 = .ok (.getstatic 65, 3) := by decide +kernel
theorem dX6_readKind_18 : decode cX6_readKind 18 = .ok (.iload_n 2, 1) := by decide +kernel
theorem dX6_readKind_19 : decode cX6_readKind 19 = .ok (.caload, 1) := by decide +kernel
theorem dX6_readKind_20 : decode cX6_readKind 20 = .ok (.iload_n 1, 1) := by decide +kernel
theorem dX6_readKind_21 : decode cX6_readKind 21 = .ok (.if_icmp .ne 20, 3) := by decide +kernel
theorem dX6_readKind_24 : decode cX6_readKind 24 = .ok (.aload_n 0, 1) := by decide +kernel
theorem dX6_readKind_25 : decode cX6_readKind 25 = .ok (.dup, 1) := by decide +kernel
theorem dX6_readKind_26 : decode cX6_readKind 26 = .ok (.getfield 26, 3) := by decide +kernel
theorem dX6_readKind_29 : decode cX6_readKind 29 = .ok (.iconst 1, 1) := by decide +kernel
theorem dX6_readKind_30 : decode cX6_readKind 30 = .ok (.iadd, 1) := by decide +kernel
theorem dX6_readKind_31 : decode cX6_readKind 31 = .ok (.putfield 26, 3) := by decide +kernel
theorem dX6_readKind_34 : decode cX6_readKind 34 = .ok (.aload_n 0, 1) := by decide +kernel
theorem dX6_readKind_35 : decode cX6_readKind 35 = .ok (.iload_n 2, 1) := by decide +kernel
theorem dX6_readKind_36 : decode cX6_readKind 36 = .ok (.invokevirtual 61, 3) := by decide +kernel
theorem dX6_readKind_39 : decode cX6_readKind 39 = .ok (.iconst 1, 1) := by decide +kernel
theorem dX6_readKind_40 : decode cX6_readKind 40 = .ok (.ireturn, 1) := by decide +kernel
theorem dX6_readKind_41 : decode cX6_readKind 41 = .ok (.iinc 2 1, 3) := by decide +kernel
theorem dX6_readKind_44 : decode cX6_readKind 44 = .ok (.goto (-37), 3) := by decide +kernel
theorem dX6_readKind_47 : decode cX6_readKind 47 = .ok (.iconst 0, 1) := by decide +kernel
theorem dX6_readKind_48 : decode cX6_readKind 48 = .ok (.ireturn, 1) := by decide +kernel
theorem dX7_init_0 : decode cX7_init 0 = .ok (.aload_n 0, 1) := by decide +kernel
theorem dX7_init_1 : decode cX7_init 1 = .ok (.invokespecial 3, 3) := by decide +kernel
theorem dX7_init_4 : decode cX7_init 4 = .ok (.aload_n 0, 1) := by decide +kernel
theorem dX7_init_5 : decode cX7_init 5 = .ok (.iconst 3, 1) := by decide +kernel
theorem dX7_init_6 : decode cX7_init 6 = .ok (.putfield 9, 3) := by decide +kernel
theorem dX7_init_9 : decode cX7_init 9 = .ok (.aload_n 0, 1) := by decide +kernel
theorem dX7_init_10 : decode cX7_init 10 = .ok (.bipush 6, 2) := by decide +kernel
theorem dX7_init_12 : decode cX7_init 12 = .ok (.bipush 6, 2) := by decide +kernel
theorem dX7_init_14 : decode cX7_init 14 = .ok (.multianewarray 15 2, 4) := by decide +kernel
theorem dX7_init_18 : decode cX7_init 18 = .ok (.putfield 17, 3) := by decide +kernel
theorem dX7_init_21 : decode cX7_init 21 = .ok (.aload_n 0, 1) := by decide +kernel
theorem dX7_init_22 : decode cX7_init 22 = .ok (.bipush 6, 2) := by decide +kernel
theorem dX7_init_24 : decode cX7_init 24 = .ok (.bipush 6, 2) := by decide +kernel
theorem dX7_init_26 : decode cX7_init 26 = .ok (.multianewarray 15 2, 4) := by decide +kernel
theorem dX7_init_30 : decode cX7_init 30 = .ok (.putfield 20, 3) := by decide +kernel
theorem dX7_init_33 : decode cX7_init 33 = .ok (.aload_n 0, 1) := by decide +kernel
theorem dX7_init_34 : decode cX7_init 34 = .ok (.bipush 6, 2) := by decide +kernel
theorem dX7_init_36 : decode cX7_init 36 = .ok (.anewarray 23, 3) := by decide +kernel
theorem dX7_init_39 : decode cX7_init 39 = .ok (.putfield 25, 3) := by decide +kernel
theorem dX7_init_42 : decode cX7_init 42 = .ok (.aload_n 0, 1) := by decide +kernel
theorem dX7_init_43 : decode cX7_init 43 = .ok (.bipush 6, 2) := by decide +kernel
theorem dX7_init_45 : decode cX7_init 45 = .ok (.anewarray 29, 3) := by decide +kernel
theorem dX7_init_48 : decode cX7_init 48 = .ok (.putfield 31, 3) := by decide +kernel
theorem dX7_init_51 : decode cX7_init 51 = .ok (.aload_n 0, 1) := by decide +kernel
theorem dX7_init_52 : decode cX7_init 52 = .ok (.bipush 24, 2) := by decide +kernel
theorem dX7_init_54 : decode cX7_init 54 = .ok (.anewarray 35, 3) := by decide +kernel
theorem dX7_init_57 : decode cX7_init 57 = .ok (.putfield 37, 3) := by decide +kernel
theorem dX7_init_60 : decode cX7_init 60 = .ok (.iconst 0, 1) := by decide +kernel
theorem dX7_init_61 : decode cX7_init 61 = .ok (.istore_n 1, 1) := by decide +kernel
theorem dX7_init_62 : decode cX7_init 62 = .ok (.iload_n 1, 1) := by decide +kernel
theorem dX7_init_63 : decode cX7_init 63 = .ok (.bipush 6, 2) := by decide +kernel
theorem dX7_init_65 : decode cX7_init 65 = .ok (.if_icmp .ge 22, 3) := by decide +kernel
theorem dX7_init_68 : decode cX7_init 68 = .ok (.aload_n 0, 1) := by decide +kernel
theorem dX7_init_69 : decode cX7_init 69 = .ok (.getfield 25, 3) := by decide +kernel
theorem dX7_init_72 : decode cX7_init 72 = .ok (.iload_n 1, 1) := by decide +kernel
theorem dX7_init_73 : decode cX7_init 73 = .ok (.new 23, 3) := by decide +kernel
theorem dX7_init_76 : decode cX7_init 76 = .ok (.dup, 1) := by decide +kernel
theorem dX7_init_77 : decode cX7_init 77 = .ok (.invokespecial 41, 3) := by decide +kernel
theorem dX7_init_80 : decode cX7_init 80 = .ok (.aastore, 1) := by decide +kernel
theorem dX7_init_81 : decode cX7_init 81 = .ok (.iinc 1 1, 3) := by decide +kernel
theorem dX7_init_84 : decode cX7_init 84 = .ok (.goto (-22), 3) := by decide +kernel
theorem dX7_init_87 : decode cX7_init 87 = .ok (.iconst 0, 1) := by decide +kernel
theorem dX7_init_88 : decode cX7_init 88 = .ok (.istore_n 1, 1) := by decide +kernel
theorem dX7_init_89 : decode cX7_init 89 = .ok (.iload_n 1, 1) := by decide +kernel
theorem dX7_init_90 : decode cX7_init 90 = .ok (.bipush 6, 2) := by decide +kernel
theorem dX7_init_92 : decode cX7_init 92 = .ok (.if_icmp .ge 22, 3) := by decide +kernel
theorem dX7_init_95 : decode cX7_init 95 = .ok (.aload_n 0, 1) := by decide +kernel
theorem dX7_init_96 : decode cX7_init 96 = .ok (.getfield 31, 3) := by decide +kernel
theorem dX7_init_99 : decode cX7_init 99 = .ok (.iload_n 1, 1) := by decide +kernel
theorem dX7_init_100 : decode cX7_init 100 = .ok (.new 29, 3) := by decide +kernel
theorem dX7_init_103 : decode cX7_init 103 = .ok (.dup, 1) := by decide +kernel
theorem dX7_init_104 : decode cX7_init 104 = .ok (.invokespecial 42, 3) := by decide +kernel
theorem dX7_init_107 : decode cX7_init 107 = .ok (.aastore, 1) := by decide +kernel
theorem dX7_init_108 : decode cX7_init 108 = .ok (.iinc 1 1, 3) := by decide +kernel
theorem dX7_init_111 : decode cX7_init 111 = .ok (.goto (-22), 3) := by decide +kernel
theorem dX7_init_114 : decode cX7_init 114 = .ok (.iconst 0, 1) := by decide +kernel
theorem dX7_init_115 : decode cX7_init 115 = .ok (.istore_n 1, 1) := by decide +kernel
theorem dX7_init_116 : decode cX7_init 116 = .ok (.iload_n 1, 1) := by decide +kernel
theorem dX7_init_117 : decode cX7_init 117 = .ok (.bipush 24, 2) := by decide +kernel
theorem dX7_init_119 : decode cX7_init 119 = .ok (.if_icmp .ge 22, 3) := by decide +kernel
theorem dX7_init_122 : decode cX7_init 122 = .ok (.aload_n 0, 1) := by decide +kernel
theorem dX7_init_123 : decode cX7_init 123 = .ok (.getfield 37, 3) := by decide +kernel
theorem dX7_init_126 : decode cX7_init 126 = .ok (.iload_n 1, 1) := by decide +kernel
theorem dX7_init_127 : decode cX7_init 127 = .ok (.new 35, 3) := by decide +kernel
theorem dX7_init_130 : decode cX7_init 130 = .ok (.dup, 1) := by decide +kernel
theorem dX7_init_131 : decode cX7_init 131 = .ok (.invokespecial 43, 3) := by decide +kernel
theorem dX7_init_134 : decode cX7_init 134 = .ok (.aastore, 1) := by decide +kernel
theorem dX7_init_135 : decode cX7_init 135 = .ok (.iinc 1 1, 3) := by decide +kernel
theorem dX7_init_138 : decode cX7_init 138 = .ok (.goto (-22), 3) := by decide +kernel
theorem dX7_init_141 : decode cX7_init 141 = .ok (.return_, 1) := by decide +kernel
theorem dX7_become_0 : decode cX7_become 0 = .ok (.aload_n 0, 1) := by decide +kernel
theorem dX7_become_1 : decode cX7_become 1 = .ok (.aload_n 1, 1) := by decide +kernel
theorem dX7_become_2 : decode cX7_become 2 = .ok (.getfield 9, 3) := by decide +kernel
theorem dX7_become_5 : decode cX7_become 5 = .ok (.putfield 9, 3) := by decide +kernel
theorem dX7_become_8 : decode cX7_become 8 = .ok (.aload_n 0, 1) := by decide +kernel
theorem dX7_become_9 : decode cX7_become 9 = .ok (.aload_n 1, 1) := by decide +kernel
theorem dX7_become_10 : decode cX7_become 10 = .ok (.getfield 44, 3) := by decide +kernel
theorem dX7_become_13 : decode cX7_become 13 = .ok (.putfield 44, 3) := by decide +kernel
theorem dX7_become_16 : decode cX7_become 16 = .ok (.aload_n 0, 1) := by decide +kernel
theorem dX7_become_17 : decode cX7_become 17 = .ok (.aload_n 1, 1) := by decide +kernel
theorem dX7_become_18 : decode cX7_become 18 = .ok (.getfield 47, 3) := by decide +kernel
theorem dX7_become_21 : decode cX7_become 21 = .ok (.putfield 47, 3) := by decide +kernel
theorem dX7_become_24 : decode cX7_become 24 = .ok (.iconst 0, 1) := by decide +kernel
theorem dX7_become_25 : decode cX7_become 25 = .ok (.istore_n 2, 1) := by decide +kernel
theorem dX7_become_26 : decode cX7_become 26 = .ok (.iload_n 2, 1) := by decide +kernel
theorem dX7_become_27 : decode cX7_become 27 = .ok (.bipush 6, 2) := by decide +kernel
theorem dX7_become_29 : decode cX7_become 29 = .ok (.if_icmp .ge 28, 3) := by decide +kernel
theorem dX7_become_32 : decode cX7_become 32 = .ok (.aload_n 1, 1) := by decide +kernel
theorem dX7_become_33 : decode cX7_become 33 = .ok (.getfield 17, 3) := by decide +kernel
theorem dX7_become_36 : decode cX7_become 36 = .ok (.iload_n 2, 1) := by decide +kernel
theorem dX7_become_37 : decode cX7_become 37 = .ok (.aaload, 1) := by decide +kernel
theorem dX7_become_38 : decode cX7_become 38 = .ok (.iconst 0, 1) := by decide +kernel
theorem dX7_become_39 : decode cX7_become 39 = .ok (.aload_n 0, 1) := by decide +kernel
theorem dX7_become_40 : decode cX7_become 40 = .ok (.getfield 17, 3) := by decide +kernel
theorem dX7_become_43 : decode cX7_become 43 = .ok (.iload_n 2, 1) := by decide +kernel
theorem dX7_become_44 : decode cX7_become 44 = .ok (.aaload, 1) := by decide +kernel
theorem dX7_become_45 : decode cX7_become 45 = .ok (.iconst 0, 1) := by decide +kernel
theorem dX7_become_46 : decode cX7_become 46 = .ok (.bipush 6, 2) := by decide +kernel
theorem dX7_become_48 : decode cX7_become 48 = .ok (.invokestatic 50, 3) := by decide +kernel
theorem dX7_become_51 : decode cX7_become 51 = .ok (.iinc 2 1, 3) := by decide +kernel
theorem dX7_become_54 : decode cX7_become 54 = .ok (.goto (-28), 3) := by decide +kernel
theorem dX7_become_57 : decode cX7_become 57 = .ok (.iconst 0, 1) := by decide +kernel
theorem dX7_become_58 : decode cX7_become 58 = .ok (.istore_n 2, 1) := by decide +kernel
theorem dX7_become_59 : decode cX7_become 59 = .ok (.iload_n 2, 1) := by decide +kernel
theorem dX7_become_60 : decode cX7_become 60 = .ok (.bipush 6, 2) := by decide +kernel
theorem dX7_become_62 : decode cX7_become 62 = .ok (.if_icmp .ge 24, 3) := by decide +kernel
theorem dX7_become_65 : decode cX7_become 65 = .ok (.aload_n 0, 1) := by decide +kernel
theorem dX7_become_66 : decode cX7_become 66 = .ok (.getfield 25, 3) := by decide +kernel
theorem dX7_become_69 : decode cX7_become 69 = .ok (.iload_n 2, 1) := by decide +kernel
theorem dX7_become_70 : decode cX7_become 70 = .ok (.aaload, 1) := by decide +kernel
theorem dX7_become_71 : decode cX7_become 71 = .ok (.aload_n 1, 1) := by decide +kernel
theorem dX7_become_72 : decode cX7_become 72 = .ok (.getfield 25, 3) := by decide +kernel
theorem dX7_become_75 : decode cX7_become 75 = .ok (.iload_n 2, 1) := by decide +kernel
theorem dX7_become_76 : decode cX7_become 76 = .ok (.aaload, 1) := by decide +kernel
theorem dX7_become_77 : decode cX7_become 77 = .ok (.invokevirtual 56, 3) := by decide +kernel
theorem dX7_become_80 : decode cX7_become 80 = .ok (.iinc 2 1, 3) := by decide +kernel
theorem dX7_become_83 : decode cX7_become 83 = .ok (.goto (-24), 3) := by decide +kernel
theorem dX7_become_86 : decode cX7_become 86 = .ok (.iconst 0, 1) := by decide +kernel
theorem dX7_become_87 : decode cX7_become 87 = .ok (.istore_n 2, 1) := by decide +kernel
theorem dX7_become_88 : decode cX7_become 88 = .ok (.iload_n 2, 1) := by decide +kernel
theorem dX7_become_89 : decode cX7_become 89 = .ok (.bipush 6, 2) := by decide +kernel
theorem dX7_become_91 : decode cX7_become 91 = .ok (.if_icmp .ge 24, 3) := by decide +kernel
theorem dX7_become_94 : decode cX7_become 94 = .ok (.aload_n 0, 1) := by decide +kernel
theorem dX7_become_95 : decode cX7_become 95 = .ok (.getfield 31, 3) := by decide +kernel
theorem dX7_become_98 : decode cX7_become 98 = .ok (.iload_n 2, 1) := by decide +kernel
theorem dX7_become_99 : decode cX7_become 99 = .ok (.aaload, 1) := by decide +kernel
theorem dX7_become_100 : decode cX7_become 100 = .ok (.aload_n 1, 1) := by decide +kernel
theorem dX7_become_101 : decode cX7_become 101 = .ok (.getfield 31, 3) := by decide +kernel
theorem dX7_become_104 : decode cX7_become 104 = .ok (.iload_n 2, 1) := by decide +kernel
theorem dX7_become_105 : decode cX7_become 105 = .ok (.aaload, 1) := by decide +kernel
theorem dX7_become_106 : decode cX7_become 106 = .ok (.invokevirtual 60, 3) := by decide +kernel
theorem dX7_become_109 : decode cX7_become 109 = .ok (.iinc 2 1, 3) := by decide +kernel
theorem dX7_become_112 : decode cX7_become 112 = .ok (.goto (-24), 3) := by decide +kernel
theorem dX7_become_115 : decode cX7_become 115 = .ok (.iconst 0, 1) := by decide +kernel
theorem dX7_become_116 : decode cX7_become 116 = .ok (.istore_n 2, 1) := by decide +kernel
theorem dX7_become_117 : decode cX7_become 117 = .ok (.iload_n 2, 1) := by decide +kernel
theorem dX7_become_118 : decode cX7_become 118 = .ok (.bipush 24, 2) := by decide +kernel
theorem dX7_become_120 : decode cX7_become 120 = .ok (.if_icmp .ge 24, 3) := by decide +kernel
theorem dX7_become_123 : decode cX7_become 123 = .ok (.aload_n 0, 1) := by decide +kernel
theorem dX7_become_124 : decode cX7_become 124 = .ok (.getfield 37, 3) := by decide +kernel
theorem dX7_become_127 : decode cX7_become 127 = .ok (.iload_n 2, 1) := by decide +kernel
theorem dX7_become_128 : decode cX7_become 128 = .ok (.aaload, 1) := by decide +kernel
theorem dX7_become_129 : decode cX7_become 129 = .ok (.aload_n 1, 1) := by decide +kernel
theorem dX7_become_130 : decode cX7_become 130 = .ok (.getfield 37, 3) := by decide +kernel
theorem dX7_become_133 : decode cX7_become 133 = .ok (.iload_n 2, 1) := by decide +kernel
theorem dX7_become_134 : decode cX7_become 134 = .ok (.aaload, 1) := by decide +kernel
theorem dX7_become_135 : decode cX7_become 135 = .ok (.invokevirtual 63, 3) := by decide +kernel
theorem dX7_become_138 : decode cX7_become 138 = .ok (.iinc 2 1, 3) := by decide +kernel
theorem dX7_become_141 : decode cX7_become 141 = .ok (.goto (-24), 3) := by decide +kernel
theorem dX7_become_144 : decode cX7_become 144 = .ok (.return_, 1) := by decide +kernel
theorem dX7_hasPlace_0 : decode cX7_hasPlace 0 = .ok (.iload_n 1, 1) := by decide +kernel
theorem dX7_hasPlace_1 : decode cX7_hasPlace 1 = .ok (.ifCond .lt 15, 3) := by decide +kernel
theorem dX7_hasPlace_4 : decode cX7_hasPlace 4 = .ok (.iload_n 1, 1) := by decide +kernel
theorem dX7_hasPlace_5 : decode cX7_hasPlace 5 = .ok (.aload_n 0, 1) := by decide +kernel
theorem dX7_hasPlace_6 : decode cX7_hasPlace 6 = .ok (.getfield 9, 3) := by decide +kernel
theorem dX7_hasPlace_9 : decode cX7_hasPlace 9 = .ok (.if_icmp .ge 7, 3) := by decide +kernel
theorem dX7_hasPlace_12 : decode cX7_hasPlace 12 = .ok (.iconst 1, 1) := by decide +kernel
theorem dX7_hasPlace_13 : decode cX7_hasPlace 13 = .ok (.goto 4, 3) := by decide +kernel
theorem dX7_hasPlace_16 : decode cX7_hasPlace 16 = .ok (.iconst 0, 1) := by decide +kernel
theorem dX7_hasPlace_17 : decode cX7_hasPlace 17 = .ok (.ireturn, 1) := by decide +kernel
theorem dX7_hasPerson_0 : decode cX7_hasPerson 0 = .ok (.iload_n 1, 1) := by decide +kernel
theorem dX7_hasPerson_1 : decode cX7_hasPerson 1 = .ok (.ifCond .lt 15, 3) := by decide +kernel
theorem dX7_hasPerson_4 : decode cX7_hasPerson 4 = .ok (.iload_n 1, 1) := by decide +kernel
theorem dX7_hasPerson_5 : decode cX7_hasPerson 5 = .ok (.aload_n 0, 1) := by decide +kernel
theorem dX7_hasPerson_6 : decode cX7_hasPerson 6 = .ok (.getfield 44, 3) := by decide +kernel
theorem dX7_hasPerson_9 : decode cX7_hasPerson 9 = .ok (.if_icmp .ge 7, 3) := by decide +kernel
theorem dX7_hasPerson_12 : decode cX7_hasPerson 12 = .ok (.iconst 1, 1) := by decide +kernel
theorem dX7_hasPerson_13 : decode cX7_hasPerson 13 = .ok (.goto 4, 3) := by decide +kernel
theorem dX7_hasPerson_16 : decode cX7_hasPerson 16 = .ok (.iconst 0, 1) := by decide +kernel
theorem dX7_hasPerson_17 : decode cX7_hasPerson 17 = .ok (.ireturn, 1) := by decide +kernel
theorem dX7_hasWork_0 : decode cX7_hasWork 0 = .ok (.iload_n 1, 1) := by decide +kernel
theorem dX7_hasWork_1 : decode cX7_hasWork 1 = .ok (.ifCond .lt 15, 3) := by decide +kernel
theorem dX7_hasWork_4 : decode cX7_hasWork 4 = .ok (.iload_n 1, 1) := by decide +kernel
theorem dX7_hasWork_5 : decode cX7_hasWork 5 = .ok (.aload_n 0, 1) := by decide +kernel
theorem dX7_hasWork_6 : decode cX7_hasWork 6 = .ok (.getfield 47, 3) := by decide +kernel
theorem dX7_hasWork_9 : decode cX7_hasWork 9 = .ok (.if_icmp .ge 7, 3) := by decide +kernel
theorem dX7_hasWork_12 : decode cX7_hasWork 12 = .ok (.iconst 1, 1) := by decide +kernel
theorem dX7_hasWork_13 : decode cX7_hasWork 13 = .ok (.goto 4, 3) := by decide +kernel
theorem dX7_hasWork_16 : decode cX7_hasWork 16 = .ok (.iconst 0, 1) := by decide +kernel
theorem dX7_hasWork_17 : decode cX7_hasWork 17 = .ok (.ireturn, 1) := by decide +kernel
theorem dX7_hasPart_0 : decode cX7_hasPart 0 = .ok (.iload_n 1, 1) := by decide +kernel
theorem dX7_hasPart_1 : decode cX7_hasPart 1 = .ok (.ifCond .lt 25, 3) := by decide +kernel
theorem dX7_hasPart_4 : decode cX7_hasPart 4 = .ok (.iload_n 1, 1) := by decide +kernel
theorem dX7_hasPart_5 : decode cX7_hasPart 5 = .ok (.bipush 24, 2) := by decide +kernel
theorem dX7_hasPart_7 : decode cX7_hasPart 7 = .ok (.if_icmp .ge 19, 3) := by decide +kernel
theorem dX7_hasPart_10 : decode cX7_hasPart 10 = .ok (.aload_n 0, 1) := by decide +kernel
theorem dX7_hasPart_11 : decode cX7_hasPart 11 = .ok (.getfield 37, 3) := by decide +kernel
theorem dX7_hasPart_14 : decode cX7_hasPart 14 = .ok (.iload_n 1, 1) := by decide +kernel
theorem dX7_hasPart_15 : decode cX7_hasPart 15 = .ok (.aaload, 1) := by decide +kernel
theorem dX7_hasPart_16 : decode cX7_hasPart 16 = .ok (.getfield 66, 3) := by decide +kernel
theorem dX7_hasPart_19 : decode cX7_hasPart 19 = .ok (.ifCond .le 7, 3) := by decide +kernel
theorem dX7_hasPart_22 : decode cX7_hasPart 22 = .ok (.iconst 1, 1) := by decide +kernel
theorem dX7_hasPart_23 : decode cX7_hasPart 23 = .ok (.goto 4, 3) := by decide +kernel
theorem dX7_hasPart_26 : decode cX7_hasPart 26 = .ok (.iconst 0, 1) := by decide +kernel
theorem dX7_hasPart_27 : decode cX7_hasPart 27 = .ok (.ireturn, 1) := by decide +kernel
theorem dX7_isPartOf_0 : decode cX7_isPartOf 0 = .ok (.aload_n 0, 1) := by decide +kernel
theorem dX7_isPartOf_1 : decode cX7_isPartOf 1 = .ok (.iload_n 1, 1) := by decide +kernel
theorem dX7_isPartOf_2 : decode cX7_isPartOf 2 = .ok (.invokevirtual 69, 3) := by decide +kernel
theorem dX7_isPartOf_5 : decode cX7_isPartOf 5 = .ok (.ifCond .eq 20, 3) := by decide +kernel
theorem dX7_isPartOf_8 : decode cX7_isPartOf 8 = .ok (.aload_n 0, 1) := by decide +kernel
theorem dX7_isPartOf_9 : decode cX7_isPartOf 9 = .ok (.getfield 37, 3) := by decide +kernel
theorem dX7_isPartOf_12 : decode cX7_isPartOf 12 = .ok (.iload_n 1, 1) := by decide +kernel
theorem dX7_isPartOf_13 : decode cX7_isPartOf 13 = .ok (.aaload, 1) := by decide +kernel
theorem dX7_isPartOf_14 : decode cX7_isPartOf 14 = .ok (.getfield 73, 3) := by decide +kernel
theorem dX7_isPartOf_17 : decode cX7_isPartOf 17 = .ok (.iload_n 2, 1) := by decide +kernel
theorem dX7_isPartOf_18 : decode cX7_isPartOf 18 = .ok (.if_icmp .ne 7, 3) := by decide +kernel
theorem dX7_isPartOf_21 : decode cX7_isPartOf 21 = .ok (.iconst 1, 1) := by decide +kernel
theorem dX7_isPartOf_22 : decode cX7_isPartOf 22 = .ok (.goto 4, 3) := by decide +kernel
theorem dX7_isPartOf_25 : decode cX7_isPartOf 25 = .ok (.iconst 0, 1) := by decide +kernel
theorem dX7_isPartOf_26 : decode cX7_isPartOf 26 = .ok (.ireturn, 1) := by decide +kernel
theorem dX7_freePart_0 : decode cX7_freePart 0 = .ok (.iconst 0, 1) := by decide +kernel
theorem dX7_freePart_1 : decode cX7_freePart 1 = .ok (.istore_n 1, 1) := by decide +kernel
theorem dX7_freePart_2 : decode cX7_freePart 2 = .ok (.iload_n 1, 1) := by decide +kernel
theorem dX7_freePart_3 : decode cX7_freePart 3 = .ok (.bipush 24, 2) := by decide +kernel
theorem dX7_freePart_5 : decode cX7_freePart 5 = .ok (.if_icmp .ge 19, 3) := by decide +kernel
theorem dX7_freePart_8 : decode cX7_freePart 8 = .ok (.aload_n 0, 1) := by decide +kernel
theorem dX7_freePart_9 : decode cX7_freePart 9 = .ok (.iload_n 1, 1) := by decide +kernel
theorem dX7_freePart_10 : decode cX7_freePart 10 = .ok (.invokevirtual 69, 3) := by decide +kernel
theorem dX7_freePart_13 : decode cX7_freePart 13 = .ok (.ifCond .ne 5, 3) := by decide +kernel
theorem dX7_freePart_16 : decode cX7_freePart 16 = .ok (.iload_n 1, 1) := by decide +kernel
theorem dX7_freePart_17 : decode cX7_freePart 17 = .ok (.ireturn, 1) := by decide +kernel
theorem dX7_freePart_18 : decode cX7_freePart 18 = .ok (.iinc 1 1, 3) := by decide +kernel
theorem dX7_freePart_21 : decode cX7_freePart 21 = .ok (.goto (-19), 3) := by decide +kernel
theorem dX7_freePart_24 : decode cX7_freePart 24 = .ok (.iconst (-1), 1) := by decide +kernel
theorem dX7_freePart_25 : decode cX7_freePart 25 = .ok (.ireturn, 1) := by decide +kernel
theorem dX7_partCount_0 : decode cX7_partCount 0 = .ok (.iconst 0, 1) := by decide +kernel
theorem dX7_partCount_1 : decode cX7_partCount 1 = .ok (.istore_n 1, 1) := by decide +kernel
theorem dX7_partCount_2 : decode cX7_partCount 2 = .ok (.iconst 0, 1) := by decide +kernel
theorem dX7_partCount_3 : decode cX7_partCount 3 = .ok (.istore_n 2, 1) := by decide +kernel
theorem dX7_partCount_4 : decode cX7_partCount 4 = .ok (.iload_n 2, 1) := by decide +kernel
theorem dX7_partCount_5 : decode cX7_partCount 5 = .ok (.bipush 24, 2) := by decide +kernel
theorem dX7_partCount_7 : decode cX7_partCount 7 = .ok (.if_icmp .ge 20, 3) := by decide +kernel
theorem dX7_partCount_10 : decode cX7_partCount 10 = .ok (.aload_n 0, 1) := by decide +kernel
theorem dX7_partCount_11 : decode cX7_partCount 11 = .ok (.iload_n 2, 1) := by decide +kernel
theorem dX7_partCount_12 : decode cX7_partCount 12 = .ok (.invokevirtual 69, 3) := by decide +kernel
theorem dX7_partCount_15 : decode cX7_partCount 15 = .ok (.ifCond .eq 6, 3) := by decide +kernel
theorem dX7_partCount_18 : decode cX7_partCount 18 = .ok (.iinc 1 1, 3) := by decide +kernel
theorem dX7_partCount_21 : decode cX7_partCount 21 = .ok (.iinc 2 1, 3) := by decide +kernel
theorem dX7_partCount_24 : decode cX7_partCount 24 = .ok (.goto (-20), 3) := by decide +kernel
theorem dX7_partCount_27 : decode cX7_partCount 27 = .ok (.iload_n 1, 1) := by decide +kernel
theorem dX7_partCount_28 : decode cX7_partCount 28 = .ok (.ireturn, 1) := by decide +kernel
theorem dX7_partsOf_0 : decode cX7_partsOf 0 = .ok (.iconst 0, 1) := by decide +kernel
theorem dX7_partsOf_1 : decode cX7_partsOf 1 = .ok (.istore_n 2, 1) := by decide +kernel
theorem dX7_partsOf_2 : decode cX7_partsOf 2 = .ok (.iconst 0, 1) := by decide +kernel
theorem dX7_partsOf_3 : decode cX7_partsOf 3 = .ok (.istore_n 3, 1) := by decide +kernel
theorem dX7_partsOf_4 : decode cX7_partsOf 4 = .ok (.iload_n 3, 1) := by decide +kernel
theorem dX7_partsOf_5 : decode cX7_partsOf 5 = .ok (.bipush 24, 2) := by decide +kernel
theorem dX7_partsOf_7 : decode cX7_partsOf 7 = .ok (.if_icmp .ge 21, 3) := by decide +kernel
theorem dX7_partsOf_10 : decode cX7_partsOf 10 = .ok (.aload_n 0, 1) := by decide +kernel
theorem dX7_partsOf_11 : decode cX7_partsOf 11 = .ok (.iload_n 3, 1) := by decide +kernel
theorem dX7_partsOf_12 : decode cX7_partsOf 12 = .ok (.iload_n 1, 1) := by decide +kernel
theorem dX7_partsOf_13 : decode cX7_partsOf 13 = .ok (.invokevirtual 76, 3) := by decide +kernel
theorem dX7_partsOf_16 : decode cX7_partsOf 16 = .ok (.ifCond .eq 6, 3) := by decide +kernel
theorem dX7_partsOf_19 : decode cX7_partsOf 19 = .ok (.iinc 2 1, 3) := by decide +kernel
theorem dX7_partsOf_22 : decode cX7_partsOf 22 = .ok (.iinc 3 1, 3) := by decide +kernel
theorem dX7_partsOf_25 : decode cX7_partsOf 25 = .ok (.goto (-21), 3) := by decide +kernel
theorem dX7_partsOf_28 : decode cX7_partsOf 28 = .ok (.iload_n 2, 1) := by decide +kernel
theorem dX7_partsOf_29 : decode cX7_partsOf 29 = .ok (.ireturn, 1) := by decide +kernel
theorem dX7_twelfthsOf_0 : decode cX7_twelfthsOf 0 = .ok (.iconst 0, 1) := by decide +kernel
theorem dX7_twelfthsOf_1 : decode cX7_twelfthsOf 1 = .ok (.istore_n 2, 1) := by decide +kernel
theorem dX7_twelfthsOf_2 : decode cX7_twelfthsOf 2 = .ok (.iconst 0, 1) := by decide +kernel
theorem dX7_twelfthsOf_3 : decode cX7_twelfthsOf 3 = .ok (.istore_n 3, 1) := by decide +kernel
theorem dX7_twelfthsOf_4 : decode cX7_twelfthsOf 4 = .ok (.iload_n 3, 1) := by decide +kernel
theorem dX7_twelfthsOf_5 : decode cX7_twelfthsOf 5 = .ok (.bipush 24, 2) := by decide +kernel
theorem dX7_twelfthsOf_7 : decode cX7_twelfthsOf 7 = .ok (.if_icmp .ge 30, 3) := by decide +kernel
theorem dX7_twelfthsOf_10 : decode cX7_twelfthsOf 10 = .ok (.aload_n 0, 1) := by decide +kernel
theorem dX7_twelfthsOf_11 : decode cX7_twelfthsOf 11 = .ok (.iload_n 3, 1) := by decide +kernel
theorem dX7_twelfthsOf_12 : decode cX7_twelfthsOf 12 = .ok (.iload_n 1, 1) := by decide +kernel
theorem dX7_twelfthsOf_13 : decode cX7_twelfthsOf 13 = .ok (.invokevirtual 76, 3) := by decide +kernel
theorem dX7_twelfthsOf_16 : decode cX7_twelfthsOf 16 = .ok (.ifCond .eq 15, 3) := by decide +kernel
theorem dX7_twelfthsOf_19 : decode cX7_twelfthsOf 19 = .ok (.iload_n 2, 1) := by decide +kernel
theorem dX7_twelfthsOf_20 : decode cX7_twelfthsOf 20 = .ok (.aload_n 0, 1) := by decide +kernel
theorem dX7_twelfthsOf_21 : decode cX7_twelfthsOf 21 = .ok (.getfield 37, 3) := by decide +kernel
theorem dX7_twelfthsOf_24 : decode cX7_twelfthsOf 24 = .ok (.iload_n 3, 1) := by decide +kernel
theorem dX7_twelfthsOf_25 : decode cX7_twelfthsOf 25 = .ok (.aaload, 1) := by decide +kernel
theorem dX7_twelfthsOf_26 : decode cX7_twelfthsOf 26 = .ok (.getfield 66, 3) := by decide +kernel
theorem dX7_twelfthsOf_29 : decode cX7_twelfthsOf 29 = .ok (.iadd, 1) := by decide +kernel
theorem dX7_twelfthsOf_30 : decode cX7_twelfthsOf 30 = .ok (.istore_n 2, 1) := by decide +kernel
theorem dX7_twelfthsOf_31 : decode cX7_twelfthsOf 31 = .ok (.iinc 3 1, 3) := by decide +kernel
theorem dX7_twelfthsOf_34 : decode cX7_twelfthsOf 34 = .ok (.goto (-30), 3) := by decide +kernel
theorem dX7_twelfthsOf_37 : decode cX7_twelfthsOf 37 = .ok (.iload_n 2, 1) := by decide +kernel
theorem dX7_twelfthsOf_38 : decode cX7_twelfthsOf 38 = .ok (.ireturn, 1) := by decide +kernel
theorem dX7_partsAway_0 : decode cX7_partsAway 0 = .ok (.iconst 0, 1) := by decide +kernel
theorem dX7_partsAway_1 : decode cX7_partsAway 1 = .ok (.istore_n 2, 1) := by decide +kernel
theorem dX7_partsAway_2 : decode cX7_partsAway 2 = .ok (.iconst 0, 1) := by decide +kernel
theorem dX7_partsAway_3 : decode cX7_partsAway 3 = .ok (.istore_n 3, 1) := by decide +kernel
theorem dX7_partsAway_4 : decode cX7_partsAway 4 = .ok (.iload_n 3, 1) := by decide +kernel
theorem dX7_partsAway_5 : decode cX7_partsAway 5 = .ok (.bipush 24, 2) := by decide +kernel
theorem dX7_partsAway_7 : decode cX7_partsAway 7 = .ok (.if_icmp .ge 33, 3) := by decide +kernel
theorem dX7_partsAway_10 : decode cX7_partsAway 10 = .ok (.aload_n 0, 1) := by decide +kernel
theorem dX7_partsAway_11 : decode cX7_partsAway 11 = .ok (.iload_n 3, 1) := by decide +kernel
theorem dX7_partsAway_12 : decode cX7_partsAway 12 = .ok (.iload_n 1, 1) := by decide +kernel
theorem dX7_partsAway_13 : decode cX7_partsAway 13 = .ok (.invokevirtual 76, 3) := by decide +kernel
theorem dX7_partsAway_16 : decode cX7_partsAway 16 = .ok (.ifCond .eq 18, 3) := by decide +kernel
theorem dX7_partsAway_19 : decode cX7_partsAway 19 = .ok (.aload_n 0, 1) := by decide +kernel
theorem dX7_partsAway_20 : decode cX7_partsAway 20 = .ok (.getfield 37, 3) := by decide +kernel
theorem dX7_partsAway_23 : decode cX7_partsAway 23 = .ok (.iload_n 3, 1) := by decide +kernel
theorem dX7_partsAway_24 : decode cX7_partsAway 24 = .ok (.aaload, 1) := by decide +kernel
theorem dX7_partsAway_25 : decode cX7_partsAway 25 = .ok (.getfield 80, 3) := by decide +kernel
theorem dX7_partsAway_28 : decode cX7_partsAway 28 = .ok (.ifCond .eq 6, 3) := by decide +kernel
theorem dX7_partsAway_31 : decode cX7_partsAway 31 = .ok (.iinc 2 1, 3) := by decide +kernel
theorem dX7_partsAway_34 : decode cX7_partsAway 34 = .ok (.iinc 3 1, 3) := by decide +kernel
theorem dX7_partsAway_37 : decode cX7_partsAway 37 = .ok (.goto (-33), 3) := by decide +kernel
theorem dX7_partsAway_40 : decode cX7_partsAway 40 = .ok (.iload_n 2, 1) := by decide +kernel
theorem dX7_partsAway_41 : decode cX7_partsAway 41 = .ok (.ireturn, 1) := by decide +kernel
theorem dX7_twelfthsAway_0 : decode cX7_twelfthsAway 0 = .ok (.iconst 0, 1) := by decide +kernel
theorem dX7_twelfthsAway_1 : decode cX7_twelfthsAway 1 = .ok (.istore_n 2, 1) := by decide +kernel
theorem dX7_twelfthsAway_2 : decode cX7_twelfthsAway 2 = .ok (.iconst 0, 1) := by decide +kernel
theorem dX7_twelfthsAway_3 : decode cX7_twelfthsAway 3 = .ok (.istore_n 3, 1) := by decide +kernel
theorem dX7_twelfthsAway_4 : decode cX7_twelfthsAway 4 = .ok (.iload_n 3, 1) := by decide +kernel
theorem dX7_twelfthsAway_5 : decode cX7_twelfthsAway 5 = .ok (.bipush 24, 2) := by decide +kernel
theorem dX7_twelfthsAway_7 : decode cX7_twelfthsAway 7 = .ok (.if_icmp .ge 42, 3) := by decide +kernel
theorem dX7_twelfthsAway_10 : decode cX7_twelfthsAway 10 = .ok (.aload_n 0, 1) := by decide +kernel
theorem dX7_twelfthsAway_11 : decode cX7_twelfthsAway 11 = .ok (.iload_n 3, 1) := by decide +kernel
theorem dX7_twelfthsAway_12 : decode cX7_twelfthsAway 12 = .ok (.iload_n 1, 1) := by decide +kernel
theorem dX7_twelfthsAway_13 : decode cX7_twelfthsAway 13 = .ok (.invokevirtual 76, 3) := by decide +kernel
theorem dX7_twelfthsAway_16 : decode cX7_twelfthsAway 16 = .ok (.ifCond .eq 27, 3) := by decide +kernel
theorem dX7_twelfthsAway_19 : decode cX7_twelfthsAway 19 = .ok (.aload_n 0, 1) := by decide +kernel
theorem dX7_twelfthsAway_20 : decode cX7_twelfthsAway 20 = .ok (.getfield 37, 3) := by decide +kernel
theorem dX7_twelfthsAway_23 : decode cX7_twelfthsAway 23 = .ok (.iload_n 3, 1) := by decide +kernel
theorem dX7_twelfthsAway_24 : decode cX7_twelfthsAway 24 = .ok (.aaload, 1) := by decide +kernel
theorem dX7_twelfthsAway_25 : decode cX7_twelfthsAway 25 = .ok (.getfield 80, 3) := by decide +kernel
theorem dX7_twelfthsAway_28 : decode cX7_twelfthsAway 28 = .ok (.ifCond .eq 15, 3) := by decide +kernel
theorem dX7_twelfthsAway_31 : decode cX7_twelfthsAway 31 = .ok (.iload_n 2, 1) := by decide +kernel
theorem dX7_twelfthsAway_32 : decode cX7_twelfthsAway 32 = .ok (.aload_n 0, 1) := by decide +kernel
theorem dX7_twelfthsAway_33 : decode cX7_twelfthsAway 33 = .ok (.getfield 37, 3) := by decide +kernel
theorem dX7_twelfthsAway_36 : decode cX7_twelfthsAway 36 = .ok (.iload_n 3, 1) := by decide +kernel
theorem dX7_twelfthsAway_37 : decode cX7_twelfthsAway 37 = .ok (.aaload, 1) := by decide +kernel
theorem dX7_twelfthsAway_38 : decode cX7_twelfthsAway 38 = .ok (.getfield 66, 3) := by decide +kernel
theorem dX7_twelfthsAway_41 : decode cX7_twelfthsAway 41 = .ok (.iadd, 1) := by decide +kernel
theorem dX7_twelfthsAway_42 : decode cX7_twelfthsAway 42 = .ok (.istore_n 2, 1) := by decide +kernel
theorem dX7_twelfthsAway_43 : decode cX7_twelfthsAway 43 = .ok (.iinc 3 1, 3) := by decide +kernel
theorem dX7_twelfthsAway_46 : decode cX7_twelfthsAway 46 = .ok (.goto (-42), 3) := by decide +kernel
theorem dX7_twelfthsAway_49 : decode cX7_twelfthsAway 49 = .ok (.iload_n 2, 1) := by decide +kernel
theorem dX7_twelfthsAway_50 : decode cX7_twelfthsAway 50 = .ok (.ireturn, 1) := by decide +kernel
theorem dX7_takesStatement_0 : decode cX7_takesStatement 0 = .ok (.iload_n 1, 1) := by decide +kernel
theorem dX7_takesStatement_1 : decode cX7_takesStatement 1 = .ok (.lookupswitch 77 #[(107, 71), (110, 43), (112, 65), (119, 51)], 43) := by decide +kernel
theorem dX7_takesStatement_44 : decode cX7_takesStatement 44 = .ok (.aload_n 0, 1) := by decide +kernel
theorem dX7_takesStatement_45 : decode cX7_takesStatement 45 = .ok (.aload_n 2, 1) := by decide +kernel
theorem dX7_takesStatement_46 : decode cX7_takesStatement 46 = .ok (.iconst 0, 1) := by decide +kernel
theorem dX7_takesStatement_47 : decode cX7_takesStatement 47 = .ok (.iaload, 1) := by decide +kernel
theorem dX7_takesStatement_48 : decode cX7_takesStatement 48 = .ok (.invokevirtual 83, 3) := by decide +kernel
theorem dX7_takesStatement_51 : decode cX7_takesStatement 51 = .ok (.ireturn, 1) := by decide +kernel
theorem dX7_takesStatement_52 : decode cX7_takesStatement 52 = .ok (.aload_n 0, 1) := by decide +kernel
theorem dX7_takesStatement_53 : decode cX7_takesStatement 53 = .ok (.aload_n 2, 1) := by decide +kernel
theorem dX7_takesStatement_54 : decode cX7_takesStatement 54 = .ok (.iconst 0, 1) := by decide +kernel
theorem dX7_takesStatement_55 : decode cX7_takesStatement 55 = .ok (.iaload, 1) := by decide +kernel
theorem dX7_takesStatement_56 : decode cX7_takesStatement 56 = .ok (.aload_n 2, 1) := by decide +kernel
theorem dX7_takesStatement_57 : decode cX7_takesStatement 57 = .ok (.iconst 1, 1) := by decide +kernel
theorem dX7_takesStatement_58 : decode cX7_takesStatement 58 = .ok (.iaload, 1) := by decide +kernel
theorem dX7_takesStatement_59 : decode cX7_takesStatement 59 = .ok (.aload_n 2, 1) := by decide +kernel
theorem dX7_takesStatement_60 : decode cX7_takesStatement 60 = .ok (.iconst 2, 1) := by decide +kernel
theorem dX7_takesStatement_61 : decode cX7_takesStatement 61 = .ok (.iaload, 1) := by decide +kernel
theorem dX7_takesStatement_62 : decode cX7_takesStatement 62 = .ok (.invokevirtual 86, 3) := by decide +kernel
theorem dX7_takesStatement_65 : decode cX7_takesStatement 65 = .ok (.ireturn, 1) := by decide +kernel
theorem dX7_takesStatement_66 : decode cX7_takesStatement 66 = .ok (.aload_n 0, 1) := by decide +kernel
theorem dX7_takesStatement_67 : decode cX7_takesStatement 67 = .ok (.aload_n 2, 1) := by decide +kernel
theorem dX7_takesStatement_68 : decode cX7_takesStatement 68 = .ok (.invokevirtual 90, 3) := by decide +kernel
theorem dX7_takesStatement_71 : decode cX7_takesStatement 71 = .ok (.ireturn, 1) := by decide +kernel
theorem dX7_takesStatement_72 : decode cX7_takesStatement 72 = .ok (.aload_n 0, 1) := by decide +kernel
theorem dX7_takesStatement_73 : decode cX7_takesStatement 73 = .ok (.aload_n 2, 1) := by decide +kernel
theorem dX7_takesStatement_74 : decode cX7_takesStatement 74 = .ok (.invokevirtual 94, 3) := by decide +kernel
theorem dX7_takesStatement_77 : decode cX7_takesStatement 77 = .ok (.ireturn, 1) := by decide +kernel
theorem dX7_takesStatement_78 : decode cX7_takesStatement 78 = .ok (.iconst 0, 1) := by decide +kernel
theorem dX7_takesStatement_79 : decode cX7_takesStatement 79 = .ok (.ireturn, 1) := by decide +kernel
theorem dX7_takesPlaces_0 : decode cX7_takesPlaces 0 = .ok (.iload_n 1, 1) := by decide +kernel
theorem dX7_takesPlaces_1 : decode cX7_takesPlaces 1 = .ok (.iconst 1, 1) := by decide +kernel
theorem dX7_takesPlaces_2 : decode cX7_takesPlaces 2 = .ok (.if_icmp .lt 17, 3) := by decide +kernel
theorem dX7_takesPlaces_5 : decode cX7_takesPlaces 5 = .ok (.iload_n 1, 1) := by decide +kernel
theorem dX7_takesPlaces_6 : decode cX7_takesPlaces 6 = .ok (.bipush 6, 2) := by decide +kernel
theorem dX7_takesPlaces_8 : decode cX7_takesPlaces 8 = .ok (.if_icmp .gt 11, 3) := by decide +kernel
theorem dX7_takesPlaces_11 : decode cX7_takesPlaces 11 = .ok (.iload_n 1, 1) := by decide +kernel
theorem dX7_takesPlaces_12 : decode cX7_takesPlaces 12 = .ok (.aload_n 0, 1) := by decide +kernel
theorem dX7_takesPlaces_13 : decode cX7_takesPlaces 13 = .ok (.invokevirtual 97, 3) := by decide +kernel
theorem dX7_takesPlaces_16 : decode cX7_takesPlaces 16 = .ok (.if_icmp .ge 5, 3) := by decide +kernel
theorem dX7_takesPlaces_19 : decode cX7_takesPlaces 19 = .ok (.iconst 0, 1) := by decide +kernel
theorem dX7_takesPlaces_20 : decode cX7_takesPlaces 20 = .ok (.ireturn, 1) := by decide +kernel
theorem dX7_takesPlaces_21 : decode cX7_takesPlaces 21 = .ok (.aload_n 0, 1) := by decide +kernel
theorem dX7_takesPlaces_22 : decode cX7_takesPlaces 22 = .ok (.iload_n 1, 1) := by decide +kernel
theorem dX7_takesPlaces_23 : decode cX7_takesPlaces 23 = .ok (.putfield 9, 3) := by decide +kernel
theorem dX7_takesPlaces_26 : decode cX7_takesPlaces 26 = .ok (.iconst 1, 1) := by decide +kernel
theorem dX7_takesPlaces_27 : decode cX7_takesPlaces 27 = .ok (.ireturn, 1) := by decide +kernel
theorem dX7_placesInUse_0 : decode cX7_placesInUse 0 = .ok (.iconst (-1), 1) := by decide +kernel
theorem dX7_placesInUse_1 : decode cX7_placesInUse 1 = .ok (.istore_n 1, 1) := by decide +kernel
theorem dX7_placesInUse_2 : decode cX7_placesInUse 2 = .ok (.iconst 0, 1) := by decide +kernel
theorem dX7_placesInUse_3 : decode cX7_placesInUse 3 = .ok (.istore_n 2, 1) := by decide +kernel
theorem dX7_placesInUse_4 : decode cX7_placesInUse 4 = .ok (.iload_n 2, 1) := by decide +kernel
theorem dX7_placesInUse_5 : decode cX7_placesInUse 5 = .ok (.bipush 6, 2) := by decide +kernel
theorem dX7_placesInUse_7 : decode cX7_placesInUse 7 = .ok (.if_icmp .ge 40, 3) := by decide +kernel
theorem dX7_placesInUse_10 : decode cX7_placesInUse 10 = .ok (.iconst 0, 1) := by decide +kernel
theorem dX7_placesInUse_11 : decode cX7_placesInUse 11 = .ok (.istore_n 3, 1) := by decide +kernel
theorem dX7_placesInUse_12 : decode cX7_placesInUse 12 = .ok (.iload_n 3, 1) := by decide +kernel
theorem dX7_placesInUse_13 : decode cX7_placesInUse 13 = .ok (.bipush 6, 2) := by decide +kernel
theorem dX7_placesInUse_15 : decode cX7_placesInUse 15 = .ok (.if_icmp .ge 26, 3) := by decide +kernel
theorem dX7_placesInUse_18 : decode cX7_placesInUse 18 = .ok (.aload_n 0, 1) := by decide +kernel
theorem dX7_placesInUse_19 : decode cX7_placesInUse 19 = .ok (.getfield 17, 3) := by decide +kernel
theorem dX7_placesInUse_22 : decode cX7_placesInUse 22 = .ok (.iload_n 2, 1) := by decide +kernel
theorem dX7_placesInUse_23 : decode cX7_placesInUse 23 = .ok (.aaload, 1) := by decide +kernel
theorem dX7_placesInUse_24 : decode cX7_placesInUse 24 = .ok (.iload_n 3, 1) := by decide +kernel
theorem dX7_placesInUse_25 : decode cX7_placesInUse 25 = .ok (.iaload, 1) := by decide +kernel
theorem dX7_placesInUse_26 : decode cX7_placesInUse 26 = .ok (.ifCond .le 9, 3) := by decide +kernel
theorem dX7_placesInUse_29 : decode cX7_placesInUse 29 = .ok (.iload_n 1, 1) := by decide +kernel
theorem dX7_placesInUse_30 : decode cX7_placesInUse 30 = .ok (.iload_n 2, 1) := by decide +kernel
theorem dX7_placesInUse_31 : decode cX7_placesInUse 31 = .ok (.invokestatic 101, 3) := by decide +kernel
theorem dX7_placesInUse_34 : decode cX7_placesInUse 34 = .ok (.istore_n 1, 1) := by decide +kernel
theorem dX7_placesInUse_35 : decode cX7_placesInUse 35 = .ok (.iinc 3 1, 3) := by decide +kernel
theorem dX7_placesInUse_38 : decode cX7_placesInUse 38 = .ok (.goto (-26), 3) := by decide +kernel
theorem dX7_placesInUse_41 : decode cX7_placesInUse 41 = .ok (.iinc 2 1, 3) := by decide +kernel
theorem dX7_placesInUse_44 : decode cX7_placesInUse 44 = .ok (.goto (-40), 3) := by decide +kernel
theorem dX7_placesInUse_47 : decode cX7_placesInUse 47 = .ok (.iconst 0, 1) := by decide +kernel
theorem dX7_placesInUse_48 : decode cX7_placesInUse 48 = .ok (.istore_n 2, 1) := by decide +kernel
theorem dX7_placesInUse_49 : decode cX7_placesInUse 49 = .ok (.iload_n 2, 1) := by decide +kernel
theorem dX7_placesInUse_50 : decode cX7_placesInUse 50 = .ok (.aload_n 0, 1) := by decide +kernel
theorem dX7_placesInUse_51 : decode cX7_placesInUse 51 = .ok (.getfield 47, 3) := by decide +kernel
theorem dX7_placesInUse_54 : decode cX7_placesInUse 54 = .ok (.if_icmp .ge 23, 3) := by decide +kernel
theorem dX7_placesInUse_57 : decode cX7_placesInUse 57 = .ok (.iload_n 1, 1) := by decide +kernel
theorem dX7_placesInUse_58 : decode cX7_placesInUse 58 = .ok (.aload_n 0, 1) := by decide +kernel
theorem dX7_placesInUse_59 : decode cX7_placesInUse 59 = .ok (.getfield 31, 3) := by decide +kernel
theorem dX7_placesInUse_62 : decode cX7_placesInUse 62 = .ok (.iload_n 2, 1) := by decide +kernel
theorem dX7_placesInUse_63 : decode cX7_placesInUse 63 = .ok (.aaload, 1) := by decide +kernel
theorem dX7_placesInUse_64 : decode cX7_placesInUse 64 = .ok (.getfield 107, 3) := by decide +kernel
theorem dX7_placesInUse_67 : decode cX7_placesInUse 67 = .ok (.invokestatic 101, 3) := by decide +kernel
theorem dX7_placesInUse_70 : decode cX7_placesInUse 70 = .ok (.istore_n 1, 1) := by decide +kernel
theorem dX7_placesInUse_71 : decode cX7_placesInUse 71 = .ok (.iinc 2 1, 3) := by decide +kernel
theorem dX7_placesInUse_74 : decode cX7_placesInUse 74 = .ok (.goto (-25), 3) := by decide +kernel
theorem dX7_placesInUse_77 : decode cX7_placesInUse 77 = .ok (.iconst 0, 1) := by decide +kernel
theorem dX7_placesInUse_78 : decode cX7_placesInUse 78 = .ok (.istore_n 2, 1) := by decide +kernel
theorem dX7_placesInUse_79 : decode cX7_placesInUse 79 = .ok (.iload_n 2, 1) := by decide +kernel
theorem dX7_placesInUse_80 : decode cX7_placesInUse 80 = .ok (.bipush 24, 2) := by decide +kernel
theorem dX7_placesInUse_82 : decode cX7_placesInUse 82 = .ok (.if_icmp .ge 31, 3) := by decide +kernel
theorem dX7_placesInUse_85 : decode cX7_placesInUse 85 = .ok (.aload_n 0, 1) := by decide +kernel
theorem dX7_placesInUse_86 : decode cX7_placesInUse 86 = .ok (.iload_n 2, 1) := by decide +kernel
theorem dX7_placesInUse_87 : decode cX7_placesInUse 87 = .ok (.invokevirtual 69, 3) := by decide +kernel
theorem dX7_placesInUse_90 : decode cX7_placesInUse 90 = .ok (.ifCond .eq 17, 3) := by decide +kernel
theorem dX7_placesInUse_93 : decode cX7_placesInUse 93 = .ok (.iload_n 1, 1) := by decide +kernel
theorem dX7_placesInUse_94 : decode cX7_placesInUse 94 = .ok (.aload_n 0, 1) := by decide +kernel
theorem dX7_placesInUse_95 : decode cX7_placesInUse 95 = .ok (.getfield 37, 3) := by decide +kernel
theorem dX7_placesInUse_98 : decode cX7_placesInUse 98 = .ok (.iload_n 2, 1) := by decide +kernel
theorem dX7_placesInUse_99 : decode cX7_placesInUse 99 = .ok (.aaload, 1) := by decide +kernel
theorem dX7_placesInUse_100 : decode cX7_placesInUse 100 = .ok (.getfield 80, 3) := by decide +kernel
theorem dX7_placesInUse_103 : decode cX7_placesInUse 103 = .ok (.invokestatic 101, 3) := by decide +kernel
theorem dX7_placesInUse_106 : decode cX7_placesInUse 106 = .ok (.istore_n 1, 1) := by decide +kernel
theorem dX7_placesInUse_107 : decode cX7_placesInUse 107 = .ok (.iinc 2 1, 3) := by decide +kernel
theorem dX7_placesInUse_110 : decode cX7_placesInUse 110 = .ok (.goto (-31), 3) := by decide +kernel
theorem dX7_placesInUse_113 : decode cX7_placesInUse 113 = .ok (.iload_n 1, 1) := by decide +kernel
theorem dX7_placesInUse_114 : decode cX7_placesInUse 114 = .ok (.iconst 1, 1) := by decide +kernel
theorem dX7_placesInUse_115 : decode cX7_placesInUse 115 = .ok (.iadd, 1) := by decide +kernel
theorem dX7_placesInUse_116 : decode cX7_placesInUse 116 = .ok (.ireturn, 1) := by decide +kernel
theorem dX7_takesWay_0 : decode cX7_takesWay 0 = .ok (.aload_n 0, 1) := by decide +kernel
theorem dX7_takesWay_1 : decode cX7_takesWay 1 = .ok (.iload_n 1, 1) := by decide +kernel
theorem dX7_takesWay_2 : decode cX7_takesWay 2 = .ok (.invokevirtual 108, 3) := by decide +kernel
theorem dX7_takesWay_5 : decode cX7_takesWay 5 = .ok (.ifCond .eq 27, 3) := by decide +kernel
theorem dX7_takesWay_8 : decode cX7_takesWay 8 = .ok (.aload_n 0, 1) := by decide +kernel
theorem dX7_takesWay_9 : decode cX7_takesWay 9 = .ok (.iload_n 2, 1) := by decide +kernel
theorem dX7_takesWay_10 : decode cX7_takesWay 10 = .ok (.invokevirtual 108, 3) := by decide +kernel
theorem dX7_takesWay_13 : decode cX7_takesWay 13 = .ok (.ifCond .eq 19, 3) := by decide +kernel
theorem dX7_takesWay_16 : decode cX7_takesWay 16 = .ok (.iload_n 1, 1) := by decide +kernel
theorem dX7_takesWay_17 : decode cX7_takesWay 17 = .ok (.iload_n 2, 1) := by decide +kernel
theorem dX7_takesWay_18 : decode cX7_takesWay 18 = .ok (.if_icmp .eq 14, 3) := by decide +kernel
theorem dX7_takesWay_21 : decode cX7_takesWay 21 = .ok (.iload_n 3, 1) := by decide +kernel
theorem dX7_takesWay_22 : decode cX7_takesWay 22 = .ok (.iconst 1, 1) := by decide +kernel
theorem dX7_takesWay_23 : decode cX7_takesWay 23 = .ok (.if_icmp .lt 9, 3) := by decide +kernel
theorem dX7_takesWay_26 : decode cX7_takesWay 26 = .ok (.iload_n 3, 1) := by decide +kernel
theorem dX7_takesWay_27 : decode cX7_takesWay 27 = .ok (.bipush 60, 2) := by decide +kernel
theorem dX7_takesWay_29 : decode cX7_takesWay 29 = .ok (.if_icmp .le 5, 3) := by decide +kernel
theorem dX7_takesWay_32 : decode cX7_takesWay 32 = .ok (.iconst 0, 1) := by decide +kernel
theorem dX7_takesWay_33 : decode cX7_takesWay 33 = .ok (.ireturn, 1) := by decide +kernel
theorem dX7_takesWay_34 : decode cX7_takesWay 34 = .ok (.aload_n 0, 1) := by decide +kernel
theorem dX7_takesWay_35 : decode cX7_takesWay 35 = .ok (.getfield 17, 3) := by decide +kernel
theorem dX7_takesWay_38 : decode cX7_takesWay 38 = .ok (.iload_n 1, 1) := by decide +kernel
theorem dX7_takesWay_39 : decode cX7_takesWay 39 = .ok (.aaload, 1) := by decide +kernel
theorem dX7_takesWay_40 : decode cX7_takesWay 40 = .ok (.iload_n 2, 1) := by decide +kernel
theorem dX7_takesWay_41 : decode cX7_takesWay 41 = .ok (.iload_n 3, 1) := by decide +kernel
theorem dX7_takesWay_42 : decode cX7_takesWay 42 = .ok (.iastore, 1) := by decide +kernel
theorem dX7_takesWay_43 : decode cX7_takesWay 43 = .ok (.aload_n 0, 1) := by decide +kernel
theorem dX7_takesWay_44 : decode cX7_takesWay 44 = .ok (.getfield 17, 3) := by decide +kernel
theorem dX7_takesWay_47 : decode cX7_takesWay 47 = .ok (.iload_n 2, 1) := by decide +kernel
theorem dX7_takesWay_48 : decode cX7_takesWay 48 = .ok (.aaload, 1) := by decide +kernel
theorem dX7_takesWay_49 : decode cX7_takesWay 49 = .ok (.iload_n 1, 1) := by decide +kernel
theorem dX7_takesWay_50 : decode cX7_takesWay 50 = .ok (.iload_n 3, 1) := by decide +kernel
theorem dX7_takesWay_51 : decode cX7_takesWay 51 = .ok (.iastore, 1) := by decide +kernel
theorem dX7_takesWay_52 : decode cX7_takesWay 52 = .ok (.iconst 1, 1) := by decide +kernel
theorem dX7_takesWay_53 : decode cX7_takesWay 53 = .ok (.ireturn, 1) := by decide +kernel
theorem dX7_takesPerson_0 : decode cX7_takesPerson 0 = .ok (.aload_n 0, 1) := by decide +kernel
theorem dX7_takesPerson_1 : decode cX7_takesPerson 1 = .ok (.invokevirtual 111, 3) := by decide +kernel
theorem dX7_takesPerson_4 : decode cX7_takesPerson 4 = .ok (.istore_n 2, 1) := by decide +kernel
theorem dX7_takesPerson_5 : decode cX7_takesPerson 5 = .ok (.aload_n 0, 1) := by decide +kernel
theorem dX7_takesPerson_6 : decode cX7_takesPerson 6 = .ok (.getfield 44, 3) := by decide +kernel
theorem dX7_takesPerson_9 : decode cX7_takesPerson 9 = .ok (.bipush 6, 2) := by decide +kernel
theorem dX7_takesPerson_11 : decode cX7_takesPerson 11 = .ok (.if_icmp .ge 7, 3) := by decide +kernel
theorem dX7_takesPerson_14 : decode cX7_takesPerson 14 = .ok (.iload_n 2, 1) := by decide +kernel
theorem dX7_takesPerson_15 : decode cX7_takesPerson 15 = .ok (.ifCond .ge 5, 3) := by decide +kernel
theorem dX7_takesPerson_18 : decode cX7_takesPerson 18 = .ok (.iconst 0, 1) := by decide +kernel
theorem dX7_takesPerson_19 : decode cX7_takesPerson 19 = .ok (.ireturn, 1) := by decide +kernel
theorem dX7_takesPerson_20 : decode cX7_takesPerson 20 = .ok (.aload_n 1, 1) := by decide +kernel
theorem dX7_takesPerson_21 : decode cX7_takesPerson 21 = .ok (.iconst 3, 1) := by decide +kernel
theorem dX7_takesPerson_22 : decode cX7_takesPerson 22 = .ok (.iaload, 1) := by decide +kernel
theorem dX7_takesPerson_23 : decode cX7_takesPerson 23 = .ok (.istore_n 3, 1) := by decide +kernel
theorem dX7_takesPerson_24 : decode cX7_takesPerson 24 = .ok (.iload_n 3, 1) := by decide +kernel
theorem dX7_takesPerson_25 : decode cX7_takesPerson 25 = .ok (.iconst 1, 1) := by decide +kernel
theorem dX7_takesPerson_26 : decode cX7_takesPerson 26 = .ok (.if_icmp .lt 9, 3) := by decide +kernel
theorem dX7_takesPerson_29 : decode cX7_takesPerson 29 = .ok (.iload_n 3, 1) := by decide +kernel
theorem dX7_takesPerson_30 : decode cX7_takesPerson 30 = .ok (.bipush 12, 2) := by decide +kernel
theorem dX7_takesPerson_32 : decode cX7_takesPerson 32 = .ok (.if_icmp .le 5, 3) := by decide +kernel
theorem dX7_takesPerson_35 : decode cX7_takesPerson 35 = .ok (.iconst 0, 1) := by decide +kernel
theorem dX7_takesPerson_36 : decode cX7_takesPerson 36 = .ok (.ireturn, 1) := by decide +kernel
theorem dX7_takesPerson_37 : decode cX7_takesPerson 37 = .ok (.iconst 0, 1) := by decide +kernel
theorem dX7_takesPerson_38 : decode cX7_takesPerson 38 = .ok (.istore 4, 2) := by decide +kernel
theorem dX7_takesPerson_40 : decode cX7_takesPerson 40 = .ok (.iload 4, 2) := by decide +kernel
theorem dX7_takesPerson_42 : decode cX7_takesPerson 42 = .ok (.iconst 3, 1) := by decide +kernel
theorem dX7_takesPerson_43 : decode cX7_takesPerson 43 = .ok (.if_icmp .ge 39, 3) := by decide +kernel
theorem dX7_takesPerson_46 : decode cX7_takesPerson 46 = .ok (.aload_n 1, 1) := by decide +kernel
theorem dX7_takesPerson_47 : decode cX7_takesPerson 47 = .ok (.iload 4, 2) := by decide +kernel
theorem dX7_takesPerson_49 : decode cX7_takesPerson 49 = .ok (.iaload, 1) := by decide +kernel
theorem dX7_takesPerson_50 : decode cX7_takesPerson 50 = .ok (.bipush 60, 2) := by decide +kernel
theorem dX7_takesPerson_52 : decode cX7_takesPerson 52 = .ok (.if_icmp .le 5, 3) := by decide +kernel
theorem dX7_takesPerson_55 : decode cX7_takesPerson 55 = .ok (.iconst 0, 1) := by decide +kernel
theorem dX7_takesPerson_56 : decode cX7_takesPerson 56 = .ok (.ireturn, 1) := by decide +kernel
theorem dX7_takesPerson_57 : decode cX7_takesPerson 57 = .ok (.aload_n 0, 1) := by decide +kernel
theorem dX7_takesPerson_58 : decode cX7_takesPerson 58 = .ok (.getfield 25, 3) := by decide +kernel
theorem dX7_takesPerson_61 : decode cX7_takesPerson 61 = .ok (.aload_n 0, 1) := by decide +kernel
theorem dX7_takesPerson_62 : decode cX7_takesPerson 62 = .ok (.getfield 44, 3) := by decide +kernel
theorem dX7_takesPerson_65 : decode cX7_takesPerson 65 = .ok (.aaload, 1) := by decide +kernel
theorem dX7_takesPerson_66 : decode cX7_takesPerson 66 = .ok (.getfield 114, 3) := by decide +kernel
theorem dX7_takesPerson_69 : decode cX7_takesPerson 69 = .ok (.iload 4, 2) := by decide +kernel
theorem dX7_takesPerson_71 : decode cX7_takesPerson 71 = .ok (.aload_n 1, 1) := by decide +kernel
theorem dX7_takesPerson_72 : decode cX7_takesPerson 72 = .ok (.iload 4, 2) := by decide +kernel
theorem dX7_takesPerson_74 : decode cX7_takesPerson 74 = .ok (.iaload, 1) := by decide +kernel
theorem dX7_takesPerson_75 : decode cX7_takesPerson 75 = .ok (.iastore, 1) := by decide +kernel
theorem dX7_takesPerson_76 : decode cX7_takesPerson 76 = .ok (.iinc 4 1, 3) := by decide +kernel
theorem dX7_takesPerson_79 : decode cX7_takesPerson 79 = .ok (.goto (-39), 3) := by decide +kernel
theorem dX7_takesPerson_82 : decode cX7_takesPerson 82 = .ok (.aload_n 0, 1) := by decide +kernel
theorem dX7_takesPerson_83 : decode cX7_takesPerson 83 = .ok (.getfield 25, 3) := by decide +kernel
theorem dX7_takesPerson_86 : decode cX7_takesPerson 86 = .ok (.aload_n 0, 1) := by decide +kernel
theorem dX7_takesPerson_87 : decode cX7_takesPerson 87 = .ok (.getfield 44, 3) := by decide +kernel
theorem dX7_takesPerson_90 : decode cX7_takesPerson 90 = .ok (.aaload, 1) := by decide +kernel
theorem dX7_takesPerson_91 : decode cX7_takesPerson 91 = .ok (.iload_n 3, 1) := by decide +kernel
theorem dX7_takesPerson_92 : decode cX7_takesPerson 92 = .ok (.putfield 118, 3) := by decide +kernel
theorem dX7_takesPerson_95 : decode cX7_takesPerson 95 = .ok (.aload_n 0, 1) := by decide +kernel
theorem dX7_takesPerson_96 : decode cX7_takesPerson 96 = .ok (.getfield 37, 3) := by decide +kernel
theorem dX7_takesPerson_99 : decode cX7_takesPerson 99 = .ok (.iload_n 2, 1) := by decide +kernel
theorem dX7_takesPerson_100 : decode cX7_takesPerson 100 = .ok (.aaload, 1) := by decide +kernel
theorem dX7_takesPerson_101 : decode cX7_takesPerson 101 = .ok (.invokevirtual 121, 3) := by decide +kernel
theorem dX7_takesPerson_104 : decode cX7_takesPerson 104 = .ok (.aload_n 0, 1) := by decide +kernel
theorem dX7_takesPerson_105 : decode cX7_takesPerson 105 = .ok (.getfield 37, 3) := by decide +kernel
theorem dX7_takesPerson_108 : decode cX7_takesPerson 108 = .ok (.iload_n 2, 1) := by decide +kernel
theorem dX7_takesPerson_109 : decode cX7_takesPerson 109 = .ok (.aaload, 1) := by decide +kernel
theorem dX7_takesPerson_110 : decode cX7_takesPerson 110 = .ok (.aload_n 0, 1) := by decide +kernel
theorem dX7_takesPerson_111 : decode cX7_takesPerson 111 = .ok (.getfield 44, 3) := by decide +kernel
theorem dX7_takesPerson_114 : decode cX7_takesPerson 114 = .ok (.putfield 73, 3) := by decide +kernel
theorem dX7_takesPerson_117 : decode cX7_takesPerson 117 = .ok (.aload_n 0, 1) := by decide +kernel
theorem dX7_takesPerson_118 : decode cX7_takesPerson 118 = .ok (.getfield 37, 3) := by decide +kernel
theorem dX7_takesPerson_121 : decode cX7_takesPerson 121 = .ok (.iload_n 2, 1) := by decide +kernel
theorem dX7_takesPerson_122 : decode cX7_takesPerson 122 = .ok (.aaload, 1) := by decide +kernel
theorem dX7_takesPerson_123 : decode cX7_takesPerson 123 = .ok (.bipush 12, 2) := by decide +kernel
theorem dX7_takesPerson_125 : decode cX7_takesPerson 125 = .ok (.putfield 66, 3) := by decide +kernel
theorem dX7_takesPerson_128 : decode cX7_takesPerson 128 = .ok (.aload_n 0, 1) := by decide +kernel
theorem dX7_takesPerson_129 : decode cX7_takesPerson 129 = .ok (.dup, 1) := by decide +kernel
theorem dX7_takesPerson_130 : decode cX7_takesPerson 130 = .ok (.getfield 44, 3) := by decide +kernel
theorem dX7_takesPerson_133 : decode cX7_takesPerson 133 = .ok (.iconst 1, 1) := by decide +kernel
theorem dX7_takesPerson_134 : decode cX7_takesPerson 134 = .ok (.iadd, 1) := by decide +kernel
theorem dX7_takesPerson_135 : decode cX7_takesPerson 135 = .ok (.putfield 44, 3) := by decide +kernel
theorem dX7_takesPerson_138 : decode cX7_takesPerson 138 = .ok (.iconst 1, 1) := by decide +kernel
theorem dX7_takesPerson_139 : decode cX7_takesPerson 139 = .ok (.ireturn, 1) := by decide +kernel
theorem dX7_takesWork_0 : decode cX7_takesWork 0 = .ok (.aload_n 0, 1) := by decide +kernel
theorem dX7_takesWork_1 : decode cX7_takesWork 1 = .ok (.getfield 47, 3) := by decide +kernel
theorem dX7_takesWork_4 : decode cX7_takesWork 4 = .ok (.bipush 6, 2) := by decide +kernel
theorem dX7_takesWork_6 : decode cX7_takesWork 6 = .ok (.if_icmp .ge 13, 3) := by decide +kernel
theorem dX7_takesWork_9 : decode cX7_takesWork 9 = .ok (.aload_n 0, 1) := by decide +kernel
theorem dX7_takesWork_10 : decode cX7_takesWork 10 = .ok (.aload_n 1, 1) := by decide +kernel
theorem dX7_takesWork_11 : decode cX7_takesWork 11 = .ok (.iconst 1, 1) := by decide +kernel
theorem dX7_takesWork_12 : decode cX7_takesWork 12 = .ok (.iaload, 1) := by decide +kernel
theorem dX7_takesWork_13 : decode cX7_takesWork 13 = .ok (.invokevirtual 108, 3) := by decide +kernel
theorem dX7_takesWork_16 : decode cX7_takesWork 16 = .ok (.ifCond .ne 5, 3) := by decide +kernel
theorem dX7_takesWork_19 : decode cX7_takesWork 19 = .ok (.iconst 0, 1) := by decide +kernel
theorem dX7_takesWork_20 : decode cX7_takesWork 20 = .ok (.ireturn, 1) := by decide +kernel
theorem dX7_takesWork_21 : decode cX7_takesWork 21 = .ok (.aload_n 0, 1) := by decide +kernel
theorem dX7_takesWork_22 : decode cX7_takesWork 22 = .ok (.getfield 31, 3) := by decide +kernel
theorem dX7_takesWork_25 : decode cX7_takesWork 25 = .ok (.aload_n 0, 1) := by decide +kernel
theorem dX7_takesWork_26 : decode cX7_takesWork 26 = .ok (.getfield 47, 3) := by decide +kernel
theorem dX7_takesWork_29 : decode cX7_takesWork 29 = .ok (.aaload, 1) := by decide +kernel
theorem dX7_takesWork_30 : decode cX7_takesWork 30 = .ok (.astore_n 2, 1) := by decide +kernel
theorem dX7_takesWork_31 : decode cX7_takesWork 31 = .ok (.iconst 0, 1) := by decide +kernel
theorem dX7_takesWork_32 : decode cX7_takesWork 32 = .ok (.istore_n 3, 1) := by decide +kernel
theorem dX7_takesWork_33 : decode cX7_takesWork 33 = .ok (.iload_n 3, 1) := by decide +kernel
theorem dX7_takesWork_34 : decode cX7_takesWork 34 = .ok (.iconst 3, 1) := by decide +kernel
theorem dX7_takesWork_35 : decode cX7_takesWork 35 = .ok (.if_icmp .ge 33, 3) := by decide +kernel
theorem dX7_takesWork_38 : decode cX7_takesWork 38 = .ok (.aload_n 1, 1) := by decide +kernel
theorem dX7_takesWork_39 : decode cX7_takesWork 39 = .ok (.iconst 2, 1) := by decide +kernel
theorem dX7_takesWork_40 : decode cX7_takesWork 40 = .ok (.iload_n 3, 1) := by decide +kernel
theorem dX7_takesWork_41 : decode cX7_takesWork 41 = .ok (.iadd, 1) := by decide +kernel
theorem dX7_takesWork_42 : decode cX7_takesWork 42 = .ok (.iaload, 1) := by decide +kernel
theorem dX7_takesWork_43 : decode cX7_takesWork 43 = .ok (.sipush 200, 3) := by decide +kernel
theorem dX7_takesWork_46 : decode cX7_takesWork 46 = .ok (.if_icmp .le 5, 3) := by decide +kernel
theorem dX7_takesWork_49 : decode cX7_takesWork 49 = .ok (.iconst 0, 1) := by decide +kernel
theorem dX7_takesWork_50 : decode cX7_takesWork 50 = .ok (.ireturn, 1) := by decide +kernel
theorem dX7_takesWork_51 : decode cX7_takesWork 51 = .ok (.aload_n 2, 1) := by decide +kernel
theorem dX7_takesWork_52 : decode cX7_takesWork 52 = .ok (.getfield 124, 3) := by decide +kernel
theorem dX7_takesWork_55 : decode cX7_takesWork 55 = .ok (.iload_n 3, 1) := by decide +kernel
theorem dX7_takesWork_56 : decode cX7_takesWork 56 = .ok (.aload_n 1, 1) := by decide +kernel
theorem dX7_takesWork_57 : decode cX7_takesWork 57 = .ok (.iconst 2, 1) := by decide +kernel
theorem dX7_takesWork_58 : decode cX7_takesWork 58 = .ok (.iload_n 3, 1) := by decide +kernel
theorem dX7_takesWork_59 : decode cX7_takesWork 59 = .ok (.iadd, 1) := by decide +kernel
theorem dX7_takesWork_60 : decode cX7_takesWork 60 = .ok (.iaload, 1) := by decide +kernel
theorem dX7_takesWork_61 : decode cX7_takesWork 61 = .ok (.iastore, 1) := by decide +kernel
theorem dX7_takesWork_62 : decode cX7_takesWork 62 = .ok (.iinc 3 1, 3) := by decide +kernel
theorem dX7_takesWork_65 : decode cX7_takesWork 65 = .ok (.goto (-32), 3) := by decide +kernel
theorem dX7_takesWork_68 : decode cX7_takesWork 68 = .ok (.aload_n 2, 1) := by decide +kernel
theorem dX7_takesWork_69 : decode cX7_takesWork 69 = .ok (.aload_n 1, 1) := by decide +kernel
theorem dX7_takesWork_70 : decode cX7_takesWork 70 = .ok (.iconst 0, 1) := by decide +kernel
theorem dX7_takesWork_71 : decode cX7_takesWork 71 = .ok (.iaload, 1) := by decide +kernel
theorem dX7_takesWork_72 : decode cX7_takesWork 72 = .ok (.putfield 127, 3) := by decide +kernel
theorem dX7_takesWork_75 : decode cX7_takesWork 75 = .ok (.aload_n 2, 1) := by decide +kernel
theorem dX7_takesWork_76 : decode cX7_takesWork 76 = .ok (.aload_n 1, 1) := by decide +kernel
theorem dX7_takesWork_77 : decode cX7_takesWork 77 = .ok (.iconst 1, 1) := by decide +kernel
theorem dX7_takesWork_78 : decode cX7_takesWork 78 = .ok (.iaload, 1) := by decide +kernel
theorem dX7_takesWork_79 : decode cX7_takesWork 79 = .ok (.putfield 107, 3) := by decide +kernel
theorem dX7_takesWork_82 : decode cX7_takesWork 82 = .ok (.aload_n 2, 1) := by decide +kernel
theorem dX7_takesWork_83 : decode cX7_takesWork 83 = .ok (.aload_n 1, 1) := by decide +kernel
theorem dX7_takesWork_84 : decode cX7_takesWork 84 = .ok (.iconst 5, 1) := by decide +kernel
theorem dX7_takesWork_85 : decode cX7_takesWork 85 = .ok (.iaload, 1) := by decide +kernel
theorem dX7_takesWork_86 : decode cX7_takesWork 86 = .ok (.putfield 130, 3) := by decide +kernel
theorem dX7_takesWork_89 : decode cX7_takesWork 89 = .ok (.aload_n 0, 1) := by decide +kernel
theorem dX7_takesWork_90 : decode cX7_takesWork 90 = .ok (.dup, 1) := by decide +kernel
theorem dX7_takesWork_91 : decode cX7_takesWork 91 = .ok (.getfield 47, 3) := by decide +kernel
theorem dX7_takesWork_94 : decode cX7_takesWork 94 = .ok (.iconst 1, 1) := by decide +kernel
theorem dX7_takesWork_95 : decode cX7_takesWork 95 = .ok (.iadd, 1) := by decide +kernel
theorem dX7_takesWork_96 : decode cX7_takesWork 96 = .ok (.putfield 47, 3) := by decide +kernel
theorem dX7_takesWork_99 : decode cX7_takesWork 99 = .ok (.iconst 1, 1) := by decide +kernel
theorem dX7_takesWork_100 : decode cX7_takesWork 100 = .ok (.ireturn, 1) := by decide +kernel
theorem dX7_measure_0 : decode cX7_measure 0 = .ok (.iconst 0, 1) := by decide +kernel
theorem dX7_measure_1 : decode cX7_measure 1 = .ok (.istore_n 1, 1) := by decide +kernel
theorem dX7_measure_2 : decode cX7_measure 2 = .ok (.iload_n 1, 1) := by decide +kernel
theorem dX7_measure_3 : decode cX7_measure 3 = .ok (.bipush 6, 2) := by decide +kernel
theorem dX7_measure_5 : decode cX7_measure 5 = .ok (.if_icmp .ge 64, 3) := by decide +kernel
theorem dX7_measure_8 : decode cX7_measure 8 = .ok (.iconst 0, 1) := by decide +kernel
theorem dX7_measure_9 : decode cX7_measure 9 = .ok (.istore_n 2, 1) := by decide +kernel
theorem dX7_measure_10 : decode cX7_measure 10 = .ok (.iload_n 2, 1) := by decide +kernel
theorem dX7_measure_11 : decode cX7_measure 11 = .ok (.bipush 6, 2) := by decide +kernel
theorem dX7_measure_13 : decode cX7_measure 13 = .ok (.if_icmp .ge 41, 3) := by decide +kernel
theorem dX7_measure_16 : decode cX7_measure 16 = .ok (.aload_n 0, 1) := by decide +kernel
theorem dX7_measure_17 : decode cX7_measure 17 = .ok (.getfield 20, 3) := by decide +kernel
theorem dX7_measure_20 : decode cX7_measure 20 = .ok (.iload_n 1, 1) := by decide +kernel
theorem dX7_measure_21 : decode cX7_measure 21 = .ok (.aaload, 1) := by decide +kernel
theorem dX7_measure_22 : decode cX7_measure 22 = .ok (.iload_n 2, 1) := by decide +kernel
theorem dX7_measure_23 : decode cX7_measure 23 = .ok (.aload_n 0, 1) := by decide +kernel
theorem dX7_measure_24 : decode cX7_measure 24 = .ok (.getfield 17, 3) := by decide +kernel
theorem dX7_measure_27 : decode cX7_measure 27 = .ok (.iload_n 1, 1) := by decide +kernel
theorem dX7_measure_28 : decode cX7_measure 28 = .ok (.aaload, 1) := by decide +kernel
theorem dX7_measure_29 : decode cX7_measure 29 = .ok (.iload_n 2, 1) := by decide +kernel
theorem dX7_measure_30 : decode cX7_measure 30 = .ok (.iaload, 1) := by decide +kernel
theorem dX7_measure_31 : decode cX7_measure 31 = .ok (.ifCond .le 14, 3) := by decide +kernel
theorem dX7_measure_34 : decode cX7_measure 34 = .ok (.aload_n 0, 1) := by decide +kernel
theorem dX7_measure_35 : decode cX7_measure 35 = .ok (.getfield 17, 3) := by decide +kernel
theorem dX7_measure_38 : decode cX7_measure 38 = .ok (.iload_n 1, 1) := by decide +kernel
theorem dX7_measure_39 : decode cX7_measure 39 = .ok (.aaload, 1) := by decide +kernel
theorem dX7_measure_40 : decode cX7_measure 40 = .ok (.iload_n 2, 1) := by decide +kernel
theorem dX7_measure_41 : decode cX7_measure 41 = .ok (.iaload, 1) := by decide +kernel
theorem dX7_measure_42 : decode cX7_measure 42 = .ok (.goto 5, 3) := by decide +kernel
theorem dX7_measure_45 : decode cX7_measure 45 = .ok (.bipush (-9), 2) := by decide +kernel
theorem dX7_measure_47 : decode cX7_measure 47 = .ok (.iastore, 1) := by decide +kernel
theorem dX7_measure_48 : decode cX7_measure 48 = .ok (.iinc 2 1, 3) := by decide +kernel
theorem dX7_measure_51 : decode cX7_measure 51 = .ok (.goto (-41), 3) := by decide +kernel
theorem dX7_measure_54 : decode cX7_measure 54 = .ok (.aload_n 0, 1) := by decide +kernel
theorem dX7_measure_55 : decode cX7_measure 55 = .ok (.getfield 20, 3) := by decide +kernel
theorem dX7_measure_58 : decode cX7_measure 58 = .ok (.iload_n 1, 1) := by decide +kernel
theorem dX7_measure_59 : decode cX7_measure 59 = .ok (.aaload, 1) := by decide +kernel
theorem dX7_measure_60 : decode cX7_measure 60 = .ok (.iload_n 1, 1) := by decide +kernel
theorem dX7_measure_61 : decode cX7_measure 61 = .ok (.iconst 0, 1) := by decide +kernel
theorem dX7_measure_62 : decode cX7_measure 62 = .ok (.iastore, 1) := by decide +kernel
theorem dX7_measure_63 : decode cX7_measure 63 = .ok (.iinc 1 1, 3) := by decide +kernel
theorem dX7_measure_66 : decode cX7_measure 66 = .ok (.goto (-64), 3) := by decide +kernel
theorem dX7_measure_69 : decode cX7_measure 69 = .ok (.iconst 0, 1) := by decide +kernel
theorem dX7_measure_70 : decode cX7_measure 70 = .ok (.istore_n 1, 1) := by decide +kernel
theorem dX7_measure_71 : decode cX7_measure 71 = .ok (.iload_n 1, 1) := by decide +kernel
theorem dX7_measure_72 : decode cX7_measure 72 = .ok (.bipush 6, 2) := by decide +kernel
theorem dX7_measure_74 : decode cX7_measure 74 = .ok (.if_icmp .ge 44, 3) := by decide +kernel
theorem dX7_measure_77 : decode cX7_measure 77 = .ok (.iconst 0, 1) := by decide +kernel
theorem dX7_measure_78 : decode cX7_measure 78 = .ok (.istore_n 2, 1) := by decide +kernel
theorem dX7_measure_79 : decode cX7_measure 79 = .ok (.iload_n 2, 1) := by decide +kernel
theorem dX7_measure_80 : decode cX7_measure 80 = .ok (.bipush 6, 2) := by decide +kernel
theorem dX7_measure_82 : decode cX7_measure 82 = .ok (.if_icmp .ge 30, 3) := by decide +kernel
theorem dX7_measure_85 : decode cX7_measure 85 = .ok (.iconst 0, 1) := by decide +kernel
theorem dX7_measure_86 : decode cX7_measure 86 = .ok (.istore_n 3, 1) := by decide +kernel
theorem dX7_measure_87 : decode cX7_measure 87 = .ok (.iload_n 3, 1) := by decide +kernel
theorem dX7_measure_88 : decode cX7_measure 88 = .ok (.bipush 6, 2) := by decide +kernel
theorem dX7_measure_90 : decode cX7_measure 90 = .ok (.if_icmp .ge 16, 3) := by decide +kernel
theorem dX7_measure_93 : decode cX7_measure 93 = .ok (.aload_n 0, 1) := by decide +kernel
theorem dX7_measure_94 : decode cX7_measure 94 = .ok (.iload_n 2, 1) := by decide +kernel
theorem dX7_measure_95 : decode cX7_measure 95 = .ok (.iload_n 1, 1) := by decide +kernel
theorem dX7_measure_96 : decode cX7_measure 96 = .ok (.iload_n 3, 1) := by decide +kernel
theorem dX7_measure_97 : decode cX7_measure 97 = .ok (.invokevirtual 133, 3) := by decide +kernel
theorem dX7_measure_100 : decode cX7_measure 100 = .ok (.iinc 3 1, 3) := by decide +kernel
theorem dX7_measure_103 : decode cX7_measure 103 = .ok (.goto (-16), 3) := by decide +kernel
theorem dX7_measure_106 : decode cX7_measure 106 = .ok (.iinc 2 1, 3) := by decide +kernel
theorem dX7_measure_109 : decode cX7_measure 109 = .ok (.goto (-30), 3) := by decide +kernel
theorem dX7_measure_112 : decode cX7_measure 112 = .ok (.iinc 1 1, 3) := by decide +kernel
theorem dX7_measure_115 : decode cX7_measure 115 = .ok (.goto (-44), 3) := by decide +kernel
theorem dX7_measure_118 : decode cX7_measure 118 = .ok (.return_, 1) := by decide +kernel
theorem dX7_shorten_0 : decode cX7_shorten 0 = .ok (.aload_n 0, 1) := by decide +kernel
theorem dX7_shorten_1 : decode cX7_shorten 1 = .ok (.getfield 20, 3) := by decide +kernel
theorem dX7_shorten_4 : decode cX7_shorten 4 = .ok (.iload_n 1, 1) := by decide +kernel
theorem dX7_shorten_5 : decode cX7_shorten 5 = .ok (.aaload, 1) := by decide +kernel
theorem dX7_shorten_6 : decode cX7_shorten 6 = .ok (.iload_n 2, 1) := by decide +kernel
theorem dX7_shorten_7 : decode cX7_shorten 7 = .ok (.iaload, 1) := by decide +kernel
theorem dX7_shorten_8 : decode cX7_shorten 8 = .ok (.ifCond .lt 14, 3) := by decide +kernel
theorem dX7_shorten_11 : decode cX7_shorten 11 = .ok (.aload_n 0, 1) := by decide +kernel
theorem dX7_shorten_12 : decode cX7_shorten 12 = .ok (.getfield 20, 3) := by decide +kernel
theorem dX7_shorten_15 : decode cX7_shorten 15 = .ok (.iload_n 2, 1) := by decide +kernel
theorem dX7_shorten_16 : decode cX7_shorten 16 = .ok (.aaload, 1) := by decide +kernel
theorem dX7_shorten_17 : decode cX7_shorten 17 = .ok (.iload_n 3, 1) := by decide +kernel
theorem dX7_shorten_18 : decode cX7_shorten 18 = .ok (.iaload, 1) := by decide +kernel
theorem dX7_shorten_19 : decode cX7_shorten 19 = .ok (.ifCond .ge 4, 3) := by decide +kernel
theorem dX7_shorten_22 : decode cX7_shorten 22 = .ok (.return_, 1) := by decide +kernel
theorem dX7_shorten_23 : decode cX7_shorten 23 = .ok (.aload_n 0, 1) := by decide +kernel
theorem dX7_shorten_24 : decode cX7_shorten 24 = .ok (.getfield 20, 3) := by decide +kernel
theorem dX7_shorten_27 : decode cX7_shorten 27 = .ok (.iload_n 1, 1) := by decide +kernel
theorem dX7_shorten_28 : decode cX7_shorten 28 = .ok (.aaload, 1) := by decide +kernel
theorem dX7_shorten_29 : decode cX7_shorten 29 = .ok (.iload_n 2, 1) := by decide +kernel
theorem dX7_shorten_30 : decode cX7_shorten 30 = .ok (.iaload, 1) := by decide +kernel
theorem dX7_shorten_31 : decode cX7_shorten 31 = .ok (.aload_n 0, 1) := by decide +kernel
theorem dX7_shorten_32 : decode cX7_shorten 32 = .ok (.getfield 20, 3) := by decide +kernel
theorem dX7_shorten_35 : decode cX7_shorten 35 = .ok (.iload_n 2, 1) := by decide +kernel
theorem dX7_shorten_36 : decode cX7_shorten 36 = .ok (.aaload, 1) := by decide +kernel
theorem dX7_shorten_37 : decode cX7_shorten 37 = .ok (.iload_n 3, 1) := by decide +kernel
theorem dX7_shorten_38 : decode cX7_shorten 38 = .ok (.iaload, 1) := by decide +kernel
theorem dX7_shorten_39 : decode cX7_shorten 39 = .ok (.iadd, 1) := by decide +kernel
theorem dX7_shorten_40 : decode cX7_shorten 40 = .ok (.istore 4, 2) := by decide +kernel
theorem dX7_shorten_42 : decode cX7_shorten 42 = .ok (.aload_n 0, 1) := by decide +kernel
theorem dX7_shorten_43 : decode cX7_shorten 43 = .ok (.getfield 20, 3) := by decide +kernel
theorem dX7_shorten_46 : decode cX7_shorten 46 = .ok (.iload_n 1, 1) := by decide +kernel
theorem dX7_shorten_47 : decode cX7_shorten 47 = .ok (.aaload, 1) := by decide +kernel
theorem dX7_shorten_48 : decode cX7_shorten 48 = .ok (.iload_n 3, 1) := by decide +kernel
theorem dX7_shorten_49 : decode cX7_shorten 49 = .ok (.iaload, 1) := by decide +kernel
theorem dX7_shorten_50 : decode cX7_shorten 50 = .ok (.ifCond .lt 16, 3) := by decide +kernel
theorem dX7_shorten_53 : decode cX7_shorten 53 = .ok (.iload 4, 2) := by decide +kernel
theorem dX7_shorten_55 : decode cX7_shorten 55 = .ok (.aload_n 0, 1) := by decide +kernel
theorem dX7_shorten_56 : decode cX7_shorten 56 = .ok (.getfield 20, 3) := by decide +kernel
theorem dX7_shorten_59 : decode cX7_shorten 59 = .ok (.iload_n 1, 1) := by decide +kernel
theorem dX7_shorten_60 : decode cX7_shorten 60 = .ok (.aaload, 1) := by decide +kernel
theorem dX7_shorten_61 : decode cX7_shorten 61 = .ok (.iload_n 3, 1) := by decide +kernel
theorem dX7_shorten_62 : decode cX7_shorten 62 = .ok (.iaload, 1) := by decide +kernel
theorem dX7_shorten_63 : decode cX7_shorten 63 = .ok (.if_icmp .ge 13, 3) := by decide +kernel
theorem dX7_shorten_66 : decode cX7_shorten 66 = .ok (.aload_n 0, 1) := by decide +kernel
theorem dX7_shorten_67 : decode cX7_shorten 67 = .ok (.getfield 20, 3) := by decide +kernel
theorem dX7_shorten_70 : decode cX7_shorten 70 = .ok (.iload_n 1, 1) := by decide +kernel
theorem dX7_shorten_71 : decode cX7_shorten 71 = .ok (.aaload, 1) := by decide +kernel
theorem dX7_shorten_72 : decode cX7_shorten 72 = .ok (.iload_n 3, 1) := by decide +kernel
theorem dX7_shorten_73 : decode cX7_shorten 73 = .ok (.iload 4, 2) := by decide +kernel
theorem dX7_shorten_75 : decode cX7_shorten 75 = .ok (.iastore, 1) := by decide +kernel
theorem dX7_shorten_76 : decode cX7_shorten 76 = .ok (.return_, 1) := by decide +kernel
theorem dX7_minuteAt_0 : decode cX7_minuteAt 0 = .ok (.bipush (-9), 2) := by decide +kernel
theorem dX7_minuteAt_2 : decode cX7_minuteAt 2 = .ok (.istore_n 3, 1) := by decide +kernel
theorem dX7_minuteAt_3 : decode cX7_minuteAt 3 = .ok (.iconst 0, 1) := by decide +kernel
theorem dX7_minuteAt_4 : decode cX7_minuteAt 4 = .ok (.istore 4, 2) := by decide +kernel
theorem dX7_minuteAt_6 : decode cX7_minuteAt 6 = .ok (.iload 4, 2) := by decide +kernel
theorem dX7_minuteAt_8 : decode cX7_minuteAt 8 = .ok (.bipush 24, 2) := by decide +kernel
theorem dX7_minuteAt_10 : decode cX7_minuteAt 10 = .ok (.if_icmp .ge 64, 3) := by decide +kernel
theorem dX7_minuteAt_13 : decode cX7_minuteAt 13 = .ok (.aload_n 0, 1) := by decide +kernel
theorem dX7_minuteAt_14 : decode cX7_minuteAt 14 = .ok (.iload 4, 2) := by decide +kernel
theorem dX7_minuteAt_16 : decode cX7_minuteAt 16 = .ok (.iload_n 1, 1) := by decide +kernel
theorem dX7_minuteAt_17 : decode cX7_minuteAt 17 = .ok (.invokevirtual 76, 3) := by decide +kernel
theorem dX7_minuteAt_20 : decode cX7_minuteAt 20 = .ok (.ifCond .eq 48, 3) := by decide +kernel
theorem dX7_minuteAt_23 : decode cX7_minuteAt 23 = .ok (.aload_n 0, 1) := by decide +kernel
theorem dX7_minuteAt_24 : decode cX7_minuteAt 24 = .ok (.getfield 20, 3) := by decide +kernel
theorem dX7_minuteAt_27 : decode cX7_minuteAt 27 = .ok (.aload_n 0, 1) := by decide +kernel
theorem dX7_minuteAt_28 : decode cX7_minuteAt 28 = .ok (.getfield 37, 3) := by decide +kernel
theorem dX7_minuteAt_31 : decode cX7_minuteAt 31 = .ok (.iload 4, 2) := by decide +kernel
theorem dX7_minuteAt_33 : decode cX7_minuteAt 33 = .ok (.aaload, 1) := by decide +kernel
theorem dX7_minuteAt_34 : decode cX7_minuteAt 34 = .ok (.getfield 80, 3) := by decide +kernel
theorem dX7_minuteAt_37 : decode cX7_minuteAt 37 = .ok (.aaload, 1) := by decide +kernel
theorem dX7_minuteAt_38 : decode cX7_minuteAt 38 = .ok (.iload_n 2, 1) := by decide +kernel
theorem dX7_minuteAt_39 : decode cX7_minuteAt 39 = .ok (.iaload, 1) := by decide +kernel
theorem dX7_minuteAt_40 : decode cX7_minuteAt 40 = .ok (.istore 5, 2) := by decide +kernel
theorem dX7_minuteAt_42 : decode cX7_minuteAt 42 = .ok (.iload 5, 2) := by decide +kernel
theorem dX7_minuteAt_44 : decode cX7_minuteAt 44 = .ok (.ifCond .ge 6, 3) := by decide +kernel
theorem dX7_minuteAt_47 : decode cX7_minuteAt 47 = .ok (.bipush (-9), 2) := by decide +kernel
theorem dX7_minuteAt_49 : decode cX7_minuteAt 49 = .ok (.ireturn, 1) := by decide +kernel
theorem dX7_minuteAt_50 : decode cX7_minuteAt 50 = .ok (.iload_n 3, 1) := by decide +kernel
theorem dX7_minuteAt_51 : decode cX7_minuteAt 51 = .ok (.aload_n 0, 1) := by decide +kernel
theorem dX7_minuteAt_52 : decode cX7_minuteAt 52 = .ok (.getfield 37, 3) := by decide +kernel
theorem dX7_minuteAt_55 : decode cX7_minuteAt 55 = .ok (.iload 4, 2) := by decide +kernel
theorem dX7_minuteAt_57 : decode cX7_minuteAt 57 = .ok (.aaload, 1) := by decide +kernel
theorem dX7_minuteAt_58 : decode cX7_minuteAt 58 = .ok (.getfield 137, 3) := by decide +kernel
theorem dX7_minuteAt_61 : decode cX7_minuteAt 61 = .ok (.iload 5, 2) := by decide +kernel
theorem dX7_minuteAt_63 : decode cX7_minuteAt 63 = .ok (.iadd, 1) := by decide +kernel
theorem dX7_minuteAt_64 : decode cX7_minuteAt 64 = .ok (.invokestatic 101, 3) := by decide +kernel
theorem dX7_minuteAt_67 : decode cX7_minuteAt 67 = .ok (.istore_n 3, 1) := by decide +kernel
theorem dX7_minuteAt_68 : decode cX7_minuteAt 68 = .ok (.iinc 4 1, 3) := by decide +kernel
theorem dX7_minuteAt_71 : decode cX7_minuteAt 71 = .ok (.goto (-65), 3) := by decide +kernel
theorem dX7_minuteAt_74 : decode cX7_minuteAt 74 = .ok (.iload_n 3, 1) := by decide +kernel
theorem dX7_minuteAt_75 : decode cX7_minuteAt 75 = .ok (.ireturn, 1) := by decide +kernel
theorem dX8_init_0 : decode cX8_init 0 = .ok (.aload_n 0, 1) := by decide +kernel
theorem dX8_init_1 : decode cX8_init 1 = .ok (.invokespecial 3, 3) := by decide +kernel
theorem dX8_init_4 : decode cX8_init 4 = .ok (.aload_n 0, 1) := by decide +kernel
theorem dX8_init_5 : decode cX8_init 5 = .ok (.iconst 3, 1) := by decide +kernel
theorem dX8_init_6 : decode cX8_init 6 = .ok (.newarray .int, 2) := by decide +kernel
theorem dX8_init_8 : decode cX8_init 8 = .ok (.putfield 9, 3) := by decide +kernel
theorem dX8_init_11 : decode cX8_init 11 = .ok (.return_, 1) := by decide +kernel
theorem dX8_become_0 : decode cX8_become 0 = .ok (.aload_n 0, 1) := by decide +kernel
theorem dX8_become_1 : decode cX8_become 1 = .ok (.aload_n 1, 1) := by decide +kernel
theorem dX8_become_2 : decode cX8_become 2 = .ok (.getfield 15, 3) := by decide +kernel
theorem dX8_become_5 : decode cX8_become 5 = .ok (.putfield 15, 3) := by decide +kernel
theorem dX8_become_8 : decode cX8_become 8 = .ok (.aload_n 0, 1) := by decide +kernel
theorem dX8_become_9 : decode cX8_become 9 = .ok (.aload_n 1, 1) := by decide +kernel
theorem dX8_become_10 : decode cX8_become 10 = .ok (.getfield 19, 3) := by decide +kernel
theorem dX8_become_13 : decode cX8_become 13 = .ok (.putfield 19, 3) := by decide +kernel
theorem dX8_become_16 : decode cX8_become 16 = .ok (.aload_n 1, 1) := by decide +kernel
theorem dX8_become_17 : decode cX8_become 17 = .ok (.getfield 9, 3) := by decide +kernel
theorem dX8_become_20 : decode cX8_become 20 = .ok (.iconst 0, 1) := by decide +kernel
theorem dX8_become_21 : decode cX8_become 21 = .ok (.aload_n 0, 1) := by decide +kernel
theorem dX8_become_22 : decode cX8_become 22 = .ok (.getfield 9, 3) := by decide +kernel
theorem dX8_become_25 : decode cX8_become 25 = .ok (.iconst 0, 1) := by decide +kernel
theorem dX8_become_26 : decode cX8_become 26 = .ok (.iconst 3, 1) := by decide +kernel
theorem dX8_become_27 : decode cX8_become 27 = .ok (.invokestatic 22, 3) := by decide +kernel
theorem dX8_become_30 : decode cX8_become 30 = .ok (.aload_n 0, 1) := by decide +kernel
theorem dX8_become_31 : decode cX8_become 31 = .ok (.aload_n 1, 1) := by decide +kernel
theorem dX8_become_32 : decode cX8_become 32 = .ok (.getfield 28, 3) := by decide +kernel
theorem dX8_become_35 : decode cX8_become 35 = .ok (.putfield 28, 3) := by decide +kernel
theorem dX8_become_38 : decode cX8_become 38 = .ok (.return_, 1) := by decide +kernel
theorem dX9_init_0 : decode cX9_init 0 = .ok (.aload_n 0, 1) := by decide +kernel
theorem dX9_init_1 : decode cX9_init 1 = .ok (.invokespecial 1, 3) := by decide +kernel
theorem dX9_init_4 : decode cX9_init 4 = .ok (.aload_n 0, 1) := by decide +kernel
theorem dX9_init_5 : decode cX9_init 5 = .ok (.new 7, 3) := by decide +kernel
theorem dX9_init_8 : decode cX9_init 8 = .ok (.dup, 1) := by decide +kernel
theorem dX9_init_9 : decode cX9_init 9 = .ok (.invokespecial 9, 3) := by decide +kernel
theorem dX9_init_12 : decode cX9_init 12 = .ok (.putfield 10, 3) := by decide +kernel
theorem dX9_init_15 : decode cX9_init 15 = .ok (.aload_n 0, 1) := by decide +kernel
theorem dX9_init_16 : decode cX9_init 16 = .ok (.new 16, 3) := by decide +kernel
theorem dX9_init_19 : decode cX9_init 19 = .ok (.dup, 1) := by decide +kernel
theorem dX9_init_20 : decode cX9_init 20 = .ok (.invokespecial 18, 3) := by decide +kernel
theorem dX9_init_23 : decode cX9_init 23 = .ok (.putfield 19, 3) := by decide +kernel
theorem dX9_init_26 : decode cX9_init 26 = .ok (.aload_n 0, 1) := by decide +kernel
theorem dX9_init_27 : decode cX9_init 27 = .ok (.new 16, 3) := by decide +kernel
theorem dX9_init_30 : decode cX9_init 30 = .ok (.dup, 1) := by decide +kernel
theorem dX9_init_31 : decode cX9_init 31 = .ok (.invokespecial 18, 3) := by decide +kernel
theorem dX9_init_34 : decode cX9_init 34 = .ok (.putfield 23, 3) := by decide +kernel
theorem dX9_init_37 : decode cX9_init 37 = .ok (.aload_n 0, 1) := by decide +kernel
theorem dX9_init_38 : decode cX9_init 38 = .ok (.new 16, 3) := by decide +kernel
theorem dX9_init_41 : decode cX9_init 41 = .ok (.dup, 1) := by decide +kernel
theorem dX9_init_42 : decode cX9_init 42 = .ok (.invokespecial 18, 3) := by decide +kernel
theorem dX9_init_45 : decode cX9_init 45 = .ok (.putfield 26, 3) := by decide +kernel
theorem dX9_init_48 : decode cX9_init 48 = .ok (.aload_n 0, 1) := by decide +kernel
theorem dX9_init_49 : decode cX9_init 49 = .ok (.iconst 0, 1) := by decide +kernel
theorem dX9_init_50 : decode cX9_init 50 = .ok (.putfield 29, 3) := by decide +kernel
theorem dX9_init_53 : decode cX9_init 53 = .ok (.aload_n 0, 1) := by decide +kernel
theorem dX9_init_54 : decode cX9_init 54 = .ok (.new 33, 3) := by decide +kernel
theorem dX9_init_57 : decode cX9_init 57 = .ok (.dup, 1) := by decide +kernel
theorem dX9_init_58 : decode cX9_init 58 = .ok (.invokespecial 35, 3) := by decide +kernel
theorem dX9_init_61 : decode cX9_init 61 = .ok (.putfield 36, 3) := by decide +kernel
theorem dX9_init_64 : decode cX9_init 64 = .ok (.aload_n 0, 1) := by decide +kernel
theorem dX9_init_65 : decode cX9_init 65 = .ok (.new 40, 3) := by decide +kernel
theorem dX9_init_68 : decode cX9_init 68 = .ok (.dup, 1) := by decide +kernel
theorem dX9_init_69 : decode cX9_init 69 = .ok (.invokespecial 42, 3) := by decide +kernel
theorem dX9_init_72 : decode cX9_init 72 = .ok (.putfield 43, 3) := by decide +kernel
theorem dX9_init_75 : decode cX9_init 75 = .ok (.aload_n 0, 1) := by decide +kernel
theorem dX9_init_76 : decode cX9_init 76 = .ok (.new 47, 3) := by decide +kernel
theorem dX9_init_79 : decode cX9_init 79 = .ok (.dup, 1) := by decide +kernel
theorem dX9_init_80 : decode cX9_init 80 = .ok (.invokespecial 49, 3) := by decide +kernel
theorem dX9_init_83 : decode cX9_init 83 = .ok (.putfield 50, 3) := by decide +kernel
theorem dX9_init_86 : decode cX9_init 86 = .ok (.aload_n 0, 1) := by decide +kernel
theorem dX9_init_87 : decode cX9_init 87 = .ok (.new 54, 3) := by decide +kernel
theorem dX9_init_90 : decode cX9_init 90 = .ok (.dup, 1) := by decide +kernel
theorem dX9_init_91 : decode cX9_init 91 = .ok (.invokespecial 56, 3) := by decide +kernel
theorem dX9_init_94 : decode cX9_init 94 = .ok (.putfield 57, 3) := by decide +kernel
theorem dX9_init_97 : decode cX9_init 97 = .ok (.aload_n 0, 1) := by decide +kernel
theorem dX9_init_98 : decode cX9_init 98 = .ok (.bipush 12, 2) := by decide +kernel
theorem dX9_init_100 : decode cX9_init 100 = .ok (.newarray .int, 2) := by decide +kernel
theorem dX9_init_102 : decode cX9_init 102 = .ok (.putfield 61, 3) := by decide +kernel
theorem dX9_init_105 : decode cX9_init 105 = .ok (.aload_n 0, 1) := by decide +kernel
theorem dX9_init_106 : decode cX9_init 106 = .ok (.iconst 0, 1) := by decide +kernel
theorem dX9_init_107 : decode cX9_init 107 = .ok (.putfield 65, 3) := by decide +kernel
theorem dX9_init_110 : decode cX9_init 110 = .ok (.aload_n 0, 1) := by decide +kernel
theorem dX9_init_111 : decode cX9_init 111 = .ok (.bipush 7, 2) := by decide +kernel
theorem dX9_init_113 : decode cX9_init 113 = .ok (.newarray .int, 2) := by decide +kernel
theorem dX9_init_115 : decode cX9_init 115 = .ok (.putfield 69, 3) := by decide +kernel
theorem dX9_init_118 : decode cX9_init 118 = .ok (.return_, 1) := by decide +kernel
theorem dX9_feed_0 : decode cX9_feed 0 = .ok (.iload_n 1, 1) := by decide +kernel
theorem dX9_feed_1 : decode cX9_feed 1 = .ok (.ifCond .ge 10, 3) := by decide +kernel
theorem dX9_feed_4 : decode cX9_feed 4 = .ok (.aload_n 0, 1) := by decide +kernel
theorem dX9_feed_5 : decode cX9_feed 5 = .ok (.bipush (-4), 2) := by decide +kernel
theorem dX9_feed_7 : decode cX9_feed 7 = .ok (.invokevirtual 72, 3) := by decide +kernel
theorem dX9_feed_10 : decode cX9_feed 10 = .ok (.ireturn, 1) := by decide +kernel
theorem dX9_feed_11 : decode cX9_feed 11 = .ok (.iload_n 1, 1) := by decide +kernel
theorem dX9_feed_12 : decode cX9_feed 12 = .ok (.sipush 255, 3) := by decide +kernel
theorem dX9_feed_15 : decode cX9_feed 15 = .ok (.if_icmp .gt 13, 3) := by decide +kernel
theorem dX9_feed_18 : decode cX9_feed 18 = .ok (.aload_n 0, 1) := by decide +kernel
theorem dX9_feed_19 : decode cX9_feed 19 = .ok (.getfield 10, 3) := by decide +kernel
theorem dX9_feed_22 : decode cX9_feed 22 = .ok (.invokevirtual 76, 3) := by decide +kernel
theorem dX9_feed_25 : decode cX9_feed 25 = .ok (.ifCond .eq 10, 3) := by decide +kernel
theorem dX9_feed_28 : decode cX9_feed 28 = .ok (.aload_n 0, 1) := by decide +kernel
theorem dX9_feed_29 : decode cX9_feed 29 = .ok (.bipush (-6), 2) := by decide +kernel
theorem dX9_feed_31 : decode cX9_feed 31 = .ok (.invokevirtual 72, 3) := by decide +kernel
theorem dX9_feed_34 : decode cX9_feed 34 = .ok (.ireturn, 1) := by decide +kernel
theorem dX9_feed_35 : decode cX9_feed 35 = .ok (.aload_n 0, 1) := by decide +kernel
theorem dX9_feed_36 : decode cX9_feed 36 = .ok (.getfield 10, 3) := by decide +kernel
theorem dX9_feed_39 : decode cX9_feed 39 = .ok (.iload_n 1, 1) := by decide +kernel
theorem dX9_feed_40 : decode cX9_feed 40 = .ok (.invokevirtual 80, 3) := by decide +kernel
theorem dX9_feed_43 : decode cX9_feed 43 = .ok (.ireturn, 1) := by decide +kernel
theorem dX9_village_0 : decode cX9_village 0 = .ok (.aload_n 0, 1) := by decide +kernel
theorem dX9_village_1 : decode cX9_village 1 = .ok (.getfield 23, 3) := by decide +kernel
theorem dX9_village_4 : decode cX9_village 4 = .ok (.aload_n 0, 1) := by decide +kernel
theorem dX9_village_5 : decode cX9_village 5 = .ok (.getfield 19, 3) := by decide +kernel
theorem dX9_village_8 : decode cX9_village 8 = .ok (.invokevirtual 83, 3) := by decide +kernel
theorem dX9_village_11 : decode cX9_village 11 = .ok (.aload_n 0, 1) := by decide +kernel
theorem dX9_village_12 : decode cX9_village 12 = .ok (.getfield 10, 3) := by decide +kernel
theorem dX9_village_15 : decode cX9_village 15 = .ok (.aload_n 0, 1) := by decide +kernel
theorem dX9_village_16 : decode cX9_village 16 = .ok (.getfield 23, 3) := by decide +kernel
theorem dX9_village_19 : decode cX9_village 19 = .ok (.invokevirtual 87, 3) := by decide +kernel
theorem dX9_village_22 : decode cX9_village 22 = .ok (.istore_n 1, 1) := by decide +kernel
theorem dX9_village_23 : decode cX9_village 23 = .ok (.aload_n 0, 1) := by decide +kernel
theorem dX9_village_24 : decode cX9_village 24 = .ok (.getfield 10, 3) := by decide +kernel
theorem dX9_village_27 : decode cX9_village 27 = .ok (.invokevirtual 91, 3) := by decide +kernel
theorem dX9_village_30 : decode cX9_village 30 = .ok (.iload_n 1, 1) := by decide +kernel
theorem dX9_village_31 : decode cX9_village 31 = .ok (.ifCond .le 21, 3) := by decide +kernel
theorem dX9_village_34 : decode cX9_village 34 = .ok (.aload_n 0, 1) := by decide +kernel
theorem dX9_village_35 : decode cX9_village 35 = .ok (.getfield 19, 3) := by decide +kernel
theorem dX9_village_38 : decode cX9_village 38 = .ok (.aload_n 0, 1) := by decide +kernel
theorem dX9_village_39 : decode cX9_village 39 = .ok (.getfield 23, 3) := by decide +kernel
theorem dX9_village_42 : decode cX9_village 42 = .ok (.invokevirtual 83, 3) := by decide +kernel
theorem dX9_village_45 : decode cX9_village 45 = .ok (.aload_n 0, 1) := by decide +kernel
theorem dX9_village_46 : decode cX9_village 46 = .ok (.getfield 50, 3) := by decide +kernel
theorem dX9_village_49 : decode cX9_village 49 = .ok (.invokevirtual 94, 3) := by decide +kernel
theorem dX9_village_52 : decode cX9_village 52 = .ok (.iload_n 1, 1) := by decide +kernel
theorem dX9_village_53 : decode cX9_village 53 = .ok (.ireturn, 1) := by decide +kernel
theorem dX9_person_0 : decode cX9_person 0 = .ok (.aload_n 0, 1) := by decide +kernel
theorem dX9_person_1 : decode cX9_person 1 = .ok (.getfield 19, 3) := by decide +kernel
theorem dX9_person_4 : decode cX9_person 4 = .ok (.iload_n 1, 1) := by decide +kernel
theorem dX9_person_5 : decode cX9_person 5 = .ok (.invokevirtual 97, 3) := by decide +kernel
theorem dX9_person_8 : decode cX9_person 8 = .ok (.ifCond .ne 9, 3) := by decide +kernel
theorem dX9_person_11 : decode cX9_person 11 = .ok (.aload_n 0, 1) := by decide +kernel
theorem dX9_person_12 : decode cX9_person 12 = .ok (.iconst (-1), 1) := by decide +kernel
theorem dX9_person_13 : decode cX9_person 13 = .ok (.invokevirtual 72, 3) := by decide +kernel
theorem dX9_person_16 : decode cX9_person 16 = .ok (.ireturn, 1) := by decide +kernel
theorem dX9_person_17 : decode cX9_person 17 = .ok (.iload_n 2, 1) := by decide +kernel
theorem dX9_person_18 : decode cX9_person 18 = .ok (.tableswitch 84 0 5 #[38, 38, 38, 53, 66, 75], 38) := by decide +kernel
theorem dX9_person_56 : decode cX9_person 56 = .ok (.aload_n 0, 1) := by decide +kernel
theorem dX9_person_57 : decode cX9_person 57 = .ok (.getfield 19, 3) := by decide +kernel
theorem dX9_person_60 : decode cX9_person 60 = .ok (.getfield 101, 3) := by decide +kernel
theorem dX9_person_63 : decode cX9_person 63 = .ok (.iload_n 1, 1) := by decide +kernel
theorem dX9_person_64 : decode cX9_person 64 = .ok (.aaload, 1) := by decide +kernel
theorem dX9_person_65 : decode cX9_person 65 = .ok (.getfield 105, 3) := by decide +kernel
theorem dX9_person_68 : decode cX9_person 68 = .ok (.iload_n 2, 1) := by decide +kernel
theorem dX9_person_69 : decode cX9_person 69 = .ok (.iaload, 1) := by decide +kernel
theorem dX9_person_70 : decode cX9_person 70 = .ok (.ireturn, 1) := by decide +kernel
theorem dX9_person_71 : decode cX9_person 71 = .ok (.aload_n 0, 1) := by decide +kernel
theorem dX9_person_72 : decode cX9_person 72 = .ok (.getfield 19, 3) := by decide +kernel
theorem dX9_person_75 : decode cX9_person 75 = .ok (.getfield 101, 3) := by decide +kernel
theorem dX9_person_78 : decode cX9_person 78 = .ok (.iload_n 1, 1) := by decide +kernel
theorem dX9_person_79 : decode cX9_person 79 = .ok (.aaload, 1) := by decide +kernel
theorem dX9_person_80 : decode cX9_person 80 = .ok (.getfield 110, 3) := by decide +kernel
theorem dX9_person_83 : decode cX9_person 83 = .ok (.ireturn, 1) := by decide +kernel
theorem dX9_person_84 : decode cX9_person 84 = .ok (.aload_n 0, 1) := by decide +kernel
theorem dX9_person_85 : decode cX9_person 85 = .ok (.getfield 19, 3) := by decide +kernel
theorem dX9_person_88 : decode cX9_person 88 = .ok (.iload_n 1, 1) := by decide +kernel
theorem dX9_person_89 : decode cX9_person 89 = .ok (.invokevirtual 113, 3) := by decide +kernel
theorem dX9_person_92 : decode cX9_person 92 = .ok (.ireturn, 1) := by decide +kernel
theorem dX9_person_93 : decode cX9_person 93 = .ok (.aload_n 0, 1) := by decide +kernel
theorem dX9_person_94 : decode cX9_person 94 = .ok (.getfield 19, 3) := by decide +kernel
theorem dX9_person_97 : decode cX9_person 97 = .ok (.iload_n 1, 1) := by decide +kernel
theorem dX9_person_98 : decode cX9_person 98 = .ok (.invokevirtual 116, 3) := by decide +kernel
theorem dX9_person_101 : decode cX9_person 101 = .ok (.ireturn, 1) := by decide +kernel
theorem dX9_person_102 : decode cX9_person 102 = .ok (.aload_n 0, 1) := by decide +kernel
theorem dX9_person_103 : decode cX9_person 103 = .ok (.bipush (-2), 2) := by decide +kernel
theorem dX9_person_105 : decode cX9_person 105 = .ok (.invokevirtual 72, 3) := by decide +kernel
theorem dX9_person_108 : decode cX9_person 108 = .ok (.ireturn, 1) := by decide +kernel
theorem dX9_work_0 : decode cX9_work 0 = .ok (.aload_n 0, 1) := by decide +kernel
theorem dX9_work_1 : decode cX9_work 1 = .ok (.getfield 19, 3) := by decide +kernel
theorem dX9_work_4 : decode cX9_work 4 = .ok (.iload_n 1, 1) := by decide +kernel
theorem dX9_work_5 : decode cX9_work 5 = .ok (.invokevirtual 119, 3) := by decide +kernel
theorem dX9_work_8 : decode cX9_work 8 = .ok (.ifCond .ne 9, 3) := by decide +kernel
theorem dX9_work_11 : decode cX9_work 11 = .ok (.aload_n 0, 1) := by decide +kernel
theorem dX9_work_12 : decode cX9_work 12 = .ok (.iconst (-1), 1) := by decide +kernel
theorem dX9_work_13 : decode cX9_work 13 = .ok (.invokevirtual 72, 3) := by decide +kernel
theorem dX9_work_16 : decode cX9_work 16 = .ok (.ireturn, 1) := by decide +kernel
theorem dX9_work_17 : decode cX9_work 17 = .ok (.aload_n 0, 1) := by decide +kernel
theorem dX9_work_18 : decode cX9_work 18 = .ok (.getfield 19, 3) := by decide +kernel
theorem dX9_work_21 : decode cX9_work 21 = .ok (.getfield 122, 3) := by decide +kernel
theorem dX9_work_24 : decode cX9_work 24 = .ok (.iload_n 1, 1) := by decide +kernel
theorem dX9_work_25 : decode cX9_work 25 = .ok (.aaload, 1) := by decide +kernel
theorem dX9_work_26 : decode cX9_work 26 = .ok (.astore_n 3, 1) := by decide +kernel
theorem dX9_work_27 : decode cX9_work 27 = .ok (.iload_n 2, 1) := by decide +kernel
theorem dX9_work_28 : decode cX9_work 28 = .ok (.tableswitch 64 0 5 #[40, 45, 50, 50, 50, 59], 40) := by decide +kernel
theorem dX9_work_68 : decode cX9_work 68 = .ok (.aload_n 3, 1) := by decide +kernel
theorem dX9_work_69 : decode cX9_work 69 = .ok (.getfield 126, 3) := by decide +kernel
theorem dX9_work_72 : decode cX9_work 72 = .ok (.ireturn, 1) := by decide +kernel
theorem dX9_work_73 : decode cX9_work 73 = .ok (.aload_n 3, 1) := by decide +kernel
theorem dX9_work_74 : decode cX9_work 74 = .ok (.getfield 131, 3) := by decide +kernel
theorem dX9_work_77 : decode cX9_work 77 = .ok (.ireturn, 1) := by decide +kernel
theorem dX9_work_78 : decode cX9_work 78 = .ok (.aload_n 3, 1) := by decide +kernel
theorem dX9_work_79 : decode cX9_work 79 = .ok (.getfield 134, 3) := by decide +kernel
theorem dX9_work_82 : decode cX9_work 82 = .ok (.iload_n 2, 1) := by decide +kernel
theorem dX9_work_83 : decode cX9_work 83 = .ok (.iconst 2, 1) := by decide +kernel
theorem dX9_work_84 : decode cX9_work 84 = .ok (.isub, 1) := by decide +kernel
theorem dX9_work_85 : decode cX9_work 85 = .ok (.iaload, 1) := by decide +kernel
theorem dX9_work_86 : decode cX9_work 86 = .ok (.ireturn, 1) := by decide +kernel
theorem dX9_work_87 : decode cX9_work 87 = .ok (.aload_n 3, 1) := by decide +kernel
theorem dX9_work_88 : decode cX9_work 88 = .ok (.getfield 137, 3) := by decide +kernel
theorem dX9_work_91 : decode cX9_work 91 = .ok (.ireturn, 1) := by decide +kernel
theorem dX9_work_92 : decode cX9_work 92 = .ok (.aload_n 0, 1) := by decide +kernel
theorem dX9_work_93 : decode cX9_work 93 = .ok (.bipush (-2), 2) := by decide +kernel
theorem dX9_work_95 : decode cX9_work 95 = .ok (.invokevirtual 72, 3) := by decide +kernel
theorem dX9_work_98 : decode cX9_work 98 = .ok (.ireturn, 1) := by decide +kernel
theorem dX9_minutes_0 : decode cX9_minutes 0 = .ok (.aload_n 0, 1) := by decide +kernel
theorem dX9_minutes_1 : decode cX9_minutes 1 = .ok (.getfield 19, 3) := by decide +kernel
theorem dX9_minutes_4 : decode cX9_minutes 4 = .ok (.iload_n 1, 1) := by decide +kernel
theorem dX9_minutes_5 : decode cX9_minutes 5 = .ok (.invokevirtual 140, 3) := by decide +kernel
theorem dX9_minutes_8 : decode cX9_minutes 8 = .ok (.ifCond .eq 14, 3) := by decide +kernel
theorem dX9_minutes_11 : decode cX9_minutes 11 = .ok (.aload_n 0, 1) := by decide +kernel
theorem dX9_minutes_12 : decode cX9_minutes 12 = .ok (.getfield 19, 3) := by decide +kernel
theorem dX9_minutes_15 : decode cX9_minutes 15 = .ok (.iload_n 2, 1) := by decide +kernel
theorem dX9_minutes_16 : decode cX9_minutes 16 = .ok (.invokevirtual 140, 3) := by decide +kernel
theorem dX9_minutes_19 : decode cX9_minutes 19 = .ok (.ifCond .ne 9, 3) := by decide +kernel
theorem dX9_minutes_22 : decode cX9_minutes 22 = .ok (.aload_n 0, 1) := by decide +kernel
theorem dX9_minutes_23 : decode cX9_minutes 23 = .ok (.iconst (-1), 1) := by decide +kernel
theorem dX9_minutes_24 : decode cX9_minutes 24 = .ok (.invokevirtual 72, 3) := by decide +kernel
theorem dX9_minutes_27 : decode cX9_minutes 27 = .ok (.ireturn, 1) := by decide +kernel
theorem dX9_minutes_28 : decode cX9_minutes 28 = .ok (.aload_n 0, 1) := by decide +kernel
theorem dX9_minutes_29 : decode cX9_minutes 29 = .ok (.getfield 19, 3) := by decide +kernel
theorem dX9_minutes_32 : decode cX9_minutes 32 = .ok (.invokevirtual 143, 3) := by decide +kernel
theorem dX9_minutes_35 : decode cX9_minutes 35 = .ok (.aload_n 0, 1) := by decide +kernel
theorem dX9_minutes_36 : decode cX9_minutes 36 = .ok (.getfield 19, 3) := by decide +kernel
theorem dX9_minutes_39 : decode cX9_minutes 39 = .ok (.getfield 146, 3) := by decide +kernel
theorem dX9_minutes_42 : decode cX9_minutes 42 = .ok (.iload_n 1, 1) := by decide +kernel
theorem dX9_minutes_43 : decode cX9_minutes 43 = .ok (.aaload, 1) := by decide +kernel
theorem dX9_minutes_44 : decode cX9_minutes 44 = .ok (.iload_n 2, 1) := by decide +kernel
theorem dX9_minutes_45 : decode cX9_minutes 45 = .ok (.iaload, 1) := by decide +kernel
theorem dX9_minutes_46 : decode cX9_minutes 46 = .ok (.ireturn, 1) := by decide +kernel
theorem dX9_partOf_0 : decode cX9_partOf 0 = .ok (.aload_n 0, 1) := by decide +kernel
theorem dX9_partOf_1 : decode cX9_partOf 1 = .ok (.getfield 19, 3) := by decide +kernel
theorem dX9_partOf_4 : decode cX9_partOf 4 = .ok (.iload_n 1, 1) := by decide +kernel
theorem dX9_partOf_5 : decode cX9_partOf 5 = .ok (.invokevirtual 150, 3) := by decide +kernel
theorem dX9_partOf_8 : decode cX9_partOf 8 = .ok (.ifCond .ne 9, 3) := by decide +kernel
theorem dX9_partOf_11 : decode cX9_partOf 11 = .ok (.aload_n 0, 1) := by decide +kernel
theorem dX9_partOf_12 : decode cX9_partOf 12 = .ok (.iconst (-1), 1) := by decide +kernel
theorem dX9_partOf_13 : decode cX9_partOf 13 = .ok (.invokevirtual 72, 3) := by decide +kernel
theorem dX9_partOf_16 : decode cX9_partOf 16 = .ok (.ireturn, 1) := by decide +kernel
theorem dX9_partOf_17 : decode cX9_partOf 17 = .ok (.aload_n 0, 1) := by decide +kernel
theorem dX9_partOf_18 : decode cX9_partOf 18 = .ok (.getfield 19, 3) := by decide +kernel
theorem dX9_partOf_21 : decode cX9_partOf 21 = .ok (.getfield 153, 3) := by decide +kernel
theorem dX9_partOf_24 : decode cX9_partOf 24 = .ok (.iload_n 1, 1) := by decide +kernel
theorem dX9_partOf_25 : decode cX9_partOf 25 = .ok (.aaload, 1) := by decide +kernel
theorem dX9_partOf_26 : decode cX9_partOf 26 = .ok (.astore_n 3, 1) := by decide +kernel
theorem dX9_partOf_27 : decode cX9_partOf 27 = .ok (.iload_n 2, 1) := by decide +kernel
theorem dX9_partOf_28 : decode cX9_partOf 28 = .ok (.tableswitch 79 0 6 #[44, 49, 54, 59, 64, 69, 74], 44) := by decide +kernel
theorem dX9_partOf_72 : decode cX9_partOf 72 = .ok (.aload_n 3, 1) := by decide +kernel
theorem dX9_partOf_73 : decode cX9_partOf 73 = .ok (.getfield 157, 3) := by decide +kernel
theorem dX9_partOf_76 : decode cX9_partOf 76 = .ok (.ireturn, 1) := by decide +kernel
theorem dX9_partOf_77 : decode cX9_partOf 77 = .ok (.aload_n 3, 1) := by decide +kernel
theorem dX9_partOf_78 : decode cX9_partOf 78 = .ok (.getfield 162, 3) := by decide +kernel
theorem dX9_partOf_81 : decode cX9_partOf 81 = .ok (.ireturn, 1) := by decide +kernel
theorem dX9_partOf_82 : decode cX9_partOf 82 = .ok (.aload_n 3, 1) := by decide +kernel
theorem dX9_partOf_83 : decode cX9_partOf 83 = .ok (.getfield 165, 3) := by decide +kernel
theorem dX9_partOf_86 : decode cX9_partOf 86 = .ok (.ireturn, 1) := by decide +kernel
theorem dX9_partOf_87 : decode cX9_partOf 87 = .ok (.aload_n 3, 1) := by decide +kernel
theorem dX9_partOf_88 : decode cX9_partOf 88 = .ok (.getfield 166, 3) := by decide +kernel
theorem dX9_partOf_91 : decode cX9_partOf 91 = .ok (.ireturn, 1) := by decide +kernel
theorem dX9_partOf_92 : decode cX9_partOf 92 = .ok (.aload_n 3, 1) := by decide +kernel
theorem dX9_partOf_93 : decode cX9_partOf 93 = .ok (.getfield 169, 3) := by decide +kernel
theorem dX9_partOf_96 : decode cX9_partOf 96 = .ok (.ireturn, 1) := by decide +kernel
theorem dX9_partOf_97 : decode cX9_partOf 97 = .ok (.aload_n 3, 1) := by decide +kernel
theorem dX9_partOf_98 : decode cX9_partOf 98 = .ok (.getfield 172, 3) := by decide +kernel
theorem dX9_partOf_101 : decode cX9_partOf 101 = .ok (.ireturn, 1) := by decide +kernel
theorem dX9_partOf_102 : decode cX9_partOf 102 = .ok (.aload_n 3, 1) := by decide +kernel
theorem dX9_partOf_103 : decode cX9_partOf 103 = .ok (.getfield 175, 3) := by decide +kernel
theorem dX9_partOf_106 : decode cX9_partOf 106 = .ok (.ireturn, 1) := by decide +kernel
theorem dX9_partOf_107 : decode cX9_partOf 107 = .ok (.aload_n 0, 1) := by decide +kernel
theorem dX9_partOf_108 : decode cX9_partOf 108 = .ok (.bipush (-2), 2) := by decide +kernel
theorem dX9_partOf_110 : decode cX9_partOf 110 = .ok (.invokevirtual 72, 3) := by decide +kernel
theorem dX9_partOf_113 : decode cX9_partOf 113 = .ok (.ireturn, 1) := by decide +kernel
theorem dX9_split_0 : decode cX9_split 0 = .ok (.aload_n 0, 1) := by decide +kernel
theorem dX9_split_1 : decode cX9_split 1 = .ok (.getfield 19, 3) := by decide +kernel
theorem dX9_split_4 : decode cX9_split 4 = .ok (.iload_n 1, 1) := by decide +kernel
theorem dX9_split_5 : decode cX9_split 5 = .ok (.invokevirtual 150, 3) := by decide +kernel
theorem dX9_split_8 : decode cX9_split 8 = .ok (.ifCond .ne 9, 3) := by decide +kernel
theorem dX9_split_11 : decode cX9_split 11 = .ok (.aload_n 0, 1) := by decide +kernel
theorem dX9_split_12 : decode cX9_split 12 = .ok (.iconst (-1), 1) := by decide +kernel
theorem dX9_split_13 : decode cX9_split 13 = .ok (.invokevirtual 72, 3) := by decide +kernel
theorem dX9_split_16 : decode cX9_split 16 = .ok (.ireturn, 1) := by decide +kernel
theorem dX9_split_17 : decode cX9_split 17 = .ok (.aload_n 0, 1) := by decide +kernel
theorem dX9_split_18 : decode cX9_split 18 = .ok (.getfield 19, 3) := by decide +kernel
theorem dX9_split_21 : decode cX9_split 21 = .ok (.getfield 153, 3) := by decide +kernel
theorem dX9_split_24 : decode cX9_split 24 = .ok (.iload_n 1, 1) := by decide +kernel
theorem dX9_split_25 : decode cX9_split 25 = .ok (.aaload, 1) := by decide +kernel
theorem dX9_split_26 : decode cX9_split 26 = .ok (.astore_n 3, 1) := by decide +kernel
theorem dX9_split_27 : decode cX9_split 27 = .ok (.aload_n 0, 1) := by decide +kernel
theorem dX9_split_28 : decode cX9_split 28 = .ok (.getfield 19, 3) := by decide +kernel
theorem dX9_split_31 : decode cX9_split 31 = .ok (.getfield 101, 3) := by decide +kernel
theorem dX9_split_34 : decode cX9_split 34 = .ok (.aload_n 3, 1) := by decide +kernel
theorem dX9_split_35 : decode cX9_split 35 = .ok (.getfield 157, 3) := by decide +kernel
theorem dX9_split_38 : decode cX9_split 38 = .ok (.aaload, 1) := by decide +kernel
theorem dX9_split_39 : decode cX9_split 39 = .ok (.getfield 110, 3) := by decide +kernel
theorem dX9_split_42 : decode cX9_split 42 = .ok (.istore 4, 2) := by decide +kernel
theorem dX9_split_44 : decode cX9_split 44 = .ok (.iload_n 2, 1) := by decide +kernel
theorem dX9_split_45 : decode cX9_split 45 = .ok (.iload 4, 2) := by decide +kernel
theorem dX9_split_47 : decode cX9_split 47 = .ok (.if_icmp .lt 14, 3) := by decide +kernel
theorem dX9_split_50 : decode cX9_split 50 = .ok (.iload_n 2, 1) := by decide +kernel
theorem dX9_split_51 : decode cX9_split 51 = .ok (.aload_n 3, 1) := by decide +kernel
theorem dX9_split_52 : decode cX9_split 52 = .ok (.getfield 162, 3) := by decide +kernel
theorem dX9_split_55 : decode cX9_split 55 = .ok (.iload 4, 2) := by decide +kernel
theorem dX9_split_57 : decode cX9_split 57 = .ok (.isub, 1) := by decide +kernel
theorem dX9_split_58 : decode cX9_split 58 = .ok (.if_icmp .le 10, 3) := by decide +kernel
theorem dX9_split_61 : decode cX9_split 61 = .ok (.aload_n 0, 1) := by decide +kernel
theorem dX9_split_62 : decode cX9_split 62 = .ok (.bipush (-3), 2) := by decide +kernel
theorem dX9_split_64 : decode cX9_split 64 = .ok (.invokevirtual 72, 3) := by decide +kernel
theorem dX9_split_67 : decode cX9_split 67 = .ok (.ireturn, 1) := by decide +kernel
theorem dX9_split_68 : decode cX9_split 68 = .ok (.aload_n 0, 1) := by decide +kernel
theorem dX9_split_69 : decode cX9_split 69 = .ok (.getfield 19, 3) := by decide +kernel
theorem dX9_split_72 : decode cX9_split 72 = .ok (.invokevirtual 178, 3) := by decide +kernel
theorem dX9_split_75 : decode cX9_split 75 = .ok (.istore 5, 2) := by decide +kernel
theorem dX9_split_77 : decode cX9_split 77 = .ok (.iload 5, 2) := by decide +kernel
theorem dX9_split_79 : decode cX9_split 79 = .ok (.ifCond .ge 10, 3) := by decide +kernel
theorem dX9_split_82 : decode cX9_split 82 = .ok (.aload_n 0, 1) := by decide +kernel
theorem dX9_split_83 : decode cX9_split 83 = .ok (.bipush (-6), 2) := by decide +kernel
theorem dX9_split_85 : decode cX9_split 85 = .ok (.invokevirtual 72, 3) := by decide +kernel
theorem dX9_split_88 : decode cX9_split 88 = .ok (.ireturn, 1) := by decide +kernel
theorem dX9_split_89 : decode cX9_split 89 = .ok (.aload_n 0, 1) := by decide +kernel
theorem dX9_split_90 : decode cX9_split 90 = .ok (.getfield 19, 3) := by decide +kernel
theorem dX9_split_93 : decode cX9_split 93 = .ok (.getfield 153, 3) := by decide +kernel
theorem dX9_split_96 : decode cX9_split 96 = .ok (.iload 5, 2) := by decide +kernel
theorem dX9_split_98 : decode cX9_split 98 = .ok (.aaload, 1) := by decide +kernel
theorem dX9_split_99 : decode cX9_split 99 = .ok (.astore 6, 2) := by decide +kernel
theorem dX9_split_101 : decode cX9_split 101 = .ok (.aload 6, 2) := by decide +kernel
theorem dX9_split_103 : decode cX9_split 103 = .ok (.aload_n 3, 1) := by decide +kernel
theorem dX9_split_104 : decode cX9_split 104 = .ok (.invokevirtual 182, 3) := by decide +kernel
theorem dX9_split_107 : decode cX9_split 107 = .ok (.aload 6, 2) := by decide +kernel
theorem dX9_split_109 : decode cX9_split 109 = .ok (.iload_n 2, 1) := by decide +kernel
theorem dX9_split_110 : decode cX9_split 110 = .ok (.putfield 162, 3) := by decide +kernel
theorem dX9_split_113 : decode cX9_split 113 = .ok (.aload 6, 2) := by decide +kernel
theorem dX9_split_115 : decode cX9_split 115 = .ok (.bipush (-9), 2) := by decide +kernel
theorem dX9_split_117 : decode cX9_split 117 = .ok (.putfield 166, 3) := by decide +kernel
theorem dX9_split_120 : decode cX9_split 120 = .ok (.aload_n 3, 1) := by decide +kernel
theorem dX9_split_121 : decode cX9_split 121 = .ok (.dup, 1) := by decide +kernel
theorem dX9_split_122 : decode cX9_split 122 = .ok (.getfield 162, 3) := by decide +kernel
theorem dX9_split_125 : decode cX9_split 125 = .ok (.iload_n 2, 1) := by decide +kernel
theorem dX9_split_126 : decode cX9_split 126 = .ok (.isub, 1) := by decide +kernel
theorem dX9_split_127 : decode cX9_split 127 = .ok (.putfield 162, 3) := by decide +kernel
theorem dX9_split_130 : decode cX9_split 130 = .ok (.iload 5, 2) := by decide +kernel
theorem dX9_split_132 : decode cX9_split 132 = .ok (.ireturn, 1) := by decide +kernel
theorem dX9_go_0 : decode cX9_go 0 = .ok (.aload_n 0, 1) := by decide +kernel
theorem dX9_go_1 : decode cX9_go 1 = .ok (.getfield 19, 3) := by decide +kernel
theorem dX9_go_4 : decode cX9_go 4 = .ok (.iload_n 1, 1) := by decide +kernel
theorem dX9_go_5 : decode cX9_go 5 = .ok (.invokevirtual 150, 3) := by decide +kernel
theorem dX9_go_8 : decode cX9_go 8 = .ok (.ifCond .eq 14, 3) := by decide +kernel
theorem dX9_go_11 : decode cX9_go 11 = .ok (.aload_n 0, 1) := by decide +kernel
theorem dX9_go_12 : decode cX9_go 12 = .ok (.getfield 19, 3) := by decide +kernel
theorem dX9_go_15 : decode cX9_go 15 = .ok (.iload_n 2, 1) := by decide +kernel
theorem dX9_go_16 : decode cX9_go 16 = .ok (.invokevirtual 140, 3) := by decide +kernel
theorem dX9_go_19 : decode cX9_go 19 = .ok (.ifCond .ne 9, 3) := by decide +kernel
theorem dX9_go_22 : decode cX9_go 22 = .ok (.aload_n 0, 1) := by decide +kernel
theorem dX9_go_23 : decode cX9_go 23 = .ok (.iconst (-1), 1) := by decide +kernel
theorem dX9_go_24 : decode cX9_go 24 = .ok (.invokevirtual 72, 3) := by decide +kernel
theorem dX9_go_27 : decode cX9_go 27 = .ok (.ireturn, 1) := by decide +kernel
theorem dX9_go_28 : decode cX9_go 28 = .ok (.aload_n 0, 1) := by decide +kernel
theorem dX9_go_29 : decode cX9_go 29 = .ok (.getfield 19, 3) := by decide +kernel
theorem dX9_go_32 : decode cX9_go 32 = .ok (.getfield 153, 3) := by decide +kernel
theorem dX9_go_35 : decode cX9_go 35 = .ok (.iload_n 1, 1) := by decide +kernel
theorem dX9_go_36 : decode cX9_go 36 = .ok (.aaload, 1) := by decide +kernel
theorem dX9_go_37 : decode cX9_go 37 = .ok (.astore_n 3, 1) := by decide +kernel
theorem dX9_go_38 : decode cX9_go 38 = .ok (.aload_n 0, 1) := by decide +kernel
theorem dX9_go_39 : decode cX9_go 39 = .ok (.getfield 19, 3) := by decide +kernel
theorem dX9_go_42 : decode cX9_go 42 = .ok (.invokevirtual 143, 3) := by decide +kernel
theorem dX9_go_45 : decode cX9_go 45 = .ok (.aload_n 0, 1) := by decide +kernel
theorem dX9_go_46 : decode cX9_go 46 = .ok (.getfield 19, 3) := by decide +kernel
theorem dX9_go_49 : decode cX9_go 49 = .ok (.getfield 146, 3) := by decide +kernel
theorem dX9_go_52 : decode cX9_go 52 = .ok (.aload_n 3, 1) := by decide +kernel
theorem dX9_go_53 : decode cX9_go 53 = .ok (.getfield 165, 3) := by decide +kernel
theorem dX9_go_56 : decode cX9_go 56 = .ok (.aaload, 1) := by decide +kernel
theorem dX9_go_57 : decode cX9_go 57 = .ok (.iload_n 2, 1) := by decide +kernel
theorem dX9_go_58 : decode cX9_go 58 = .ok (.iaload, 1) := by decide +kernel
theorem dX9_go_59 : decode cX9_go 59 = .ok (.istore 4, 2) := by decide +kernel
theorem dX9_go_61 : decode cX9_go 61 = .ok (.iload 4, 2) := by decide +kernel
theorem dX9_go_63 : decode cX9_go 63 = .ok (.ifCond .ge 10, 3) := by decide +kernel
theorem dX9_go_66 : decode cX9_go 66 = .ok (.aload_n 0, 1) := by decide +kernel
theorem dX9_go_67 : decode cX9_go 67 = .ok (.bipush (-3), 2) := by decide +kernel
theorem dX9_go_69 : decode cX9_go 69 = .ok (.invokevirtual 72, 3) := by decide +kernel
theorem dX9_go_72 : decode cX9_go 72 = .ok (.ireturn, 1) := by decide +kernel
theorem dX9_go_73 : decode cX9_go 73 = .ok (.aload_n 3, 1) := by decide +kernel
theorem dX9_go_74 : decode cX9_go 74 = .ok (.iload_n 2, 1) := by decide +kernel
theorem dX9_go_75 : decode cX9_go 75 = .ok (.putfield 165, 3) := by decide +kernel
theorem dX9_go_78 : decode cX9_go 78 = .ok (.aload_n 3, 1) := by decide +kernel
theorem dX9_go_79 : decode cX9_go 79 = .ok (.dup, 1) := by decide +kernel
theorem dX9_go_80 : decode cX9_go 80 = .ok (.getfield 169, 3) := by decide +kernel
theorem dX9_go_83 : decode cX9_go 83 = .ok (.iload 4, 2) := by decide +kernel
theorem dX9_go_85 : decode cX9_go 85 = .ok (.iadd, 1) := by decide +kernel
theorem dX9_go_86 : decode cX9_go 86 = .ok (.putfield 169, 3) := by decide +kernel
theorem dX9_go_89 : decode cX9_go 89 = .ok (.aload_n 3, 1) := by decide +kernel
theorem dX9_go_90 : decode cX9_go 90 = .ok (.bipush (-9), 2) := by decide +kernel
theorem dX9_go_92 : decode cX9_go 92 = .ok (.putfield 166, 3) := by decide +kernel
theorem dX9_go_95 : decode cX9_go 95 = .ok (.aload_n 3, 1) := by decide +kernel
theorem dX9_go_96 : decode cX9_go 96 = .ok (.getfield 169, 3) := by decide +kernel
theorem dX9_go_99 : decode cX9_go 99 = .ok (.ireturn, 1) := by decide +kernel
theorem dX9_see_0 : decode cX9_see 0 = .ok (.aload_n 0, 1) := by decide +kernel
theorem dX9_see_1 : decode cX9_see 1 = .ok (.getfield 19, 3) := by decide +kernel
theorem dX9_see_4 : decode cX9_see 4 = .ok (.iload_n 1, 1) := by decide +kernel
theorem dX9_see_5 : decode cX9_see 5 = .ok (.invokevirtual 150, 3) := by decide +kernel
theorem dX9_see_8 : decode cX9_see 8 = .ok (.ifCond .ne 9, 3) := by decide +kernel
theorem dX9_see_11 : decode cX9_see 11 = .ok (.aload_n 0, 1) := by decide +kernel
theorem dX9_see_12 : decode cX9_see 12 = .ok (.iconst (-1), 1) := by decide +kernel
theorem dX9_see_13 : decode cX9_see 13 = .ok (.invokevirtual 72, 3) := by decide +kernel
theorem dX9_see_16 : decode cX9_see 16 = .ok (.ireturn, 1) := by decide +kernel
theorem dX9_see_17 : decode cX9_see 17 = .ok (.aload_n 0, 1) := by decide +kernel
theorem dX9_see_18 : decode cX9_see 18 = .ok (.getfield 19, 3) := by decide +kernel
theorem dX9_see_21 : decode cX9_see 21 = .ok (.getfield 153, 3) := by decide +kernel
theorem dX9_see_24 : decode cX9_see 24 = .ok (.iload_n 1, 1) := by decide +kernel
theorem dX9_see_25 : decode cX9_see 25 = .ok (.aaload, 1) := by decide +kernel
theorem dX9_see_26 : decode cX9_see 26 = .ok (.astore_n 2, 1) := by decide +kernel
theorem dX9_see_27 : decode cX9_see 27 = .ok (.aload_n 2, 1) := by decide +kernel
theorem dX9_see_28 : decode cX9_see 28 = .ok (.dup, 1) := by decide +kernel
theorem dX9_see_29 : decode cX9_see 29 = .ok (.getfield 175, 3) := by decide +kernel
theorem dX9_see_32 : decode cX9_see 32 = .ok (.iconst 1, 1) := by decide +kernel
theorem dX9_see_33 : decode cX9_see 33 = .ok (.aload_n 2, 1) := by decide +kernel
theorem dX9_see_34 : decode cX9_see 34 = .ok (.getfield 165, 3) := by decide +kernel
theorem dX9_see_37 : decode cX9_see 37 = .ok (.ishl, 1) := by decide +kernel
theorem dX9_see_38 : decode cX9_see 38 = .ok (.ior, 1) := by decide +kernel
theorem dX9_see_39 : decode cX9_see 39 = .ok (.putfield 175, 3) := by decide +kernel
theorem dX9_see_42 : decode cX9_see 42 = .ok (.aload_n 2, 1) := by decide +kernel
theorem dX9_see_43 : decode cX9_see 43 = .ok (.getfield 175, 3) := by decide +kernel
theorem dX9_see_46 : decode cX9_see 46 = .ok (.invokestatic 185, 3) := by decide +kernel
theorem dX9_see_49 : decode cX9_see 49 = .ok (.ireturn, 1) := by decide +kernel
theorem dX9_join_0 : decode cX9_join 0 = .ok (.aload_n 0, 1) := by decide +kernel
theorem dX9_join_1 : decode cX9_join 1 = .ok (.getfield 19, 3) := by decide +kernel
theorem dX9_join_4 : decode cX9_join 4 = .ok (.iload_n 1, 1) := by decide +kernel
theorem dX9_join_5 : decode cX9_join 5 = .ok (.invokevirtual 150, 3) := by decide +kernel
theorem dX9_join_8 : decode cX9_join 8 = .ok (.ifCond .eq 19, 3) := by decide +kernel
theorem dX9_join_11 : decode cX9_join 11 = .ok (.aload_n 0, 1) := by decide +kernel
theorem dX9_join_12 : decode cX9_join 12 = .ok (.getfield 19, 3) := by decide +kernel
theorem dX9_join_15 : decode cX9_join 15 = .ok (.iload_n 2, 1) := by decide +kernel
theorem dX9_join_16 : decode cX9_join 16 = .ok (.invokevirtual 150, 3) := by decide +kernel
theorem dX9_join_19 : decode cX9_join 19 = .ok (.ifCond .eq 8, 3) := by decide +kernel
theorem dX9_join_22 : decode cX9_join 22 = .ok (.iload_n 1, 1) := by decide +kernel
theorem dX9_join_23 : decode cX9_join 23 = .ok (.iload_n 2, 1) := by decide +kernel
theorem dX9_join_24 : decode cX9_join 24 = .ok (.if_icmp .ne 9, 3) := by decide +kernel
theorem dX9_join_27 : decode cX9_join 27 = .ok (.aload_n 0, 1) := by decide +kernel
theorem dX9_join_28 : decode cX9_join 28 = .ok (.iconst (-1), 1) := by decide +kernel
theorem dX9_join_29 : decode cX9_join 29 = .ok (.invokevirtual 72, 3) := by decide +kernel
theorem dX9_join_32 : decode cX9_join 32 = .ok (.ireturn, 1) := by decide +kernel
theorem dX9_join_33 : decode cX9_join 33 = .ok (.aload_n 0, 1) := by decide +kernel
theorem dX9_join_34 : decode cX9_join 34 = .ok (.getfield 19, 3) := by decide +kernel
theorem dX9_join_37 : decode cX9_join 37 = .ok (.getfield 153, 3) := by decide +kernel
theorem dX9_join_40 : decode cX9_join 40 = .ok (.iload_n 1, 1) := by decide +kernel
theorem dX9_join_41 : decode cX9_join 41 = .ok (.aaload, 1) := by decide +kernel
theorem dX9_join_42 : decode cX9_join 42 = .ok (.astore_n 3, 1) := by decide +kernel
theorem dX9_join_43 : decode cX9_join 43 = .ok (.aload_n 0, 1) := by decide +kernel
theorem dX9_join_44 : decode cX9_join 44 = .ok (.getfield 19, 3) := by decide +kernel
theorem dX9_join_47 : decode cX9_join 47 = .ok (.getfield 153, 3) := by decide +kernel
theorem dX9_join_50 : decode cX9_join 50 = .ok (.iload_n 2, 1) := by decide +kernel
theorem dX9_join_51 : decode cX9_join 51 = .ok (.aaload, 1) := by decide +kernel
theorem dX9_join_52 : decode cX9_join 52 = .ok (.astore 4, 2) := by decide +kernel
theorem dX9_join_54 : decode cX9_join 54 = .ok (.aload_n 3, 1) := by decide +kernel
theorem dX9_join_55 : decode cX9_join 55 = .ok (.getfield 157, 3) := by decide +kernel
theorem dX9_join_58 : decode cX9_join 58 = .ok (.aload 4, 2) := by decide +kernel
theorem dX9_join_60 : decode cX9_join 60 = .ok (.getfield 157, 3) := by decide +kernel
theorem dX9_join_63 : decode cX9_join 63 = .ok (.if_icmp .ne 15, 3) := by decide +kernel
theorem dX9_join_66 : decode cX9_join 66 = .ok (.aload_n 3, 1) := by decide +kernel
theorem dX9_join_67 : decode cX9_join 67 = .ok (.getfield 165, 3) := by decide +kernel
theorem dX9_join_70 : decode cX9_join 70 = .ok (.aload 4, 2) := by decide +kernel
theorem dX9_join_72 : decode cX9_join 72 = .ok (.getfield 165, 3) := by decide +kernel
theorem dX9_join_75 : decode cX9_join 75 = .ok (.if_icmp .eq 10, 3) := by decide +kernel
theorem dX9_join_78 : decode cX9_join 78 = .ok (.aload_n 0, 1) := by decide +kernel
theorem dX9_join_79 : decode cX9_join 79 = .ok (.bipush (-3), 2) := by decide +kernel
theorem dX9_join_81 : decode cX9_join 81 = .ok (.invokevirtual 72, 3) := by decide +kernel
theorem dX9_join_84 : decode cX9_join 84 = .ok (.ireturn, 1) := by decide +kernel
theorem dX9_join_85 : decode cX9_join 85 = .ok (.aload_n 3, 1) := by decide +kernel
theorem dX9_join_86 : decode cX9_join 86 = .ok (.dup, 1) := by decide +kernel
theorem dX9_join_87 : decode cX9_join 87 = .ok (.getfield 162, 3) := by decide +kernel
theorem dX9_join_90 : decode cX9_join 90 = .ok (.aload 4, 2) := by decide +kernel
theorem dX9_join_92 : decode cX9_join 92 = .ok (.getfield 162, 3) := by decide +kernel
theorem dX9_join_95 : decode cX9_join 95 = .ok (.iadd, 1) := by decide +kernel
theorem dX9_join_96 : decode cX9_join 96 = .ok (.putfield 162, 3) := by decide +kernel
theorem dX9_join_99 : decode cX9_join 99 = .ok (.aload_n 3, 1) := by decide +kernel
theorem dX9_join_100 : decode cX9_join 100 = .ok (.aload_n 3, 1) := by decide +kernel
theorem dX9_join_101 : decode cX9_join 101 = .ok (.getfield 169, 3) := by decide +kernel
theorem dX9_join_104 : decode cX9_join 104 = .ok (.aload 4, 2) := by decide +kernel
theorem dX9_join_106 : decode cX9_join 106 = .ok (.getfield 169, 3) := by decide +kernel
theorem dX9_join_109 : decode cX9_join 109 = .ok (.invokestatic 190, 3) := by decide +kernel
theorem dX9_join_112 : decode cX9_join 112 = .ok (.iconst 1, 1) := by decide +kernel
theorem dX9_join_113 : decode cX9_join 113 = .ok (.iadd, 1) := by decide +kernel
theorem dX9_join_114 : decode cX9_join 114 = .ok (.putfield 169, 3) := by decide +kernel
theorem dX9_join_117 : decode cX9_join 117 = .ok (.aload_n 3, 1) := by decide +kernel
theorem dX9_join_118 : decode cX9_join 118 = .ok (.aload_n 3, 1) := by decide +kernel
theorem dX9_join_119 : decode cX9_join 119 = .ok (.getfield 172, 3) := by decide +kernel
theorem dX9_join_122 : decode cX9_join 122 = .ok (.aload 4, 2) := by decide +kernel
theorem dX9_join_124 : decode cX9_join 124 = .ok (.getfield 172, 3) := by decide +kernel
theorem dX9_join_127 : decode cX9_join 127 = .ok (.invokestatic 190, 3) := by decide +kernel
theorem dX9_join_130 : decode cX9_join 130 = .ok (.putfield 172, 3) := by decide +kernel
theorem dX9_join_133 : decode cX9_join 133 = .ok (.aload_n 3, 1) := by decide +kernel
theorem dX9_join_134 : decode cX9_join 134 = .ok (.dup, 1) := by decide +kernel
theorem dX9_join_135 : decode cX9_join 135 = .ok (.getfield 175, 3) := by decide +kernel
theorem dX9_join_138 : decode cX9_join 138 = .ok (.aload 4, 2) := by decide +kernel
theorem dX9_join_140 : decode cX9_join 140 = .ok (.getfield 175, 3) := by decide +kernel
theorem dX9_join_143 : decode cX9_join 143 = .ok (.ior, 1) := by decide +kernel
theorem dX9_join_144 : decode cX9_join 144 = .ok (.putfield 175, 3) := by decide +kernel
theorem dX9_join_147 : decode cX9_join 147 = .ok (.aload_n 3, 1) := by decide +kernel
theorem dX9_join_148 : decode cX9_join 148 = .ok (.bipush (-9), 2) := by decide +kernel
theorem dX9_join_150 : decode cX9_join 150 = .ok (.putfield 166, 3) := by decide +kernel
theorem dX9_join_153 : decode cX9_join 153 = .ok (.aload 4, 2) := by decide +kernel
theorem dX9_join_155 : decode cX9_join 155 = .ok (.invokevirtual 196, 3) := by decide +kernel
theorem dX9_join_158 : decode cX9_join 158 = .ok (.aload_n 3, 1) := by decide +kernel
theorem dX9_join_159 : decode cX9_join 159 = .ok (.getfield 162, 3) := by decide +kernel
theorem dX9_join_162 : decode cX9_join 162 = .ok (.ireturn, 1) := by decide +kernel
theorem dX9_at_0 : decode cX9_at 0 = .ok (.aload_n 0, 1) := by decide +kernel
theorem dX9_at_1 : decode cX9_at 1 = .ok (.getfield 19, 3) := by decide +kernel
theorem dX9_at_4 : decode cX9_at 4 = .ok (.iload_n 1, 1) := by decide +kernel
theorem dX9_at_5 : decode cX9_at 5 = .ok (.invokevirtual 150, 3) := by decide +kernel
theorem dX9_at_8 : decode cX9_at 8 = .ok (.ifCond .eq 19, 3) := by decide +kernel
theorem dX9_at_11 : decode cX9_at 11 = .ok (.iload_n 2, 1) := by decide +kernel
theorem dX9_at_12 : decode cX9_at 12 = .ok (.iconst (-1), 1) := by decide +kernel
theorem dX9_at_13 : decode cX9_at 13 = .ok (.if_icmp .eq 20, 3) := by decide +kernel
theorem dX9_at_16 : decode cX9_at 16 = .ok (.aload_n 0, 1) := by decide +kernel
theorem dX9_at_17 : decode cX9_at 17 = .ok (.getfield 19, 3) := by decide +kernel
theorem dX9_at_20 : decode cX9_at 20 = .ok (.iload_n 2, 1) := by decide +kernel
theorem dX9_at_21 : decode cX9_at 21 = .ok (.invokevirtual 119, 3) := by decide +kernel
theorem dX9_at_24 : decode cX9_at 24 = .ok (.ifCond .ne 9, 3) := by decide +kernel
theorem dX9_at_27 : decode cX9_at 27 = .ok (.aload_n 0, 1) := by decide +kernel
theorem dX9_at_28 : decode cX9_at 28 = .ok (.iconst (-1), 1) := by decide +kernel
theorem dX9_at_29 : decode cX9_at 29 = .ok (.invokevirtual 72, 3) := by decide +kernel
theorem dX9_at_32 : decode cX9_at 32 = .ok (.ireturn, 1) := by decide +kernel
theorem dX9_at_33 : decode cX9_at 33 = .ok (.aload_n 0, 1) := by decide +kernel
theorem dX9_at_34 : decode cX9_at 34 = .ok (.getfield 19, 3) := by decide +kernel
theorem dX9_at_37 : decode cX9_at 37 = .ok (.getfield 153, 3) := by decide +kernel
theorem dX9_at_40 : decode cX9_at 40 = .ok (.iload_n 1, 1) := by decide +kernel
theorem dX9_at_41 : decode cX9_at 41 = .ok (.aaload, 1) := by decide +kernel
theorem dX9_at_42 : decode cX9_at 42 = .ok (.astore_n 3, 1) := by decide +kernel
theorem dX9_at_43 : decode cX9_at 43 = .ok (.iload_n 2, 1) := by decide +kernel
theorem dX9_at_44 : decode cX9_at 44 = .ok (.iconst (-1), 1) := by decide +kernel
theorem dX9_at_45 : decode cX9_at 45 = .ok (.if_icmp .eq 29, 3) := by decide +kernel
theorem dX9_at_48 : decode cX9_at 48 = .ok (.aload_n 0, 1) := by decide +kernel
theorem dX9_at_49 : decode cX9_at 49 = .ok (.getfield 19, 3) := by decide +kernel
theorem dX9_at_52 : decode cX9_at 52 = .ok (.getfield 122, 3) := by decide +kernel
theorem dX9_at_55 : decode cX9_at 55 = .ok (.iload_n 2, 1) := by decide +kernel
theorem dX9_at_56 : decode cX9_at 56 = .ok (.aaload, 1) := by decide +kernel
theorem dX9_at_57 : decode cX9_at 57 = .ok (.getfield 131, 3) := by decide +kernel
theorem dX9_at_60 : decode cX9_at 60 = .ok (.aload_n 3, 1) := by decide +kernel
theorem dX9_at_61 : decode cX9_at 61 = .ok (.getfield 165, 3) := by decide +kernel
theorem dX9_at_64 : decode cX9_at 64 = .ok (.if_icmp .eq 10, 3) := by decide +kernel
theorem dX9_at_67 : decode cX9_at 67 = .ok (.aload_n 0, 1) := by decide +kernel
theorem dX9_at_68 : decode cX9_at 68 = .ok (.bipush (-3), 2) := by decide +kernel
theorem dX9_at_70 : decode cX9_at 70 = .ok (.invokevirtual 72, 3) := by decide +kernel
theorem dX9_at_73 : decode cX9_at 73 = .ok (.ireturn, 1) := by decide +kernel
theorem dX9_at_74 : decode cX9_at 74 = .ok (.aload_n 3, 1) := by decide +kernel
theorem dX9_at_75 : decode cX9_at 75 = .ok (.getfield 166, 3) := by decide +kernel
theorem dX9_at_78 : decode cX9_at 78 = .ok (.istore 4, 2) := by decide +kernel
theorem dX9_at_80 : decode cX9_at 80 = .ok (.aload_n 3, 1) := by decide +kernel
theorem dX9_at_81 : decode cX9_at 81 = .ok (.iload_n 2, 1) := by decide +kernel
theorem dX9_at_82 : decode cX9_at 82 = .ok (.iconst (-1), 1) := by decide +kernel
theorem dX9_at_83 : decode cX9_at 83 = .ok (.if_icmp .ne 8, 3) := by decide +kernel
theorem dX9_at_86 : decode cX9_at 86 = .ok (.bipush (-9), 2) := by decide +kernel
theorem dX9_at_88 : decode cX9_at 88 = .ok (.goto 4, 3) := by decide +kernel
theorem dX9_at_91 : decode cX9_at 91 = .ok (.iload_n 2, 1) := by decide +kernel
theorem dX9_at_92 : decode cX9_at 92 = .ok (.putfield 166, 3) := by decide +kernel
theorem dX9_at_95 : decode cX9_at 95 = .ok (.iload 4, 2) := by decide +kernel
theorem dX9_at_97 : decode cX9_at 97 = .ok (.ireturn, 1) := by decide +kernel
theorem dX9_toil_0 : decode cX9_toil 0 = .ok (.aload_n 0, 1) := by decide +kernel
theorem dX9_toil_1 : decode cX9_toil 1 = .ok (.iload_n 1, 1) := by decide +kernel
theorem dX9_toil_2 : decode cX9_toil 2 = .ok (.iload_n 2, 1) := by decide +kernel
theorem dX9_toil_3 : decode cX9_toil 3 = .ok (.invokevirtual 197, 3) := by decide +kernel
theorem dX9_toil_6 : decode cX9_toil 6 = .ok (.istore_n 3, 1) := by decide +kernel
theorem dX9_toil_7 : decode cX9_toil 7 = .ok (.iload_n 3, 1) := by decide +kernel
theorem dX9_toil_8 : decode cX9_toil 8 = .ok (.ifCond .eq 9, 3) := by decide +kernel
theorem dX9_toil_11 : decode cX9_toil 11 = .ok (.aload_n 0, 1) := by decide +kernel
theorem dX9_toil_12 : decode cX9_toil 12 = .ok (.iload_n 3, 1) := by decide +kernel
theorem dX9_toil_13 : decode cX9_toil 13 = .ok (.invokevirtual 72, 3) := by decide +kernel
theorem dX9_toil_16 : decode cX9_toil 16 = .ok (.ireturn, 1) := by decide +kernel
theorem dX9_toil_17 : decode cX9_toil 17 = .ok (.aload_n 0, 1) := by decide +kernel
theorem dX9_toil_18 : decode cX9_toil 18 = .ok (.getfield 19, 3) := by decide +kernel
theorem dX9_toil_21 : decode cX9_toil 21 = .ok (.getfield 153, 3) := by decide +kernel
theorem dX9_toil_24 : decode cX9_toil 24 = .ok (.iload_n 1, 1) := by decide +kernel
theorem dX9_toil_25 : decode cX9_toil 25 = .ok (.aaload, 1) := by decide +kernel
theorem dX9_toil_26 : decode cX9_toil 26 = .ok (.astore 4, 2) := by decide +kernel
theorem dX9_toil_28 : decode cX9_toil 28 = .ok (.aload 4, 2) := by decide +kernel
theorem dX9_toil_30 : decode cX9_toil 30 = .ok (.getfield 166, 3) := by decide +kernel
theorem dX9_toil_33 : decode cX9_toil 33 = .ok (.bipush (-9), 2) := by decide +kernel
theorem dX9_toil_35 : decode cX9_toil 35 = .ok (.if_icmp .ne 10, 3) := by decide +kernel
theorem dX9_toil_38 : decode cX9_toil 38 = .ok (.aload_n 0, 1) := by decide +kernel
theorem dX9_toil_39 : decode cX9_toil 39 = .ok (.bipush (-3), 2) := by decide +kernel
theorem dX9_toil_41 : decode cX9_toil 41 = .ok (.invokevirtual 72, 3) := by decide +kernel
theorem dX9_toil_44 : decode cX9_toil 44 = .ok (.ireturn, 1) := by decide +kernel
theorem dX9_toil_45 : decode cX9_toil 45 = .ok (.aload 4, 2) := by decide +kernel
theorem dX9_toil_47 : decode cX9_toil 47 = .ok (.dup, 1) := by decide +kernel
theorem dX9_toil_48 : decode cX9_toil 48 = .ok (.getfield 169, 3) := by decide +kernel
theorem dX9_toil_51 : decode cX9_toil 51 = .ok (.iload_n 2, 1) := by decide +kernel
theorem dX9_toil_52 : decode cX9_toil 52 = .ok (.iadd, 1) := by decide +kernel
theorem dX9_toil_53 : decode cX9_toil 53 = .ok (.putfield 169, 3) := by decide +kernel
theorem dX9_toil_56 : decode cX9_toil 56 = .ok (.aload 4, 2) := by decide +kernel
theorem dX9_toil_58 : decode cX9_toil 58 = .ok (.dup, 1) := by decide +kernel
theorem dX9_toil_59 : decode cX9_toil 59 = .ok (.getfield 172, 3) := by decide +kernel
theorem dX9_toil_62 : decode cX9_toil 62 = .ok (.aload 4, 2) := by decide +kernel
theorem dX9_toil_64 : decode cX9_toil 64 = .ok (.getfield 162, 3) := by decide +kernel
theorem dX9_toil_67 : decode cX9_toil 67 = .ok (.iconst 1, 1) := by decide +kernel
theorem dX9_toil_68 : decode cX9_toil 68 = .ok (.if_icmp .ge 7, 3) := by decide +kernel
theorem dX9_toil_71 : decode cX9_toil 71 = .ok (.iconst 0, 1) := by decide +kernel
theorem dX9_toil_72 : decode cX9_toil 72 = .ok (.goto 13, 3) := by decide +kernel
theorem dX9_toil_75 : decode cX9_toil 75 = .ok (.iload_n 2, 1) := by decide +kernel
theorem dX9_toil_76 : decode cX9_toil 76 = .ok (.bipush 12, 2) := by decide +kernel
theorem dX9_toil_78 : decode cX9_toil 78 = .ok (.imul, 1) := by decide +kernel
theorem dX9_toil_79 : decode cX9_toil 79 = .ok (.aload 4, 2) := by decide +kernel
theorem dX9_toil_81 : decode cX9_toil 81 = .ok (.getfield 162, 3) := by decide +kernel
theorem dX9_toil_84 : decode cX9_toil 84 = .ok (.idiv, 1) := by decide +kernel
theorem dX9_toil_85 : decode cX9_toil 85 = .ok (.iadd, 1) := by decide +kernel
theorem dX9_toil_86 : decode cX9_toil 86 = .ok (.putfield 172, 3) := by decide +kernel
theorem dX9_toil_89 : decode cX9_toil 89 = .ok (.aload 4, 2) := by decide +kernel
theorem dX9_toil_91 : decode cX9_toil 91 = .ok (.getfield 172, 3) := by decide +kernel
theorem dX9_toil_94 : decode cX9_toil 94 = .ok (.ireturn, 1) := by decide +kernel
theorem dX9_rest_0 : decode cX9_rest 0 = .ok (.aload_n 0, 1) := by decide +kernel
theorem dX9_rest_1 : decode cX9_rest 1 = .ok (.iload_n 1, 1) := by decide +kernel
theorem dX9_rest_2 : decode cX9_rest 2 = .ok (.iload_n 2, 1) := by decide +kernel
theorem dX9_rest_3 : decode cX9_rest 3 = .ok (.invokevirtual 197, 3) := by decide +kernel
theorem dX9_rest_6 : decode cX9_rest 6 = .ok (.istore_n 3, 1) := by decide +kernel
theorem dX9_rest_7 : decode cX9_rest 7 = .ok (.iload_n 3, 1) := by decide +kernel
theorem dX9_rest_8 : decode cX9_rest 8 = .ok (.ifCond .eq 9, 3) := by decide +kernel
theorem dX9_rest_11 : decode cX9_rest 11 = .ok (.aload_n 0, 1) := by decide +kernel
theorem dX9_rest_12 : decode cX9_rest 12 = .ok (.iload_n 3, 1) := by decide +kernel
theorem dX9_rest_13 : decode cX9_rest 13 = .ok (.invokevirtual 72, 3) := by decide +kernel
theorem dX9_rest_16 : decode cX9_rest 16 = .ok (.ireturn, 1) := by decide +kernel
theorem dX9_rest_17 : decode cX9_rest 17 = .ok (.aload_n 0, 1) := by decide +kernel
theorem dX9_rest_18 : decode cX9_rest 18 = .ok (.getfield 19, 3) := by decide +kernel
theorem dX9_rest_21 : decode cX9_rest 21 = .ok (.getfield 153, 3) := by decide +kernel
theorem dX9_rest_24 : decode cX9_rest 24 = .ok (.iload_n 1, 1) := by decide +kernel
theorem dX9_rest_25 : decode cX9_rest 25 = .ok (.aaload, 1) := by decide +kernel
theorem dX9_rest_26 : decode cX9_rest 26 = .ok (.astore 4, 2) := by decide +kernel
theorem dX9_rest_28 : decode cX9_rest 28 = .ok (.aload 4, 2) := by decide +kernel
theorem dX9_rest_30 : decode cX9_rest 30 = .ok (.dup, 1) := by decide +kernel
theorem dX9_rest_31 : decode cX9_rest 31 = .ok (.getfield 169, 3) := by decide +kernel
theorem dX9_rest_34 : decode cX9_rest 34 = .ok (.iload_n 2, 1) := by decide +kernel
theorem dX9_rest_35 : decode cX9_rest 35 = .ok (.iadd, 1) := by decide +kernel
theorem dX9_rest_36 : decode cX9_rest 36 = .ok (.putfield 169, 3) := by decide +kernel
theorem dX9_rest_39 : decode cX9_rest 39 = .ok (.aload 4, 2) := by decide +kernel
theorem dX9_rest_41 : decode cX9_rest 41 = .ok (.iconst 0, 1) := by decide +kernel
theorem dX9_rest_42 : decode cX9_rest 42 = .ok (.aload 4, 2) := by decide +kernel
theorem dX9_rest_44 : decode cX9_rest 44 = .ok (.getfield 172, 3) := by decide +kernel
theorem dX9_rest_47 : decode cX9_rest 47 = .ok (.iconst 2, 1) := by decide +kernel
theorem dX9_rest_48 : decode cX9_rest 48 = .ok (.iload_n 2, 1) := by decide +kernel
theorem dX9_rest_49 : decode cX9_rest 49 = .ok (.imul, 1) := by decide +kernel
theorem dX9_rest_50 : decode cX9_rest 50 = .ok (.isub, 1) := by decide +kernel
theorem dX9_rest_51 : decode cX9_rest 51 = .ok (.invokestatic 190, 3) := by decide +kernel
theorem dX9_rest_54 : decode cX9_rest 54 = .ok (.putfield 172, 3) := by decide +kernel
theorem dX9_rest_57 : decode cX9_rest 57 = .ok (.aload 4, 2) := by decide +kernel
theorem dX9_rest_59 : decode cX9_rest 59 = .ok (.getfield 172, 3) := by decide +kernel
theorem dX9_rest_62 : decode cX9_rest 62 = .ok (.ireturn, 1) := by decide +kernel
theorem dX9_lose_0 : decode cX9_lose 0 = .ok (.aload_n 0, 1) := by decide +kernel
theorem dX9_lose_1 : decode cX9_lose 1 = .ok (.getfield 19, 3) := by decide +kernel
theorem dX9_lose_4 : decode cX9_lose 4 = .ok (.iload_n 1, 1) := by decide +kernel
theorem dX9_lose_5 : decode cX9_lose 5 = .ok (.invokevirtual 150, 3) := by decide +kernel
theorem dX9_lose_8 : decode cX9_lose 8 = .ok (.ifCond .ne 9, 3) := by decide +kernel
theorem dX9_lose_11 : decode cX9_lose 11 = .ok (.aload_n 0, 1) := by decide +kernel
theorem dX9_lose_12 : decode cX9_lose 12 = .ok (.iconst (-1), 1) := by decide +kernel
theorem dX9_lose_13 : decode cX9_lose 13 = .ok (.invokevirtual 72, 3) := by decide +kernel
theorem dX9_lose_16 : decode cX9_lose 16 = .ok (.ireturn, 1) := by decide +kernel
theorem dX9_lose_17 : decode cX9_lose 17 = .ok (.aload_n 0, 1) := by decide +kernel
theorem dX9_lose_18 : decode cX9_lose 18 = .ok (.getfield 19, 3) := by decide +kernel
theorem dX9_lose_21 : decode cX9_lose 21 = .ok (.getfield 153, 3) := by decide +kernel
theorem dX9_lose_24 : decode cX9_lose 24 = .ok (.iload_n 1, 1) := by decide +kernel
theorem dX9_lose_25 : decode cX9_lose 25 = .ok (.aaload, 1) := by decide +kernel
theorem dX9_lose_26 : decode cX9_lose 26 = .ok (.getfield 162, 3) := by decide +kernel
theorem dX9_lose_29 : decode cX9_lose 29 = .ok (.istore_n 2, 1) := by decide +kernel
theorem dX9_lose_30 : decode cX9_lose 30 = .ok (.aload_n 0, 1) := by decide +kernel
theorem dX9_lose_31 : decode cX9_lose 31 = .ok (.getfield 19, 3) := by decide +kernel
theorem dX9_lose_34 : decode cX9_lose 34 = .ok (.getfield 153, 3) := by decide +kernel
theorem dX9_lose_37 : decode cX9_lose 37 = .ok (.iload_n 1, 1) := by decide +kernel
theorem dX9_lose_38 : decode cX9_lose 38 = .ok (.aaload, 1) := by decide +kernel
theorem dX9_lose_39 : decode cX9_lose 39 = .ok (.invokevirtual 196, 3) := by decide +kernel
theorem dX9_lose_42 : decode cX9_lose 42 = .ok (.iload_n 2, 1) := by decide +kernel
theorem dX9_lose_43 : decode cX9_lose 43 = .ok (.ireturn, 1) := by decide +kernel
theorem dX9_does_0 : decode cX9_does 0 = .ok (.aload_n 0, 1) := by decide +kernel
theorem dX9_does_1 : decode cX9_does 1 = .ok (.getfield 19, 3) := by decide +kernel
theorem dX9_does_4 : decode cX9_does 4 = .ok (.iload_n 1, 1) := by decide +kernel
theorem dX9_does_5 : decode cX9_does 5 = .ok (.invokevirtual 119, 3) := by decide +kernel
theorem dX9_does_8 : decode cX9_does 8 = .ok (.ifCond .ne 9, 3) := by decide +kernel
theorem dX9_does_11 : decode cX9_does 11 = .ok (.aload_n 0, 1) := by decide +kernel
theorem dX9_does_12 : decode cX9_does 12 = .ok (.iconst (-1), 1) := by decide +kernel
theorem dX9_does_13 : decode cX9_does 13 = .ok (.invokevirtual 72, 3) := by decide +kernel
theorem dX9_does_16 : decode cX9_does 16 = .ok (.ireturn, 1) := by decide +kernel
theorem dX9_does_17 : decode cX9_does 17 = .ok (.iload_n 2, 1) := by decide +kernel
theorem dX9_does_18 : decode cX9_does 18 = .ok (.ifCond .lt 8, 3) := by decide +kernel
theorem dX9_does_21 : decode cX9_does 21 = .ok (.iload_n 2, 1) := by decide +kernel
theorem dX9_does_22 : decode cX9_does 22 = .ok (.iconst 3, 1) := by decide +kernel
theorem dX9_does_23 : decode cX9_does 23 = .ok (.if_icmp .lt 10, 3) := by decide +kernel
theorem dX9_does_26 : decode cX9_does 26 = .ok (.aload_n 0, 1) := by decide +kernel
theorem dX9_does_27 : decode cX9_does 27 = .ok (.bipush (-2), 2) := by decide +kernel
theorem dX9_does_29 : decode cX9_does 29 = .ok (.invokevirtual 72, 3) := by decide +kernel
theorem dX9_does_32 : decode cX9_does 32 = .ok (.ireturn, 1) := by decide +kernel
theorem dX9_does_33 : decode cX9_does 33 = .ok (.aload_n 0, 1) := by decide +kernel
theorem dX9_does_34 : decode cX9_does 34 = .ok (.iload_n 1, 1) := by decide +kernel
theorem dX9_does_35 : decode cX9_does 35 = .ok (.invokevirtual 200, 3) := by decide +kernel
theorem dX9_does_38 : decode cX9_does 38 = .ok (.aload_n 0, 1) := by decide +kernel
theorem dX9_does_39 : decode cX9_does 39 = .ok (.getfield 36, 3) := by decide +kernel
theorem dX9_does_42 : decode cX9_does 42 = .ok (.iload_n 2, 1) := by decide +kernel
theorem dX9_does_43 : decode cX9_does 43 = .ok (.invokevirtual 204, 3) := by decide +kernel
theorem dX9_does_46 : decode cX9_does 46 = .ok (.ireturn, 1) := by decide +kernel
theorem dX9_well_0 : decode cX9_well 0 = .ok (.aload_n 0, 1) := by decide +kernel
theorem dX9_well_1 : decode cX9_well 1 = .ok (.getfield 19, 3) := by decide +kernel
theorem dX9_well_4 : decode cX9_well 4 = .ok (.iload_n 1, 1) := by decide +kernel
theorem dX9_well_5 : decode cX9_well 5 = .ok (.invokevirtual 119, 3) := by decide +kernel
theorem dX9_well_8 : decode cX9_well 8 = .ok (.ifCond .ne 9, 3) := by decide +kernel
theorem dX9_well_11 : decode cX9_well 11 = .ok (.aload_n 0, 1) := by decide +kernel
theorem dX9_well_12 : decode cX9_well 12 = .ok (.iconst (-1), 1) := by decide +kernel
theorem dX9_well_13 : decode cX9_well 13 = .ok (.invokevirtual 72, 3) := by decide +kernel
theorem dX9_well_16 : decode cX9_well 16 = .ok (.ireturn, 1) := by decide +kernel
theorem dX9_well_17 : decode cX9_well 17 = .ok (.iload_n 2, 1) := by decide +kernel
theorem dX9_well_18 : decode cX9_well 18 = .ok (.ifCond .lt 8, 3) := by decide +kernel
theorem dX9_well_21 : decode cX9_well 21 = .ok (.iload_n 2, 1) := by decide +kernel
theorem dX9_well_22 : decode cX9_well 22 = .ok (.iconst 1, 1) := by decide +kernel
theorem dX9_well_23 : decode cX9_well 23 = .ok (.if_icmp .le 10, 3) := by decide +kernel
theorem dX9_well_26 : decode cX9_well 26 = .ok (.aload_n 0, 1) := by decide +kernel
theorem dX9_well_27 : decode cX9_well 27 = .ok (.bipush (-2), 2) := by decide +kernel
theorem dX9_well_29 : decode cX9_well 29 = .ok (.invokevirtual 72, 3) := by decide +kernel
theorem dX9_well_32 : decode cX9_well 32 = .ok (.ireturn, 1) := by decide +kernel
theorem dX9_well_33 : decode cX9_well 33 = .ok (.aload_n 0, 1) := by decide +kernel
theorem dX9_well_34 : decode cX9_well 34 = .ok (.iload_n 1, 1) := by decide +kernel
theorem dX9_well_35 : decode cX9_well 35 = .ok (.invokevirtual 200, 3) := by decide +kernel
theorem dX9_well_38 : decode cX9_well 38 = .ok (.aload_n 0, 1) := by decide +kernel
theorem dX9_well_39 : decode cX9_well 39 = .ok (.getfield 36, 3) := by decide +kernel
theorem dX9_well_42 : decode cX9_well 42 = .ok (.invokevirtual 207, 3) := by decide +kernel
theorem dX9_well_45 : decode cX9_well 45 = .ok (.iload_n 2, 1) := by decide +kernel
theorem dX9_well_46 : decode cX9_well 46 = .ok (.ifCond .ne 13, 3) := by decide +kernel
theorem dX9_well_49 : decode cX9_well 49 = .ok (.aload_n 0, 1) := by decide +kernel
theorem dX9_well_50 : decode cX9_well 50 = .ok (.getfield 36, 3) := by decide +kernel
theorem dX9_well_53 : decode cX9_well 53 = .ok (.getfield 210, 3) := by decide +kernel
theorem dX9_well_56 : decode cX9_well 56 = .ok (.goto 10, 3) := by decide +kernel
theorem dX9_well_59 : decode cX9_well 59 = .ok (.aload_n 0, 1) := by decide +kernel
theorem dX9_well_60 : decode cX9_well 60 = .ok (.getfield 36, 3) := by decide +kernel
theorem dX9_well_63 : decode cX9_well 63 = .ok (.getfield 213, 3) := by decide +kernel
theorem dX9_well_66 : decode cX9_well 66 = .ok (.ireturn, 1) := by decide +kernel
theorem dX9_plan_0 : decode cX9_plan 0 = .ok (.iload_n 1, 1) := by decide +kernel
theorem dX9_plan_1 : decode cX9_plan 1 = .ok (.invokestatic 216, 3) := by decide +kernel
theorem dX9_plan_4 : decode cX9_plan 4 = .ok (.ifCond .ne 10, 3) := by decide +kernel
theorem dX9_plan_7 : decode cX9_plan 7 = .ok (.aload_n 0, 1) := by decide +kernel
theorem dX9_plan_8 : decode cX9_plan 8 = .ok (.bipush (-2), 2) := by decide +kernel
theorem dX9_plan_10 : decode cX9_plan 10 = .ok (.invokevirtual 72, 3) := by decide +kernel
theorem dX9_plan_13 : decode cX9_plan 13 = .ok (.ireturn, 1) := by decide +kernel
theorem dX9_plan_14 : decode cX9_plan 14 = .ok (.aload_n 0, 1) := by decide +kernel
theorem dX9_plan_15 : decode cX9_plan 15 = .ok (.getfield 43, 3) := by decide +kernel
theorem dX9_plan_18 : decode cX9_plan 18 = .ok (.iload_n 1, 1) := by decide +kernel
theorem dX9_plan_19 : decode cX9_plan 19 = .ok (.aload_n 0, 1) := by decide +kernel
theorem dX9_plan_20 : decode cX9_plan 20 = .ok (.getfield 19, 3) := by decide +kernel
theorem dX9_plan_23 : decode cX9_plan 23 = .ok (.invokevirtual 219, 3) := by decide +kernel
theorem dX9_plan_26 : decode cX9_plan 26 = .ok (.aload_n 0, 1) := by decide +kernel
theorem dX9_plan_27 : decode cX9_plan 27 = .ok (.getfield 43, 3) := by decide +kernel
theorem dX9_plan_30 : decode cX9_plan 30 = .ok (.aload_n 0, 1) := by decide +kernel
theorem dX9_plan_31 : decode cX9_plan 31 = .ok (.getfield 19, 3) := by decide +kernel
theorem dX9_plan_34 : decode cX9_plan 34 = .ok (.invokevirtual 223, 3) := by decide +kernel
theorem dX9_plan_37 : decode cX9_plan 37 = .ok (.ireturn, 1) := by decide +kernel
theorem dX9_planned_0 : decode cX9_planned 0 = .ok (.iload_n 1, 1) := by decide +kernel
theorem dX9_planned_1 : decode cX9_planned 1 = .ok (.invokestatic 216, 3) := by decide +kernel
theorem dX9_planned_4 : decode cX9_planned 4 = .ok (.ifCond .ne 10, 3) := by decide +kernel
theorem dX9_planned_7 : decode cX9_planned 7 = .ok (.aload_n 0, 1) := by decide +kernel
theorem dX9_planned_8 : decode cX9_planned 8 = .ok (.bipush (-2), 2) := by decide +kernel
theorem dX9_planned_10 : decode cX9_planned 10 = .ok (.invokevirtual 72, 3) := by decide +kernel
theorem dX9_planned_13 : decode cX9_planned 13 = .ok (.ireturn, 1) := by decide +kernel
theorem dX9_planned_14 : decode cX9_planned 14 = .ok (.aload_n 0, 1) := by decide +kernel
theorem dX9_planned_15 : decode cX9_planned 15 = .ok (.getfield 19, 3) := by decide +kernel
theorem dX9_planned_18 : decode cX9_planned 18 = .ok (.iload_n 2, 1) := by decide +kernel
theorem dX9_planned_19 : decode cX9_planned 19 = .ok (.invokevirtual 97, 3) := by decide +kernel
theorem dX9_planned_22 : decode cX9_planned 22 = .ok (.ifCond .eq 14, 3) := by decide +kernel
theorem dX9_planned_25 : decode cX9_planned 25 = .ok (.aload_n 0, 1) := by decide +kernel
theorem dX9_planned_26 : decode cX9_planned 26 = .ok (.getfield 19, 3) := by decide +kernel
theorem dX9_planned_29 : decode cX9_planned 29 = .ok (.iload_n 3, 1) := by decide +kernel
theorem dX9_planned_30 : decode cX9_planned 30 = .ok (.invokevirtual 119, 3) := by decide +kernel
theorem dX9_planned_33 : decode cX9_planned 33 = .ok (.ifCond .ne 9, 3) := by decide +kernel
theorem dX9_planned_36 : decode cX9_planned 36 = .ok (.aload_n 0, 1) := by decide +kernel
theorem dX9_planned_37 : decode cX9_planned 37 = .ok (.iconst (-1), 1) := by decide +kernel
theorem dX9_planned_38 : decode cX9_planned 38 = .ok (.invokevirtual 72, 3) := by decide +kernel
theorem dX9_planned_41 : decode cX9_planned 41 = .ok (.ireturn, 1) := by decide +kernel
theorem dX9_planned_42 : decode cX9_planned 42 = .ok (.aload_n 0, 1) := by decide +kernel
theorem dX9_planned_43 : decode cX9_planned 43 = .ok (.getfield 43, 3) := by decide +kernel
theorem dX9_planned_46 : decode cX9_planned 46 = .ok (.iload_n 1, 1) := by decide +kernel
theorem dX9_planned_47 : decode cX9_planned 47 = .ok (.aload_n 0, 1) := by decide +kernel
theorem dX9_planned_48 : decode cX9_planned 48 = .ok (.getfield 19, 3) := by decide +kernel
theorem dX9_planned_51 : decode cX9_planned 51 = .ok (.invokevirtual 219, 3) := by decide +kernel
theorem dX9_planned_54 : decode cX9_planned 54 = .ok (.aload_n 0, 1) := by decide +kernel
theorem dX9_planned_55 : decode cX9_planned 55 = .ok (.getfield 43, 3) := by decide +kernel
theorem dX9_planned_58 : decode cX9_planned 58 = .ok (.getfield 225, 3) := by decide +kernel
theorem dX9_planned_61 : decode cX9_planned 61 = .ok (.iload_n 2, 1) := by decide +kernel
theorem dX9_planned_62 : decode cX9_planned 62 = .ok (.aaload, 1) := by decide +kernel
theorem dX9_planned_63 : decode cX9_planned 63 = .ok (.iload_n 3, 1) := by decide +kernel
theorem dX9_planned_64 : decode cX9_planned 64 = .ok (.iaload, 1) := by decide +kernel
theorem dX9_planned_65 : decode cX9_planned 65 = .ok (.ireturn, 1) := by decide +kernel
theorem dX9_best_0 : decode cX9_best 0 = .ok (.aload_n 0, 1) := by decide +kernel
theorem dX9_best_1 : decode cX9_best 1 = .ok (.getfield 19, 3) := by decide +kernel
theorem dX9_best_4 : decode cX9_best 4 = .ok (.invokestatic 227, 3) := by decide +kernel
theorem dX9_best_7 : decode cX9_best 7 = .ok (.ifCond .ne 10, 3) := by decide +kernel
theorem dX9_best_10 : decode cX9_best 10 = .ok (.aload_n 0, 1) := by decide +kernel
theorem dX9_best_11 : decode cX9_best 11 = .ok (.bipush (-6), 2) := by decide +kernel
theorem dX9_best_13 : decode cX9_best 13 = .ok (.invokevirtual 72, 3) := by decide +kernel
theorem dX9_best_16 : decode cX9_best 16 = .ok (.ireturn, 1) := by decide +kernel
theorem dX9_best_17 : decode cX9_best 17 = .ok (.aload_n 0, 1) := by decide +kernel
theorem dX9_best_18 : decode cX9_best 18 = .ok (.getfield 50, 3) := by decide +kernel
theorem dX9_best_21 : decode cX9_best 21 = .ok (.aload_n 0, 1) := by decide +kernel
theorem dX9_best_22 : decode cX9_best 22 = .ok (.getfield 19, 3) := by decide +kernel
theorem dX9_best_25 : decode cX9_best 25 = .ok (.invokevirtual 231, 3) := by decide +kernel
theorem dX9_best_28 : decode cX9_best 28 = .ok (.aload_n 0, 1) := by decide +kernel
theorem dX9_best_29 : decode cX9_best 29 = .ok (.getfield 50, 3) := by decide +kernel
theorem dX9_best_32 : decode cX9_best 32 = .ok (.getfield 234, 3) := by decide +kernel
theorem dX9_best_35 : decode cX9_best 35 = .ok (.ireturn, 1) := by decide +kernel
theorem dX9_quarters_0 : decode cX9_quarters 0 = .ok (.aload_n 0, 1) := by decide +kernel
theorem dX9_quarters_1 : decode cX9_quarters 1 = .ok (.getfield 19, 3) := by decide +kernel
theorem dX9_quarters_4 : decode cX9_quarters 4 = .ok (.iload_n 1, 1) := by decide +kernel
theorem dX9_quarters_5 : decode cX9_quarters 5 = .ok (.invokevirtual 97, 3) := by decide +kernel
theorem dX9_quarters_8 : decode cX9_quarters 8 = .ok (.ifCond .eq 14, 3) := by decide +kernel
theorem dX9_quarters_11 : decode cX9_quarters 11 = .ok (.aload_n 0, 1) := by decide +kernel
theorem dX9_quarters_12 : decode cX9_quarters 12 = .ok (.getfield 19, 3) := by decide +kernel
theorem dX9_quarters_15 : decode cX9_quarters 15 = .ok (.iload_n 2, 1) := by decide +kernel
theorem dX9_quarters_16 : decode cX9_quarters 16 = .ok (.invokevirtual 119, 3) := by decide +kernel
theorem dX9_quarters_19 : decode cX9_quarters 19 = .ok (.ifCond .ne 9, 3) := by decide +kernel
theorem dX9_quarters_22 : decode cX9_quarters 22 = .ok (.aload_n 0, 1) := by decide +kernel
theorem dX9_quarters_23 : decode cX9_quarters 23 = .ok (.iconst (-1), 1) := by decide +kernel
theorem dX9_quarters_24 : decode cX9_quarters 24 = .ok (.invokevirtual 72, 3) := by decide +kernel
theorem dX9_quarters_27 : decode cX9_quarters 27 = .ok (.ireturn, 1) := by decide +kernel
theorem dX9_quarters_28 : decode cX9_quarters 28 = .ok (.aload_n 0, 1) := by decide +kernel
theorem dX9_quarters_29 : decode cX9_quarters 29 = .ok (.getfield 19, 3) := by decide +kernel
theorem dX9_quarters_32 : decode cX9_quarters 32 = .ok (.invokestatic 227, 3) := by decide +kernel
theorem dX9_quarters_35 : decode cX9_quarters 35 = .ok (.ifCond .ne 10, 3) := by decide +kernel
theorem dX9_quarters_38 : decode cX9_quarters 38 = .ok (.aload_n 0, 1) := by decide +kernel
theorem dX9_quarters_39 : decode cX9_quarters 39 = .ok (.bipush (-6), 2) := by decide +kernel
theorem dX9_quarters_41 : decode cX9_quarters 41 = .ok (.invokevirtual 72, 3) := by decide +kernel
theorem dX9_quarters_44 : decode cX9_quarters 44 = .ok (.ireturn, 1) := by decide +kernel
theorem dX9_quarters_45 : decode cX9_quarters 45 = .ok (.aload_n 0, 1) := by decide +kernel
theorem dX9_quarters_46 : decode cX9_quarters 46 = .ok (.getfield 50, 3) := by decide +kernel
theorem dX9_quarters_49 : decode cX9_quarters 49 = .ok (.aload_n 0, 1) := by decide +kernel
theorem dX9_quarters_50 : decode cX9_quarters 50 = .ok (.getfield 19, 3) := by decide +kernel
theorem dX9_quarters_53 : decode cX9_quarters 53 = .ok (.invokevirtual 231, 3) := by decide +kernel
theorem dX9_quarters_56 : decode cX9_quarters 56 = .ok (.aload_n 0, 1) := by decide +kernel
theorem dX9_quarters_57 : decode cX9_quarters 57 = .ok (.getfield 50, 3) := by decide +kernel
theorem dX9_quarters_60 : decode cX9_quarters 60 = .ok (.iload_n 1, 1) := by decide +kernel
theorem dX9_quarters_61 : decode cX9_quarters 61 = .ok (.iload_n 2, 1) := by decide +kernel
theorem dX9_quarters_62 : decode cX9_quarters 62 = .ok (.invokevirtual 235, 3) := by decide +kernel
theorem dX9_quarters_65 : decode cX9_quarters 65 = .ok (.ireturn, 1) := by decide +kernel
theorem dX9_must_0 : decode cX9_must 0 = .ok (.aload_n 0, 1) := by decide +kernel
theorem dX9_must_1 : decode cX9_must 1 = .ok (.getfield 57, 3) := by decide +kernel
theorem dX9_must_4 : decode cX9_must 4 = .ok (.aload_n 0, 1) := by decide +kernel
theorem dX9_must_5 : decode cX9_must 5 = .ok (.getfield 19, 3) := by decide +kernel
theorem dX9_must_8 : decode cX9_must 8 = .ok (.invokevirtual 238, 3) := by decide +kernel
theorem dX9_must_11 : decode cX9_must 11 = .ok (.ireturn, 1) := by decide +kernel
theorem dX9_with_0 : decode cX9_with 0 = .ok (.aload_n 0, 1) := by decide +kernel
theorem dX9_with_1 : decode cX9_with 1 = .ok (.getfield 19, 3) := by decide +kernel
theorem dX9_with_4 : decode cX9_with 4 = .ok (.iload_n 1, 1) := by decide +kernel
theorem dX9_with_5 : decode cX9_with 5 = .ok (.invokevirtual 119, 3) := by decide +kernel
theorem dX9_with_8 : decode cX9_with 8 = .ok (.ifCond .ne 9, 3) := by decide +kernel
theorem dX9_with_11 : decode cX9_with 11 = .ok (.aload_n 0, 1) := by decide +kernel
theorem dX9_with_12 : decode cX9_with 12 = .ok (.iconst (-1), 1) := by decide +kernel
theorem dX9_with_13 : decode cX9_with 13 = .ok (.invokevirtual 72, 3) := by decide +kernel
theorem dX9_with_16 : decode cX9_with 16 = .ok (.ireturn, 1) := by decide +kernel
theorem dX9_with_17 : decode cX9_with 17 = .ok (.aload_n 0, 1) := by decide +kernel
theorem dX9_with_18 : decode cX9_with 18 = .ok (.getfield 19, 3) := by decide +kernel
theorem dX9_with_21 : decode cX9_with 21 = .ok (.getfield 122, 3) := by decide +kernel
theorem dX9_with_24 : decode cX9_with 24 = .ok (.iload_n 1, 1) := by decide +kernel
theorem dX9_with_25 : decode cX9_with 25 = .ok (.aaload, 1) := by decide +kernel
theorem dX9_with_26 : decode cX9_with 26 = .ok (.getfield 126, 3) := by decide +kernel
theorem dX9_with_29 : decode cX9_with 29 = .ok (.iconst 3, 1) := by decide +kernel
theorem dX9_with_30 : decode cX9_with 30 = .ok (.if_icmp .eq 10, 3) := by decide +kernel
theorem dX9_with_33 : decode cX9_with 33 = .ok (.aload_n 0, 1) := by decide +kernel
theorem dX9_with_34 : decode cX9_with 34 = .ok (.bipush (-2), 2) := by decide +kernel
theorem dX9_with_36 : decode cX9_with 36 = .ok (.invokevirtual 72, 3) := by decide +kernel
theorem dX9_with_39 : decode cX9_with 39 = .ok (.ireturn, 1) := by decide +kernel
theorem dX9_with_40 : decode cX9_with 40 = .ok (.aload_n 0, 1) := by decide +kernel
theorem dX9_with_41 : decode cX9_with 41 = .ok (.getfield 57, 3) := by decide +kernel
theorem dX9_with_44 : decode cX9_with 44 = .ok (.aload_n 0, 1) := by decide +kernel
theorem dX9_with_45 : decode cX9_with 45 = .ok (.getfield 19, 3) := by decide +kernel
theorem dX9_with_48 : decode cX9_with 48 = .ok (.aload_n 0, 1) := by decide +kernel
theorem dX9_with_49 : decode cX9_with 49 = .ok (.getfield 19, 3) := by decide +kernel
theorem dX9_with_52 : decode cX9_with 52 = .ok (.getfield 122, 3) := by decide +kernel
theorem dX9_with_55 : decode cX9_with 55 = .ok (.iload_n 1, 1) := by decide +kernel
theorem dX9_with_56 : decode cX9_with 56 = .ok (.aaload, 1) := by decide +kernel
theorem dX9_with_57 : decode cX9_with 57 = .ok (.invokevirtual 241, 3) := by decide +kernel
theorem dX9_with_60 : decode cX9_with 60 = .ok (.ireturn, 1) := by decide +kernel
theorem dX9_thin_0 : decode cX9_thin 0 = .ok (.aload_n 0, 1) := by decide +kernel
theorem dX9_thin_1 : decode cX9_thin 1 = .ok (.getfield 19, 3) := by decide +kernel
theorem dX9_thin_4 : decode cX9_thin 4 = .ok (.iload_n 1, 1) := by decide +kernel
theorem dX9_thin_5 : decode cX9_thin 5 = .ok (.invokevirtual 97, 3) := by decide +kernel
theorem dX9_thin_8 : decode cX9_thin 8 = .ok (.ifCond .ne 9, 3) := by decide +kernel
theorem dX9_thin_11 : decode cX9_thin 11 = .ok (.aload_n 0, 1) := by decide +kernel
theorem dX9_thin_12 : decode cX9_thin 12 = .ok (.iconst (-1), 1) := by decide +kernel
theorem dX9_thin_13 : decode cX9_thin 13 = .ok (.invokevirtual 72, 3) := by decide +kernel
theorem dX9_thin_16 : decode cX9_thin 16 = .ok (.ireturn, 1) := by decide +kernel
theorem dX9_thin_17 : decode cX9_thin 17 = .ok (.aload_n 0, 1) := by decide +kernel
theorem dX9_thin_18 : decode cX9_thin 18 = .ok (.getfield 19, 3) := by decide +kernel
theorem dX9_thin_21 : decode cX9_thin 21 = .ok (.getfield 101, 3) := by decide +kernel
theorem dX9_thin_24 : decode cX9_thin 24 = .ok (.iload_n 1, 1) := by decide +kernel
theorem dX9_thin_25 : decode cX9_thin 25 = .ok (.aaload, 1) := by decide +kernel
theorem dX9_thin_26 : decode cX9_thin 26 = .ok (.getfield 110, 3) := by decide +kernel
theorem dX9_thin_29 : decode cX9_thin 29 = .ok (.istore_n 2, 1) := by decide +kernel
theorem dX9_thin_30 : decode cX9_thin 30 = .ok (.iload_n 2, 1) := by decide +kernel
theorem dX9_thin_31 : decode cX9_thin 31 = .ok (.iconst 1, 1) := by decide +kernel
theorem dX9_thin_32 : decode cX9_thin 32 = .ok (.if_icmp .ge 7, 3) := by decide +kernel
theorem dX9_thin_35 : decode cX9_thin 35 = .ok (.iconst 0, 1) := by decide +kernel
theorem dX9_thin_36 : decode cX9_thin 36 = .ok (.goto 7, 3) := by decide +kernel
theorem dX9_thin_39 : decode cX9_thin 39 = .ok (.bipush 12, 2) := by decide +kernel
theorem dX9_thin_41 : decode cX9_thin 41 = .ok (.iload_n 2, 1) := by decide +kernel
theorem dX9_thin_42 : decode cX9_thin 42 = .ok (.idiv, 1) := by decide +kernel
theorem dX9_thin_43 : decode cX9_thin 43 = .ok (.ireturn, 1) := by decide +kernel
theorem dX9_few_0 : decode cX9_few 0 = .ok (.aload_n 0, 1) := by decide +kernel
theorem dX9_few_1 : decode cX9_few 1 = .ok (.getfield 19, 3) := by decide +kernel
theorem dX9_few_4 : decode cX9_few 4 = .ok (.iload_n 1, 1) := by decide +kernel
theorem dX9_few_5 : decode cX9_few 5 = .ok (.invokevirtual 97, 3) := by decide +kernel
theorem dX9_few_8 : decode cX9_few 8 = .ok (.ifCond .eq 14, 3) := by decide +kernel
theorem dX9_few_11 : decode cX9_few 11 = .ok (.aload_n 0, 1) := by decide +kernel
theorem dX9_few_12 : decode cX9_few 12 = .ok (.getfield 19, 3) := by decide +kernel
theorem dX9_few_15 : decode cX9_few 15 = .ok (.iload_n 2, 1) := by decide +kernel
theorem dX9_few_16 : decode cX9_few 16 = .ok (.invokevirtual 119, 3) := by decide +kernel
theorem dX9_few_19 : decode cX9_few 19 = .ok (.ifCond .ne 9, 3) := by decide +kernel
theorem dX9_few_22 : decode cX9_few 22 = .ok (.aload_n 0, 1) := by decide +kernel
theorem dX9_few_23 : decode cX9_few 23 = .ok (.iconst (-1), 1) := by decide +kernel
theorem dX9_few_24 : decode cX9_few 24 = .ok (.invokevirtual 72, 3) := by decide +kernel
theorem dX9_few_27 : decode cX9_few 27 = .ok (.ireturn, 1) := by decide +kernel
theorem dX9_few_28 : decode cX9_few 28 = .ok (.aload_n 0, 1) := by decide +kernel
theorem dX9_few_29 : decode cX9_few 29 = .ok (.getfield 19, 3) := by decide +kernel
theorem dX9_few_32 : decode cX9_few 32 = .ok (.getfield 122, 3) := by decide +kernel
theorem dX9_few_35 : decode cX9_few 35 = .ok (.iload_n 2, 1) := by decide +kernel
theorem dX9_few_36 : decode cX9_few 36 = .ok (.aaload, 1) := by decide +kernel
theorem dX9_few_37 : decode cX9_few 37 = .ok (.astore_n 3, 1) := by decide +kernel
theorem dX9_few_38 : decode cX9_few 38 = .ok (.aload_n 3, 1) := by decide +kernel
theorem dX9_few_39 : decode cX9_few 39 = .ok (.getfield 126, 3) := by decide +kernel
theorem dX9_few_42 : decode cX9_few 42 = .ok (.ifCond .eq 10, 3) := by decide +kernel
theorem dX9_few_45 : decode cX9_few 45 = .ok (.aload_n 0, 1) := by decide +kernel
theorem dX9_few_46 : decode cX9_few 46 = .ok (.bipush (-2), 2) := by decide +kernel
theorem dX9_few_48 : decode cX9_few 48 = .ok (.invokevirtual 72, 3) := by decide +kernel
theorem dX9_few_51 : decode cX9_few 51 = .ok (.ireturn, 1) := by decide +kernel
theorem dX9_few_52 : decode cX9_few 52 = .ok (.aload_n 0, 1) := by decide +kernel
theorem dX9_few_53 : decode cX9_few 53 = .ok (.getfield 19, 3) := by decide +kernel
theorem dX9_few_56 : decode cX9_few 56 = .ok (.getfield 101, 3) := by decide +kernel
theorem dX9_few_59 : decode cX9_few 59 = .ok (.iload_n 1, 1) := by decide +kernel
theorem dX9_few_60 : decode cX9_few 60 = .ok (.aaload, 1) := by decide +kernel
theorem dX9_few_61 : decode cX9_few 61 = .ok (.astore 4, 2) := by decide +kernel
theorem dX9_few_63 : decode cX9_few 63 = .ok (.aload 4, 2) := by decide +kernel
theorem dX9_few_65 : decode cX9_few 65 = .ok (.getfield 110, 3) := by decide +kernel
theorem dX9_few_68 : decode cX9_few 68 = .ok (.istore 5, 2) := by decide +kernel
theorem dX9_few_70 : decode cX9_few 70 = .ok (.iload 5, 2) := by decide +kernel
theorem dX9_few_72 : decode cX9_few 72 = .ok (.bipush 12, 2) := by decide +kernel
theorem dX9_few_74 : decode cX9_few 74 = .ok (.if_icmp .gt 43, 3) := by decide +kernel
theorem dX9_few_77 : decode cX9_few 77 = .ok (.aload_n 0, 1) := by decide +kernel
theorem dX9_few_78 : decode cX9_few 78 = .ok (.getfield 36, 3) := by decide +kernel
theorem dX9_few_81 : decode cX9_few 81 = .ok (.aload_n 3, 1) := by decide +kernel
theorem dX9_few_82 : decode cX9_few 82 = .ok (.invokevirtual 245, 3) := by decide +kernel
theorem dX9_few_85 : decode cX9_few 85 = .ok (.aload_n 0, 1) := by decide +kernel
theorem dX9_few_86 : decode cX9_few 86 = .ok (.getfield 36, 3) := by decide +kernel
theorem dX9_few_89 : decode cX9_few 89 = .ok (.iload_n 1, 1) := by decide +kernel
theorem dX9_few_90 : decode cX9_few 90 = .ok (.aload 4, 2) := by decide +kernel
theorem dX9_few_92 : decode cX9_few 92 = .ok (.iload 5, 2) := by decide +kernel
theorem dX9_few_94 : decode cX9_few 94 = .ok (.iconst 0, 1) := by decide +kernel
theorem dX9_few_95 : decode cX9_few 95 = .ok (.invokevirtual 249, 3) := by decide +kernel
theorem dX9_few_98 : decode cX9_few 98 = .ok (.aload_n 0, 1) := by decide +kernel
theorem dX9_few_99 : decode cX9_few 99 = .ok (.getfield 36, 3) := by decide +kernel
theorem dX9_few_102 : decode cX9_few 102 = .ok (.invokevirtual 253, 3) := by decide +kernel
theorem dX9_few_105 : decode cX9_few 105 = .ok (.ifCond .eq 6, 3) := by decide +kernel
theorem dX9_few_108 : decode cX9_few 108 = .ok (.iload 5, 2) := by decide +kernel
theorem dX9_few_110 : decode cX9_few 110 = .ok (.ireturn, 1) := by decide +kernel
theorem dX9_few_111 : decode cX9_few 111 = .ok (.iinc 5 1, 3) := by decide +kernel
theorem dX9_few_114 : decode cX9_few 114 = .ok (.goto (-44), 3) := by decide +kernel
theorem dX9_few_117 : decode cX9_few 117 = .ok (.bipush (-9), 2) := by decide +kernel
theorem dX9_few_119 : decode cX9_few 119 = .ok (.ireturn, 1) := by decide +kernel
theorem dX9_chance_0 : decode cX9_chance 0 = .ok (.aload_n 0, 1) := by decide +kernel
theorem dX9_chance_1 : decode cX9_chance 1 = .ok (.iload_n 1, 1) := by decide +kernel
theorem dX9_chance_2 : decode cX9_chance 2 = .ok (.iload_n 2, 1) := by decide +kernel
theorem dX9_chance_3 : decode cX9_chance 3 = .ok (.iload_n 3, 1) := by decide +kernel
theorem dX9_chance_4 : decode cX9_chance 4 = .ok (.iload 4, 2) := by decide +kernel
theorem dX9_chance_6 : decode cX9_chance 6 = .ok (.invokevirtual 256, 3) := by decide +kernel
theorem dX9_chance_9 : decode cX9_chance 9 = .ok (.istore 5, 2) := by decide +kernel
theorem dX9_chance_11 : decode cX9_chance 11 = .ok (.iload 5, 2) := by decide +kernel
theorem dX9_chance_13 : decode cX9_chance 13 = .ok (.ifCond .eq 15, 3) := by decide +kernel
theorem dX9_chance_16 : decode cX9_chance 16 = .ok (.ldc2_w 260, 3) := by decide +kernel
theorem dX9_chance_19 : decode cX9_chance 19 = .ok (.aload_n 0, 1) := by decide +kernel
theorem dX9_chance_20 : decode cX9_chance 20 = .ok (.iload 5, 2) := by decide +kernel
theorem dX9_chance_22 : decode cX9_chance 22 = .ok (.invokevirtual 72, 3) := by decide +kernel
theorem dX9_chance_25 : decode cX9_chance 25 = .ok (.i2l, 1) := by decide +kernel
theorem dX9_chance_26 : decode cX9_chance 26 = .ok (.lsub, 1) := by decide +kernel
theorem dX9_chance_27 : decode cX9_chance 27 = .ok (.lreturn, 1) := by decide +kernel
theorem dX9_chance_28 : decode cX9_chance 28 = .ok (.iload_n 3, 1) := by decide +kernel
theorem dX9_chance_29 : decode cX9_chance 29 = .ok (.ifCond .ne 12, 3) := by decide +kernel
theorem dX9_chance_32 : decode cX9_chance 32 = .ok (.aload_n 0, 1) := by decide +kernel
theorem dX9_chance_33 : decode cX9_chance 33 = .ok (.iload_n 1, 1) := by decide +kernel
theorem dX9_chance_34 : decode cX9_chance 34 = .ok (.iload_n 2, 1) := by decide +kernel
theorem dX9_chance_35 : decode cX9_chance 35 = .ok (.iload 4, 2) := by decide +kernel
theorem dX9_chance_37 : decode cX9_chance 37 = .ok (.invokevirtual 262, 3) := by decide +kernel
theorem dX9_chance_40 : decode cX9_chance 40 = .ok (.lreturn, 1) := by decide +kernel
theorem dX9_chance_41 : decode cX9_chance 41 = .ok (.aload_n 0, 1) := by decide +kernel
theorem dX9_chance_42 : decode cX9_chance 42 = .ok (.iload_n 1, 1) := by decide +kernel
theorem dX9_chance_43 : decode cX9_chance 43 = .ok (.iload_n 2, 1) := by decide +kernel
theorem dX9_chance_44 : decode cX9_chance 44 = .ok (.iload 4, 2) := by decide +kernel
theorem dX9_chance_46 : decode cX9_chance 46 = .ok (.invokevirtual 266, 3) := by decide +kernel
theorem dX9_chance_49 : decode cX9_chance 49 = .ok (.lreturn, 1) := by decide +kernel
theorem dX9_together_0 : decode cX9_together 0 = .ok (.aload_n 0, 1) := by decide +kernel
theorem dX9_together_1 : decode cX9_together 1 = .ok (.iload_n 1, 1) := by decide +kernel
theorem dX9_together_2 : decode cX9_together 2 = .ok (.iload_n 2, 1) := by decide +kernel
theorem dX9_together_3 : decode cX9_together 3 = .ok (.invokevirtual 269, 3) := by decide +kernel
theorem dX9_together_6 : decode cX9_together 6 = .ok (.istore_n 3, 1) := by decide +kernel
theorem dX9_together_7 : decode cX9_together 7 = .ok (.iload_n 3, 1) := by decide +kernel
theorem dX9_together_8 : decode cX9_together 8 = .ok (.ifCond .eq 9, 3) := by decide +kernel
theorem dX9_together_11 : decode cX9_together 11 = .ok (.aload_n 0, 1) := by decide +kernel
theorem dX9_together_12 : decode cX9_together 12 = .ok (.iload_n 3, 1) := by decide +kernel
theorem dX9_together_13 : decode cX9_together 13 = .ok (.invokevirtual 72, 3) := by decide +kernel
theorem dX9_together_16 : decode cX9_together 16 = .ok (.ireturn, 1) := by decide +kernel
theorem dX9_together_17 : decode cX9_together 17 = .ok (.aload_n 0, 1) := by decide +kernel
theorem dX9_together_18 : decode cX9_together 18 = .ok (.getfield 19, 3) := by decide +kernel
theorem dX9_together_21 : decode cX9_together 21 = .ok (.invokevirtual 143, 3) := by decide +kernel
theorem dX9_together_24 : decode cX9_together 24 = .ok (.bipush (-9), 2) := by decide +kernel
theorem dX9_together_26 : decode cX9_together 26 = .ok (.istore 4, 2) := by decide +kernel
theorem dX9_together_28 : decode cX9_together 28 = .ok (.bipush (-9), 2) := by decide +kernel
theorem dX9_together_30 : decode cX9_together 30 = .ok (.istore 5, 2) := by decide +kernel
theorem dX9_together_32 : decode cX9_together 32 = .ok (.iconst 0, 1) := by decide +kernel
theorem dX9_together_33 : decode cX9_together 33 = .ok (.istore 6, 2) := by decide +kernel
theorem dX9_together_35 : decode cX9_together 35 = .ok (.iload 6, 2) := by decide +kernel
theorem dX9_together_37 : decode cX9_together 37 = .ok (.aload_n 0, 1) := by decide +kernel
theorem dX9_together_38 : decode cX9_together 38 = .ok (.getfield 19, 3) := by decide +kernel
theorem dX9_together_41 : decode cX9_together 41 = .ok (.getfield 272, 3) := by decide +kernel
theorem dX9_together_44 : decode cX9_together 44 = .ok (.if_icmp .ge 48, 3) := by decide +kernel
theorem dX9_together_47 : decode cX9_together 47 = .ok (.aload_n 0, 1) := by decide +kernel
theorem dX9_together_48 : decode cX9_together 48 = .ok (.getfield 19, 3) := by decide +kernel
theorem dX9_together_51 : decode cX9_together 51 = .ok (.iload_n 1, 1) := by decide +kernel
theorem dX9_together_52 : decode cX9_together 52 = .ok (.iload 6, 2) := by decide +kernel
theorem dX9_together_54 : decode cX9_together 54 = .ok (.invokevirtual 275, 3) := by decide +kernel
theorem dX9_together_57 : decode cX9_together 57 = .ok (.istore 7, 2) := by decide +kernel
theorem dX9_together_59 : decode cX9_together 59 = .ok (.iload 7, 2) := by decide +kernel
theorem dX9_together_61 : decode cX9_together 61 = .ok (.ifCond .lt 25, 3) := by decide +kernel
theorem dX9_together_64 : decode cX9_together 64 = .ok (.iload 4, 2) := by decide +kernel
theorem dX9_together_66 : decode cX9_together 66 = .ok (.bipush (-9), 2) := by decide +kernel
theorem dX9_together_68 : decode cX9_together 68 = .ok (.if_icmp .eq 10, 3) := by decide +kernel
theorem dX9_together_71 : decode cX9_together 71 = .ok (.iload 7, 2) := by decide +kernel
theorem dX9_together_73 : decode cX9_together 73 = .ok (.iload 4, 2) := by decide +kernel
theorem dX9_together_75 : decode cX9_together 75 = .ok (.if_icmp .ge 11, 3) := by decide +kernel
theorem dX9_together_78 : decode cX9_together 78 = .ok (.iload 7, 2) := by decide +kernel
theorem dX9_together_80 : decode cX9_together 80 = .ok (.istore 4, 2) := by decide +kernel
theorem dX9_together_82 : decode cX9_together 82 = .ok (.iload 6, 2) := by decide +kernel
theorem dX9_together_84 : decode cX9_together 84 = .ok (.istore 5, 2) := by decide +kernel
theorem dX9_together_86 : decode cX9_together 86 = .ok (.iinc 6 1, 3) := by decide +kernel
theorem dX9_together_89 : decode cX9_together 89 = .ok (.goto (-54), 3) := by decide +kernel
theorem dX9_together_92 : decode cX9_together 92 = .ok (.iload_n 2, 1) := by decide +kernel
theorem dX9_together_93 : decode cX9_together 93 = .ok (.ifCond .ne 8, 3) := by decide +kernel
theorem dX9_together_96 : decode cX9_together 96 = .ok (.iload 4, 2) := by decide +kernel
theorem dX9_together_98 : decode cX9_together 98 = .ok (.goto 5, 3) := by decide +kernel
theorem dX9_together_101 : decode cX9_together 101 = .ok (.iload 5, 2) := by decide +kernel
theorem dX9_together_103 : decode cX9_together 103 = .ok (.ireturn, 1) := by decide +kernel
theorem dX9_known_0 : decode cX9_known 0 = .ok (.aload_n 0, 1) := by decide +kernel
theorem dX9_known_1 : decode cX9_known 1 = .ok (.iload_n 1, 1) := by decide +kernel
theorem dX9_known_2 : decode cX9_known 2 = .ok (.iload_n 2, 1) := by decide +kernel
theorem dX9_known_3 : decode cX9_known 3 = .ok (.invokevirtual 269, 3) := by decide +kernel
theorem dX9_known_6 : decode cX9_known 6 = .ok (.istore_n 3, 1) := by decide +kernel
theorem dX9_known_7 : decode cX9_known 7 = .ok (.iload_n 3, 1) := by decide +kernel
theorem dX9_known_8 : decode cX9_known 8 = .ok (.ifCond .eq 9, 3) := by decide +kernel
theorem dX9_known_11 : decode cX9_known 11 = .ok (.aload_n 0, 1) := by decide +kernel
theorem dX9_known_12 : decode cX9_known 12 = .ok (.iload_n 3, 1) := by decide +kernel
theorem dX9_known_13 : decode cX9_known 13 = .ok (.invokevirtual 72, 3) := by decide +kernel
theorem dX9_known_16 : decode cX9_known 16 = .ok (.ireturn, 1) := by decide +kernel
theorem dX9_known_17 : decode cX9_known 17 = .ok (.iconst 0, 1) := by decide +kernel
theorem dX9_known_18 : decode cX9_known 18 = .ok (.istore 4, 2) := by decide +kernel
theorem dX9_known_20 : decode cX9_known 20 = .ok (.iconst (-1), 1) := by decide +kernel
theorem dX9_known_21 : decode cX9_known 21 = .ok (.istore 5, 2) := by decide +kernel
theorem dX9_known_23 : decode cX9_known 23 = .ok (.iconst 0, 1) := by decide +kernel
theorem dX9_known_24 : decode cX9_known 24 = .ok (.istore 6, 2) := by decide +kernel
theorem dX9_known_26 : decode cX9_known 26 = .ok (.iload 6, 2) := by decide +kernel
theorem dX9_known_28 : decode cX9_known 28 = .ok (.bipush 24, 2) := by decide +kernel
theorem dX9_known_30 : decode cX9_known 30 = .ok (.if_icmp .ge 58, 3) := by decide +kernel
theorem dX9_known_33 : decode cX9_known 33 = .ok (.aload_n 0, 1) := by decide +kernel
theorem dX9_known_34 : decode cX9_known 34 = .ok (.getfield 19, 3) := by decide +kernel
theorem dX9_known_37 : decode cX9_known 37 = .ok (.iload 6, 2) := by decide +kernel
theorem dX9_known_39 : decode cX9_known 39 = .ok (.iload_n 1, 1) := by decide +kernel
theorem dX9_known_40 : decode cX9_known 40 = .ok (.invokevirtual 278, 3) := by decide +kernel
theorem dX9_known_43 : decode cX9_known 43 = .ok (.ifCond .eq 39, 3) := by decide +kernel
theorem dX9_known_46 : decode cX9_known 46 = .ok (.iload 4, 2) := by decide +kernel
theorem dX9_known_48 : decode cX9_known 48 = .ok (.aload_n 0, 1) := by decide +kernel
theorem dX9_known_49 : decode cX9_known 49 = .ok (.getfield 19, 3) := by decide +kernel
theorem dX9_known_52 : decode cX9_known 52 = .ok (.getfield 153, 3) := by decide +kernel
theorem dX9_known_55 : decode cX9_known 55 = .ok (.iload 6, 2) := by decide +kernel
theorem dX9_known_57 : decode cX9_known 57 = .ok (.aaload, 1) := by decide +kernel
theorem dX9_known_58 : decode cX9_known 58 = .ok (.getfield 175, 3) := by decide +kernel
theorem dX9_known_61 : decode cX9_known 61 = .ok (.ior, 1) := by decide +kernel
theorem dX9_known_62 : decode cX9_known 62 = .ok (.istore 4, 2) := by decide +kernel
theorem dX9_known_64 : decode cX9_known 64 = .ok (.iload 5, 2) := by decide +kernel
theorem dX9_known_66 : decode cX9_known 66 = .ok (.aload_n 0, 1) := by decide +kernel
theorem dX9_known_67 : decode cX9_known 67 = .ok (.getfield 19, 3) := by decide +kernel
theorem dX9_known_70 : decode cX9_known 70 = .ok (.getfield 153, 3) := by decide +kernel
theorem dX9_known_73 : decode cX9_known 73 = .ok (.iload 6, 2) := by decide +kernel
theorem dX9_known_75 : decode cX9_known 75 = .ok (.aaload, 1) := by decide +kernel
theorem dX9_known_76 : decode cX9_known 76 = .ok (.getfield 175, 3) := by decide +kernel
theorem dX9_known_79 : decode cX9_known 79 = .ok (.iand, 1) := by decide +kernel
theorem dX9_known_80 : decode cX9_known 80 = .ok (.istore 5, 2) := by decide +kernel
theorem dX9_known_82 : decode cX9_known 82 = .ok (.iinc 6 1, 3) := by decide +kernel
theorem dX9_known_85 : decode cX9_known 85 = .ok (.goto (-59), 3) := by decide +kernel
theorem dX9_known_88 : decode cX9_known 88 = .ok (.iload_n 2, 1) := by decide +kernel
theorem dX9_known_89 : decode cX9_known 89 = .ok (.ifCond .ne 8, 3) := by decide +kernel
theorem dX9_known_92 : decode cX9_known 92 = .ok (.iload 4, 2) := by decide +kernel
theorem dX9_known_94 : decode cX9_known 94 = .ok (.goto 5, 3) := by decide +kernel
theorem dX9_known_97 : decode cX9_known 97 = .ok (.iload 5, 2) := by decide +kernel
theorem dX9_known_99 : decode cX9_known 99 = .ok (.ireturn, 1) := by decide +kernel
theorem dX9_row_0 : decode cX9_row 0 = .ok (.iload_n 1, 1) := by decide +kernel
theorem dX9_row_1 : decode cX9_row 1 = .ok (.ifCond .ge 10, 3) := by decide +kernel
theorem dX9_row_4 : decode cX9_row 4 = .ok (.aload_n 0, 1) := by decide +kernel
theorem dX9_row_5 : decode cX9_row 5 = .ok (.bipush (-4), 2) := by decide +kernel
theorem dX9_row_7 : decode cX9_row 7 = .ok (.invokevirtual 72, 3) := by decide +kernel
theorem dX9_row_10 : decode cX9_row 10 = .ok (.ireturn, 1) := by decide +kernel
theorem dX9_row_11 : decode cX9_row 11 = .ok (.iload_n 1, 1) := by decide +kernel
theorem dX9_row_12 : decode cX9_row 12 = .ok (.bipush 99, 2) := by decide +kernel
theorem dX9_row_14 : decode cX9_row 14 = .ok (.if_icmp .gt 12, 3) := by decide +kernel
theorem dX9_row_17 : decode cX9_row 17 = .ok (.aload_n 0, 1) := by decide +kernel
theorem dX9_row_18 : decode cX9_row 18 = .ok (.getfield 65, 3) := by decide +kernel
theorem dX9_row_21 : decode cX9_row 21 = .ok (.bipush 12, 2) := by decide +kernel
theorem dX9_row_23 : decode cX9_row 23 = .ok (.if_icmp .lt 10, 3) := by decide +kernel
theorem dX9_row_26 : decode cX9_row 26 = .ok (.aload_n 0, 1) := by decide +kernel
theorem dX9_row_27 : decode cX9_row 27 = .ok (.bipush (-6), 2) := by decide +kernel
theorem dX9_row_29 : decode cX9_row 29 = .ok (.invokevirtual 72, 3) := by decide +kernel
theorem dX9_row_32 : decode cX9_row 32 = .ok (.ireturn, 1) := by decide +kernel
theorem dX9_row_33 : decode cX9_row 33 = .ok (.aload_n 0, 1) := by decide +kernel
theorem dX9_row_34 : decode cX9_row 34 = .ok (.getfield 61, 3) := by decide +kernel
theorem dX9_row_37 : decode cX9_row 37 = .ok (.aload_n 0, 1) := by decide +kernel
theorem dX9_row_38 : decode cX9_row 38 = .ok (.getfield 65, 3) := by decide +kernel
theorem dX9_row_41 : decode cX9_row 41 = .ok (.iload_n 1, 1) := by decide +kernel
theorem dX9_row_42 : decode cX9_row 42 = .ok (.iastore, 1) := by decide +kernel
theorem dX9_row_43 : decode cX9_row 43 = .ok (.aload_n 0, 1) := by decide +kernel
theorem dX9_row_44 : decode cX9_row 44 = .ok (.dup, 1) := by decide +kernel
theorem dX9_row_45 : decode cX9_row 45 = .ok (.getfield 65, 3) := by decide +kernel
theorem dX9_row_48 : decode cX9_row 48 = .ok (.iconst 1, 1) := by decide +kernel
theorem dX9_row_49 : decode cX9_row 49 = .ok (.iadd, 1) := by decide +kernel
theorem dX9_row_50 : decode cX9_row 50 = .ok (.putfield 65, 3) := by decide +kernel
theorem dX9_row_53 : decode cX9_row 53 = .ok (.aload_n 0, 1) := by decide +kernel
theorem dX9_row_54 : decode cX9_row 54 = .ok (.getfield 65, 3) := by decide +kernel
theorem dX9_row_57 : decode cX9_row 57 = .ok (.ireturn, 1) := by decide +kernel
theorem dX9_judge_0 : decode cX9_judge 0 = .ok (.aload_n 0, 1) := by decide +kernel
theorem dX9_judge_1 : decode cX9_judge 1 = .ok (.getfield 19, 3) := by decide +kernel
theorem dX9_judge_4 : decode cX9_judge 4 = .ok (.iload_n 1, 1) := by decide +kernel
theorem dX9_judge_5 : decode cX9_judge 5 = .ok (.invokevirtual 97, 3) := by decide +kernel
theorem dX9_judge_8 : decode cX9_judge 8 = .ok (.ifCond .ne 9, 3) := by decide +kernel
theorem dX9_judge_11 : decode cX9_judge 11 = .ok (.aload_n 0, 1) := by decide +kernel
theorem dX9_judge_12 : decode cX9_judge 12 = .ok (.iconst (-1), 1) := by decide +kernel
theorem dX9_judge_13 : decode cX9_judge 13 = .ok (.invokevirtual 72, 3) := by decide +kernel
theorem dX9_judge_16 : decode cX9_judge 16 = .ok (.ireturn, 1) := by decide +kernel
theorem dX9_judge_17 : decode cX9_judge 17 = .ok (.aload_n 0, 1) := by decide +kernel
theorem dX9_judge_18 : decode cX9_judge 18 = .ok (.aload_n 0, 1) := by decide +kernel
theorem dX9_judge_19 : decode cX9_judge 19 = .ok (.getfield 19, 3) := by decide +kernel
theorem dX9_judge_22 : decode cX9_judge 22 = .ok (.getfield 101, 3) := by decide +kernel
theorem dX9_judge_25 : decode cX9_judge 25 = .ok (.iload_n 1, 1) := by decide +kernel
theorem dX9_judge_26 : decode cX9_judge 26 = .ok (.aaload, 1) := by decide +kernel
theorem dX9_judge_27 : decode cX9_judge 27 = .ok (.getfield 110, 3) := by decide +kernel
theorem dX9_judge_30 : decode cX9_judge 30 = .ok (.invokevirtual 282, 3) := by decide +kernel
theorem dX9_judge_33 : decode cX9_judge 33 = .ok (.istore_n 2, 1) := by decide +kernel
theorem dX9_judge_34 : decode cX9_judge 34 = .ok (.aload_n 0, 1) := by decide +kernel
theorem dX9_judge_35 : decode cX9_judge 35 = .ok (.iconst 0, 1) := by decide +kernel
theorem dX9_judge_36 : decode cX9_judge 36 = .ok (.putfield 65, 3) := by decide +kernel
theorem dX9_judge_39 : decode cX9_judge 39 = .ok (.iload_n 2, 1) := by decide +kernel
theorem dX9_judge_40 : decode cX9_judge 40 = .ok (.ireturn, 1) := by decide +kernel
theorem dX9_image_0 : decode cX9_image 0 = .ok (.aload_n 0, 1) := by decide +kernel
theorem dX9_image_1 : decode cX9_image 1 = .ok (.getfield 26, 3) := by decide +kernel
theorem dX9_image_4 : decode cX9_image 4 = .ok (.aload_n 0, 1) := by decide +kernel
theorem dX9_image_5 : decode cX9_image 5 = .ok (.getfield 19, 3) := by decide +kernel
theorem dX9_image_8 : decode cX9_image 8 = .ok (.invokevirtual 83, 3) := by decide +kernel
theorem dX9_image_11 : decode cX9_image 11 = .ok (.aload_n 0, 1) := by decide +kernel
theorem dX9_image_12 : decode cX9_image 12 = .ok (.iconst 1, 1) := by decide +kernel
theorem dX9_image_13 : decode cX9_image 13 = .ok (.putfield 29, 3) := by decide +kernel
theorem dX9_image_16 : decode cX9_image 16 = .ok (.aload_n 0, 1) := by decide +kernel
theorem dX9_image_17 : decode cX9_image 17 = .ok (.getfield 19, 3) := by decide +kernel
theorem dX9_image_20 : decode cX9_image 20 = .ok (.invokevirtual 285, 3) := by decide +kernel
theorem dX9_image_23 : decode cX9_image 23 = .ok (.ireturn, 1) := by decide +kernel
theorem dX9_on_0 : decode cX9_on 0 = .ok (.aload_n 0, 1) := by decide +kernel
theorem dX9_on_1 : decode cX9_on 1 = .ok (.getfield 29, 3) := by decide +kernel
theorem dX9_on_4 : decode cX9_on 4 = .ok (.ifCond .ne 10, 3) := by decide +kernel
theorem dX9_on_7 : decode cX9_on 7 = .ok (.aload_n 0, 1) := by decide +kernel
theorem dX9_on_8 : decode cX9_on 8 = .ok (.bipush (-3), 2) := by decide +kernel
theorem dX9_on_10 : decode cX9_on 10 = .ok (.invokevirtual 72, 3) := by decide +kernel
theorem dX9_on_13 : decode cX9_on 13 = .ok (.ireturn, 1) := by decide +kernel
theorem dX9_on_14 : decode cX9_on 14 = .ok (.aload_n 0, 1) := by decide +kernel
theorem dX9_on_15 : decode cX9_on 15 = .ok (.getfield 19, 3) := by decide +kernel
theorem dX9_on_18 : decode cX9_on 18 = .ok (.aload_n 0, 1) := by decide +kernel
theorem dX9_on_19 : decode cX9_on 19 = .ok (.getfield 26, 3) := by decide +kernel
theorem dX9_on_22 : decode cX9_on 22 = .ok (.invokevirtual 83, 3) := by decide +kernel
theorem dX9_on_25 : decode cX9_on 25 = .ok (.aload_n 0, 1) := by decide +kernel
theorem dX9_on_26 : decode cX9_on 26 = .ok (.getfield 50, 3) := by decide +kernel
theorem dX9_on_29 : decode cX9_on 29 = .ok (.invokevirtual 94, 3) := by decide +kernel
theorem dX9_on_32 : decode cX9_on 32 = .ok (.aload_n 0, 1) := by decide +kernel
theorem dX9_on_33 : decode cX9_on 33 = .ok (.getfield 19, 3) := by decide +kernel
theorem dX9_on_36 : decode cX9_on 36 = .ok (.invokevirtual 285, 3) := by decide +kernel
theorem dX9_on_39 : decode cX9_on 39 = .ok (.ireturn, 1) := by decide +kernel
theorem dX9_count_0 : decode cX9_count 0 = .ok (.iload_n 1, 1) := by decide +kernel
theorem dX9_count_1 : decode cX9_count 1 = .ok (.tableswitch 93 0 6 #[43, 51, 59, 67, 75, 80, 85], 43) := by decide +kernel
theorem dX9_count_44 : decode cX9_count 44 = .ok (.aload_n 0, 1) := by decide +kernel
theorem dX9_count_45 : decode cX9_count 45 = .ok (.getfield 19, 3) := by decide +kernel
theorem dX9_count_48 : decode cX9_count 48 = .ok (.getfield 272, 3) := by decide +kernel
theorem dX9_count_51 : decode cX9_count 51 = .ok (.ireturn, 1) := by decide +kernel
theorem dX9_count_52 : decode cX9_count 52 = .ok (.aload_n 0, 1) := by decide +kernel
theorem dX9_count_53 : decode cX9_count 53 = .ok (.getfield 19, 3) := by decide +kernel
theorem dX9_count_56 : decode cX9_count 56 = .ok (.getfield 288, 3) := by decide +kernel
theorem dX9_count_59 : decode cX9_count 59 = .ok (.ireturn, 1) := by decide +kernel
theorem dX9_count_60 : decode cX9_count 60 = .ok (.aload_n 0, 1) := by decide +kernel
theorem dX9_count_61 : decode cX9_count 61 = .ok (.getfield 19, 3) := by decide +kernel
theorem dX9_count_64 : decode cX9_count 64 = .ok (.getfield 291, 3) := by decide +kernel
theorem dX9_count_67 : decode cX9_count 67 = .ok (.ireturn, 1) := by decide +kernel
theorem dX9_count_68 : decode cX9_count 68 = .ok (.aload_n 0, 1) := by decide +kernel
theorem dX9_count_69 : decode cX9_count 69 = .ok (.getfield 19, 3) := by decide +kernel
theorem dX9_count_72 : decode cX9_count 72 = .ok (.invokevirtual 285, 3) := by decide +kernel
theorem dX9_count_75 : decode cX9_count 75 = .ok (.ireturn, 1) := by decide +kernel
theorem dX9_count_76 : decode cX9_count 76 = .ok (.aload_n 0, 1) := by decide +kernel
theorem dX9_count_77 : decode cX9_count 77 = .ok (.invokevirtual 294, 3) := by decide +kernel
theorem dX9_count_80 : decode cX9_count 80 = .ok (.ireturn, 1) := by decide +kernel
theorem dX9_count_81 : decode cX9_count 81 = .ok (.aload_n 0, 1) := by decide +kernel
theorem dX9_count_82 : decode cX9_count 82 = .ok (.getfield 65, 3) := by decide +kernel
theorem dX9_count_85 : decode cX9_count 85 = .ok (.ireturn, 1) := by decide +kernel
theorem dX9_count_86 : decode cX9_count 86 = .ok (.aload_n 0, 1) := by decide +kernel
theorem dX9_count_87 : decode cX9_count 87 = .ok (.getfield 10, 3) := by decide +kernel
theorem dX9_count_90 : decode cX9_count 90 = .ok (.getfield 297, 3) := by decide +kernel
theorem dX9_count_93 : decode cX9_count 93 = .ok (.ireturn, 1) := by decide +kernel
theorem dX9_count_94 : decode cX9_count 94 = .ok (.iload_n 1, 1) := by decide +kernel
theorem dX9_count_95 : decode cX9_count 95 = .ok (.bipush 11, 2) := by decide +kernel
theorem dX9_count_97 : decode cX9_count 97 = .ok (.if_icmp .lt 21, 3) := by decide +kernel
theorem dX9_count_100 : decode cX9_count 100 = .ok (.iload_n 1, 1) := by decide +kernel
theorem dX9_count_101 : decode cX9_count 101 = .ok (.bipush 16, 2) := by decide +kernel
theorem dX9_count_103 : decode cX9_count 103 = .ok (.if_icmp .gt 15, 3) := by decide +kernel
theorem dX9_count_106 : decode cX9_count 106 = .ok (.aload_n 0, 1) := by decide +kernel
theorem dX9_count_107 : decode cX9_count 107 = .ok (.getfield 69, 3) := by decide +kernel
theorem dX9_count_110 : decode cX9_count 110 = .ok (.iload_n 1, 1) := by decide +kernel
theorem dX9_count_111 : decode cX9_count 111 = .ok (.bipush 10, 2) := by decide +kernel
theorem dX9_count_113 : decode cX9_count 113 = .ok (.isub, 1) := by decide +kernel
theorem dX9_count_114 : decode cX9_count 114 = .ok (.iaload, 1) := by decide +kernel
theorem dX9_count_115 : decode cX9_count 115 = .ok (.goto 5, 3) := by decide +kernel
theorem dX9_count_118 : decode cX9_count 118 = .ok (.bipush (-9), 2) := by decide +kernel
theorem dX9_count_120 : decode cX9_count 120 = .ok (.ireturn, 1) := by decide +kernel
theorem dX9_refuse_0 : decode cX9_refuse 0 = .ok (.iload_n 1, 1) := by decide +kernel
theorem dX9_refuse_1 : decode cX9_refuse 1 = .ok (.ineg, 1) := by decide +kernel
theorem dX9_refuse_2 : decode cX9_refuse 2 = .ok (.istore_n 2, 1) := by decide +kernel
theorem dX9_refuse_3 : decode cX9_refuse 3 = .ok (.iload_n 2, 1) := by decide +kernel
theorem dX9_refuse_4 : decode cX9_refuse 4 = .ok (.iconst 1, 1) := by decide +kernel
theorem dX9_refuse_5 : decode cX9_refuse 5 = .ok (.if_icmp .lt 19, 3) := by decide +kernel
theorem dX9_refuse_8 : decode cX9_refuse 8 = .ok (.iload_n 2, 1) := by decide +kernel
theorem dX9_refuse_9 : decode cX9_refuse 9 = .ok (.bipush 6, 2) := by decide +kernel
theorem dX9_refuse_11 : decode cX9_refuse 11 = .ok (.if_icmp .gt 13, 3) := by decide +kernel
theorem dX9_refuse_14 : decode cX9_refuse 14 = .ok (.aload_n 0, 1) := by decide +kernel
theorem dX9_refuse_15 : decode cX9_refuse 15 = .ok (.getfield 69, 3) := by decide +kernel
theorem dX9_refuse_18 : decode cX9_refuse 18 = .ok (.iload_n 2, 1) := by decide +kernel
theorem dX9_refuse_19 : decode cX9_refuse 19 = .ok (.dup2, 1) := by decide +kernel
theorem dX9_refuse_20 : decode cX9_refuse 20 = .ok (.iaload, 1) := by decide +kernel
theorem dX9_refuse_21 : decode cX9_refuse 21 = .ok (.iconst 1, 1) := by decide +kernel
theorem dX9_refuse_22 : decode cX9_refuse 22 = .ok (.iadd, 1) := by decide +kernel
theorem dX9_refuse_23 : decode cX9_refuse 23 = .ok (.iastore, 1) := by decide +kernel
theorem dX9_refuse_24 : decode cX9_refuse 24 = .ok (.iload_n 1, 1) := by decide +kernel
theorem dX9_refuse_25 : decode cX9_refuse 25 = .ok (.ireturn, 1) := by decide +kernel
theorem dX9_refusalOfTime_0 : decode cX9_refusalOfTime 0 = .ok (.aload_n 0, 1) := by decide +kernel
theorem dX9_refusalOfTime_1 : decode cX9_refusalOfTime 1 = .ok (.getfield 19, 3) := by decide +kernel
theorem dX9_refusalOfTime_4 : decode cX9_refusalOfTime 4 = .ok (.iload_n 1, 1) := by decide +kernel
theorem dX9_refusalOfTime_5 : decode cX9_refusalOfTime 5 = .ok (.invokevirtual 150, 3) := by decide +kernel
theorem dX9_refusalOfTime_8 : decode cX9_refusalOfTime 8 = .ok (.ifCond .ne 5, 3) := by decide +kernel
theorem dX9_refusalOfTime_11 : decode cX9_refusalOfTime 11 = .ok (.iconst (-1), 1) := by decide +kernel
theorem dX9_refusalOfTime_12 : decode cX9_refusalOfTime 12 = .ok (.ireturn, 1) := by decide +kernel
theorem dX9_refusalOfTime_13 : decode cX9_refusalOfTime 13 = .ok (.iload_n 2, 1) := by decide +kernel
theorem dX9_refusalOfTime_14 : decode cX9_refusalOfTime 14 = .ok (.iconst 1, 1) := by decide +kernel
theorem dX9_refusalOfTime_15 : decode cX9_refusalOfTime 15 = .ok (.if_icmp .ge 6, 3) := by decide +kernel
theorem dX9_refusalOfTime_18 : decode cX9_refusalOfTime 18 = .ok (.bipush (-4), 2) := by decide +kernel
theorem dX9_refusalOfTime_20 : decode cX9_refusalOfTime 20 = .ok (.ireturn, 1) := by decide +kernel
theorem dX9_refusalOfTime_21 : decode cX9_refusalOfTime 21 = .ok (.iload_n 2, 1) := by decide +kernel
theorem dX9_refusalOfTime_22 : decode cX9_refusalOfTime 22 = .ok (.sipush 600, 3) := by decide +kernel
theorem dX9_refusalOfTime_25 : decode cX9_refusalOfTime 25 = .ok (.if_icmp .le 8, 3) := by decide +kernel
theorem dX9_refusalOfTime_28 : decode cX9_refusalOfTime 28 = .ok (.bipush (-6), 2) := by decide +kernel
theorem dX9_refusalOfTime_30 : decode cX9_refusalOfTime 30 = .ok (.goto 4, 3) := by decide +kernel
theorem dX9_refusalOfTime_33 : decode cX9_refusalOfTime 33 = .ok (.iconst 0, 1) := by decide +kernel
theorem dX9_refusalOfTime_34 : decode cX9_refusalOfTime 34 = .ok (.ireturn, 1) := by decide +kernel
theorem dX9_refusalOfParts_0 : decode cX9_refusalOfParts 0 = .ok (.aload_n 0, 1) := by decide +kernel
theorem dX9_refusalOfParts_1 : decode cX9_refusalOfParts 1 = .ok (.getfield 19, 3) := by decide +kernel
theorem dX9_refusalOfParts_4 : decode cX9_refusalOfParts 4 = .ok (.iload_n 1, 1) := by decide +kernel
theorem dX9_refusalOfParts_5 : decode cX9_refusalOfParts 5 = .ok (.invokevirtual 97, 3) := by decide +kernel
theorem dX9_refusalOfParts_8 : decode cX9_refusalOfParts 8 = .ok (.ifCond .ne 5, 3) := by decide +kernel
theorem dX9_refusalOfParts_11 : decode cX9_refusalOfParts 11 = .ok (.iconst (-1), 1) := by decide +kernel
theorem dX9_refusalOfParts_12 : decode cX9_refusalOfParts 12 = .ok (.ireturn, 1) := by decide +kernel
theorem dX9_refusalOfParts_13 : decode cX9_refusalOfParts 13 = .ok (.iload_n 2, 1) := by decide +kernel
theorem dX9_refusalOfParts_14 : decode cX9_refusalOfParts 14 = .ok (.ifCond .lt 8, 3) := by decide +kernel
theorem dX9_refusalOfParts_17 : decode cX9_refusalOfParts 17 = .ok (.iload_n 2, 1) := by decide +kernel
theorem dX9_refusalOfParts_18 : decode cX9_refusalOfParts 18 = .ok (.iconst 1, 1) := by decide +kernel
theorem dX9_refusalOfParts_19 : decode cX9_refusalOfParts 19 = .ok (.if_icmp .le 6, 3) := by decide +kernel
theorem dX9_refusalOfParts_22 : decode cX9_refusalOfParts 22 = .ok (.bipush (-2), 2) := by decide +kernel
theorem dX9_refusalOfParts_24 : decode cX9_refusalOfParts 24 = .ok (.ireturn, 1) := by decide +kernel
theorem dX9_refusalOfParts_25 : decode cX9_refusalOfParts 25 = .ok (.aload_n 0, 1) := by decide +kernel
theorem dX9_refusalOfParts_26 : decode cX9_refusalOfParts 26 = .ok (.getfield 19, 3) := by decide +kernel
theorem dX9_refusalOfParts_29 : decode cX9_refusalOfParts 29 = .ok (.iload_n 1, 1) := by decide +kernel
theorem dX9_refusalOfParts_30 : decode cX9_refusalOfParts 30 = .ok (.invokevirtual 116, 3) := by decide +kernel
theorem dX9_refusalOfParts_33 : decode cX9_refusalOfParts 33 = .ok (.ifCond .ne 8, 3) := by decide +kernel
theorem dX9_refusalOfParts_36 : decode cX9_refusalOfParts 36 = .ok (.bipush (-3), 2) := by decide +kernel
theorem dX9_refusalOfParts_38 : decode cX9_refusalOfParts 38 = .ok (.goto 4, 3) := by decide +kernel
theorem dX9_refusalOfParts_41 : decode cX9_refusalOfParts 41 = .ok (.iconst 0, 1) := by decide +kernel
theorem dX9_refusalOfParts_42 : decode cX9_refusalOfParts 42 = .ok (.ireturn, 1) := by decide +kernel
theorem dX9_refusalOfChance_0 : decode cX9_refusalOfChance 0 = .ok (.aload_n 0, 1) := by decide +kernel
theorem dX9_refusalOfChance_1 : decode cX9_refusalOfChance 1 = .ok (.getfield 19, 3) := by decide +kernel
theorem dX9_refusalOfChance_4 : decode cX9_refusalOfChance 4 = .ok (.iload_n 1, 1) := by decide +kernel
theorem dX9_refusalOfChance_5 : decode cX9_refusalOfChance 5 = .ok (.invokevirtual 97, 3) := by decide +kernel
theorem dX9_refusalOfChance_8 : decode cX9_refusalOfChance 8 = .ok (.ifCond .ne 5, 3) := by decide +kernel
theorem dX9_refusalOfChance_11 : decode cX9_refusalOfChance 11 = .ok (.iconst (-1), 1) := by decide +kernel
theorem dX9_refusalOfChance_12 : decode cX9_refusalOfChance 12 = .ok (.ireturn, 1) := by decide +kernel
theorem dX9_refusalOfChance_13 : decode cX9_refusalOfChance 13 = .ok (.iload_n 3, 1) := by decide +kernel
theorem dX9_refusalOfChance_14 : decode cX9_refusalOfChance 14 = .ok (.ifCond .lt 19, 3) := by decide +kernel
theorem dX9_refusalOfChance_17 : decode cX9_refusalOfChance 17 = .ok (.iload_n 3, 1) := by decide +kernel
theorem dX9_refusalOfChance_18 : decode cX9_refusalOfChance 18 = .ok (.iconst 1, 1) := by decide +kernel
theorem dX9_refusalOfChance_19 : decode cX9_refusalOfChance 19 = .ok (.if_icmp .gt 14, 3) := by decide +kernel
theorem dX9_refusalOfChance_22 : decode cX9_refusalOfChance 22 = .ok (.iload 4, 2) := by decide +kernel
theorem dX9_refusalOfChance_24 : decode cX9_refusalOfChance 24 = .ok (.ifCond .lt 9, 3) := by decide +kernel
theorem dX9_refusalOfChance_27 : decode cX9_refusalOfChance 27 = .ok (.iload 4, 2) := by decide +kernel
theorem dX9_refusalOfChance_29 : decode cX9_refusalOfChance 29 = .ok (.iconst 1, 1) := by decide +kernel
theorem dX9_refusalOfChance_30 : decode cX9_refusalOfChance 30 = .ok (.if_icmp .le 6, 3) := by decide +kernel
theorem dX9_refusalOfChance_33 : decode cX9_refusalOfChance 33 = .ok (.bipush (-2), 2) := by decide +kernel
theorem dX9_refusalOfChance_35 : decode cX9_refusalOfChance 35 = .ok (.ireturn, 1) := by decide +kernel
theorem dX9_refusalOfChance_36 : decode cX9_refusalOfChance 36 = .ok (.iload_n 2, 1) := by decide +kernel
theorem dX9_refusalOfChance_37 : decode cX9_refusalOfChance 37 = .ok (.ifCond .ge 6, 3) := by decide +kernel
theorem dX9_refusalOfChance_40 : decode cX9_refusalOfChance 40 = .ok (.bipush (-4), 2) := by decide +kernel
theorem dX9_refusalOfChance_42 : decode cX9_refusalOfChance 42 = .ok (.ireturn, 1) := by decide +kernel
theorem dX9_refusalOfChance_43 : decode cX9_refusalOfChance 43 = .ok (.iload_n 2, 1) := by decide +kernel
theorem dX9_refusalOfChance_44 : decode cX9_refusalOfChance 44 = .ok (.bipush 100, 2) := by decide +kernel
theorem dX9_refusalOfChance_46 : decode cX9_refusalOfChance 46 = .ok (.if_icmp .gt 16, 3) := by decide +kernel
theorem dX9_refusalOfChance_49 : decode cX9_refusalOfChance 49 = .ok (.aload_n 0, 1) := by decide +kernel
theorem dX9_refusalOfChance_50 : decode cX9_refusalOfChance 50 = .ok (.getfield 19, 3) := by decide +kernel
theorem dX9_refusalOfChance_53 : decode cX9_refusalOfChance 53 = .ok (.iload_n 1, 1) := by decide +kernel
theorem dX9_refusalOfChance_54 : decode cX9_refusalOfChance 54 = .ok (.invokevirtual 300, 3) := by decide +kernel
theorem dX9_refusalOfChance_57 : decode cX9_refusalOfChance 57 = .ok (.bipush 9, 2) := by decide +kernel
theorem dX9_refusalOfChance_59 : decode cX9_refusalOfChance 59 = .ok (.if_icmp .le 6, 3) := by decide +kernel
theorem dX9_refusalOfChance_62 : decode cX9_refusalOfChance 62 = .ok (.bipush (-6), 2) := by decide +kernel
theorem dX9_refusalOfChance_64 : decode cX9_refusalOfChance 64 = .ok (.ireturn, 1) := by decide +kernel
theorem dX9_refusalOfChance_65 : decode cX9_refusalOfChance 65 = .ok (.aload_n 0, 1) := by decide +kernel
theorem dX9_refusalOfChance_66 : decode cX9_refusalOfChance 66 = .ok (.getfield 19, 3) := by decide +kernel
theorem dX9_refusalOfChance_69 : decode cX9_refusalOfChance 69 = .ok (.iload_n 1, 1) := by decide +kernel
theorem dX9_refusalOfChance_70 : decode cX9_refusalOfChance 70 = .ok (.invokevirtual 116, 3) := by decide +kernel
theorem dX9_refusalOfChance_73 : decode cX9_refusalOfChance 73 = .ok (.ifCond .ne 8, 3) := by decide +kernel
theorem dX9_refusalOfChance_76 : decode cX9_refusalOfChance 76 = .ok (.bipush (-3), 2) := by decide +kernel
theorem dX9_refusalOfChance_78 : decode cX9_refusalOfChance 78 = .ok (.goto 4, 3) := by decide +kernel
theorem dX9_refusalOfChance_81 : decode cX9_refusalOfChance 81 = .ok (.iconst 0, 1) := by decide +kernel
theorem dX9_refusalOfChance_82 : decode cX9_refusalOfChance 82 = .ok (.ireturn, 1) := by decide +kernel
theorem dX9_gatherParts_0 : decode cX9_gatherParts 0 = .ok (.aload_n 0, 1) := by decide +kernel
theorem dX9_gatherParts_1 : decode cX9_gatherParts 1 = .ok (.getfield 36, 3) := by decide +kernel
theorem dX9_gatherParts_4 : decode cX9_gatherParts 4 = .ok (.aload_n 0, 1) := by decide +kernel
theorem dX9_gatherParts_5 : decode cX9_gatherParts 5 = .ok (.getfield 19, 3) := by decide +kernel
theorem dX9_gatherParts_8 : decode cX9_gatherParts 8 = .ok (.getfield 122, 3) := by decide +kernel
theorem dX9_gatherParts_11 : decode cX9_gatherParts 11 = .ok (.iload_n 1, 1) := by decide +kernel
theorem dX9_gatherParts_12 : decode cX9_gatherParts 12 = .ok (.aaload, 1) := by decide +kernel
theorem dX9_gatherParts_13 : decode cX9_gatherParts 13 = .ok (.invokevirtual 245, 3) := by decide +kernel
theorem dX9_gatherParts_16 : decode cX9_gatherParts 16 = .ok (.iconst 0, 1) := by decide +kernel
theorem dX9_gatherParts_17 : decode cX9_gatherParts 17 = .ok (.istore_n 2, 1) := by decide +kernel
theorem dX9_gatherParts_18 : decode cX9_gatherParts 18 = .ok (.iload_n 2, 1) := by decide +kernel
theorem dX9_gatherParts_19 : decode cX9_gatherParts 19 = .ok (.bipush 24, 2) := by decide +kernel
theorem dX9_gatherParts_21 : decode cX9_gatherParts 21 = .ok (.if_icmp .ge 69, 3) := by decide +kernel
theorem dX9_gatherParts_24 : decode cX9_gatherParts 24 = .ok (.aload_n 0, 1) := by decide +kernel
theorem dX9_gatherParts_25 : decode cX9_gatherParts 25 = .ok (.getfield 19, 3) := by decide +kernel
theorem dX9_gatherParts_28 : decode cX9_gatherParts 28 = .ok (.getfield 153, 3) := by decide +kernel
theorem dX9_gatherParts_31 : decode cX9_gatherParts 31 = .ok (.iload_n 2, 1) := by decide +kernel
theorem dX9_gatherParts_32 : decode cX9_gatherParts 32 = .ok (.aaload, 1) := by decide +kernel
theorem dX9_gatherParts_33 : decode cX9_gatherParts 33 = .ok (.astore_n 3, 1) := by decide +kernel
theorem dX9_gatherParts_34 : decode cX9_gatherParts 34 = .ok (.aload_n 0, 1) := by decide +kernel
theorem dX9_gatherParts_35 : decode cX9_gatherParts 35 = .ok (.getfield 19, 3) := by decide +kernel
theorem dX9_gatherParts_38 : decode cX9_gatherParts 38 = .ok (.iload_n 2, 1) := by decide +kernel
theorem dX9_gatherParts_39 : decode cX9_gatherParts 39 = .ok (.invokevirtual 150, 3) := by decide +kernel
theorem dX9_gatherParts_42 : decode cX9_gatherParts 42 = .ok (.ifCond .eq 42, 3) := by decide +kernel
theorem dX9_gatherParts_45 : decode cX9_gatherParts 45 = .ok (.aload_n 3, 1) := by decide +kernel
theorem dX9_gatherParts_46 : decode cX9_gatherParts 46 = .ok (.getfield 166, 3) := by decide +kernel
theorem dX9_gatherParts_49 : decode cX9_gatherParts 49 = .ok (.iload_n 1, 1) := by decide +kernel
theorem dX9_gatherParts_50 : decode cX9_gatherParts 50 = .ok (.if_icmp .ne 34, 3) := by decide +kernel
theorem dX9_gatherParts_53 : decode cX9_gatherParts 53 = .ok (.aload_n 0, 1) := by decide +kernel
theorem dX9_gatherParts_54 : decode cX9_gatherParts 54 = .ok (.getfield 36, 3) := by decide +kernel
theorem dX9_gatherParts_57 : decode cX9_gatherParts 57 = .ok (.aload_n 3, 1) := by decide +kernel
theorem dX9_gatherParts_58 : decode cX9_gatherParts 58 = .ok (.getfield 157, 3) := by decide +kernel
theorem dX9_gatherParts_61 : decode cX9_gatherParts 61 = .ok (.aload_n 0, 1) := by decide +kernel
theorem dX9_gatherParts_62 : decode cX9_gatherParts 62 = .ok (.getfield 19, 3) := by decide +kernel
theorem dX9_gatherParts_65 : decode cX9_gatherParts 65 = .ok (.getfield 101, 3) := by decide +kernel
theorem dX9_gatherParts_68 : decode cX9_gatherParts 68 = .ok (.aload_n 3, 1) := by decide +kernel
theorem dX9_gatherParts_69 : decode cX9_gatherParts 69 = .ok (.getfield 157, 3) := by decide +kernel
theorem dX9_gatherParts_72 : decode cX9_gatherParts 72 = .ok (.aaload, 1) := by decide +kernel
theorem dX9_gatherParts_73 : decode cX9_gatherParts 73 = .ok (.aload_n 3, 1) := by decide +kernel
theorem dX9_gatherParts_74 : decode cX9_gatherParts 74 = .ok (.getfield 162, 3) := by decide +kernel
theorem dX9_gatherParts_77 : decode cX9_gatherParts 77 = .ok (.aload_n 3, 1) := by decide +kernel
theorem dX9_gatherParts_78 : decode cX9_gatherParts 78 = .ok (.getfield 172, 3) := by decide +kernel
theorem dX9_gatherParts_81 : decode cX9_gatherParts 81 = .ok (.invokevirtual 249, 3) := by decide +kernel
theorem dX9_gatherParts_84 : decode cX9_gatherParts 84 = .ok (.iinc 2 1, 3) := by decide +kernel
theorem dX9_gatherParts_87 : decode cX9_gatherParts 87 = .ok (.goto (-69), 3) := by decide +kernel
theorem dX9_gatherParts_90 : decode cX9_gatherParts 90 = .ok (.return_, 1) := by decide +kernel
theorem dX9_worksDone_0 : decode cX9_worksDone 0 = .ok (.iconst 0, 1) := by decide +kernel
theorem dX9_worksDone_1 : decode cX9_worksDone 1 = .ok (.istore_n 1, 1) := by decide +kernel
theorem dX9_worksDone_2 : decode cX9_worksDone 2 = .ok (.iconst 0, 1) := by decide +kernel
theorem dX9_worksDone_3 : decode cX9_worksDone 3 = .ok (.istore_n 2, 1) := by decide +kernel
theorem dX9_worksDone_4 : decode cX9_worksDone 4 = .ok (.iload_n 2, 1) := by decide +kernel
theorem dX9_worksDone_5 : decode cX9_worksDone 5 = .ok (.aload_n 0, 1) := by decide +kernel
theorem dX9_worksDone_6 : decode cX9_worksDone 6 = .ok (.getfield 19, 3) := by decide +kernel
theorem dX9_worksDone_9 : decode cX9_worksDone 9 = .ok (.getfield 291, 3) := by decide +kernel
theorem dX9_worksDone_12 : decode cX9_worksDone 12 = .ok (.if_icmp .ge 27, 3) := by decide +kernel
theorem dX9_worksDone_15 : decode cX9_worksDone 15 = .ok (.aload_n 0, 1) := by decide +kernel
theorem dX9_worksDone_16 : decode cX9_worksDone 16 = .ok (.iload_n 2, 1) := by decide +kernel
theorem dX9_worksDone_17 : decode cX9_worksDone 17 = .ok (.invokevirtual 200, 3) := by decide +kernel
theorem dX9_worksDone_20 : decode cX9_worksDone 20 = .ok (.aload_n 0, 1) := by decide +kernel
theorem dX9_worksDone_21 : decode cX9_worksDone 21 = .ok (.getfield 36, 3) := by decide +kernel
theorem dX9_worksDone_24 : decode cX9_worksDone 24 = .ok (.invokevirtual 253, 3) := by decide +kernel
theorem dX9_worksDone_27 : decode cX9_worksDone 27 = .ok (.ifCond .eq 6, 3) := by decide +kernel
theorem dX9_worksDone_30 : decode cX9_worksDone 30 = .ok (.iinc 1 1, 3) := by decide +kernel
theorem dX9_worksDone_33 : decode cX9_worksDone 33 = .ok (.iinc 2 1, 3) := by decide +kernel
theorem dX9_worksDone_36 : decode cX9_worksDone 36 = .ok (.goto (-32), 3) := by decide +kernel
theorem dX9_worksDone_39 : decode cX9_worksDone 39 = .ok (.iload_n 1, 1) := by decide +kernel
theorem dX9_worksDone_40 : decode cX9_worksDone 40 = .ok (.ireturn, 1) := by decide +kernel
theorem dX9_meanLeft_0 : decode cX9_meanLeft 0 = .ok (.aload_n 0, 1) := by decide +kernel
theorem dX9_meanLeft_1 : decode cX9_meanLeft 1 = .ok (.getfield 19, 3) := by decide +kernel
theorem dX9_meanLeft_4 : decode cX9_meanLeft 4 = .ok (.iload_n 1, 1) := by decide +kernel
theorem dX9_meanLeft_5 : decode cX9_meanLeft 5 = .ok (.invokevirtual 303, 3) := by decide +kernel
theorem dX9_meanLeft_8 : decode cX9_meanLeft 8 = .ok (.i2l, 1) := by decide +kernel
theorem dX9_meanLeft_9 : decode cX9_meanLeft 9 = .ok (.lstore 4, 2) := by decide +kernel
theorem dX9_meanLeft_11 : decode cX9_meanLeft 11 = .ok (.aload_n 0, 1) := by decide +kernel
theorem dX9_meanLeft_12 : decode cX9_meanLeft 12 = .ok (.getfield 19, 3) := by decide +kernel
theorem dX9_meanLeft_15 : decode cX9_meanLeft 15 = .ok (.iload_n 1, 1) := by decide +kernel
theorem dX9_meanLeft_16 : decode cX9_meanLeft 16 = .ok (.invokevirtual 113, 3) := by decide +kernel
theorem dX9_meanLeft_19 : decode cX9_meanLeft 19 = .ok (.i2l, 1) := by decide +kernel
theorem dX9_meanLeft_20 : decode cX9_meanLeft 20 = .ok (.lload 4, 2) := by decide +kernel
theorem dX9_meanLeft_22 : decode cX9_meanLeft 22 = .ok (.lsub, 1) := by decide +kernel
theorem dX9_meanLeft_23 : decode cX9_meanLeft 23 = .ok (.lstore 6, 2) := by decide +kernel
theorem dX9_meanLeft_25 : decode cX9_meanLeft 25 = .ok (.ldc2_w 306, 3) := by decide +kernel
theorem dX9_meanLeft_28 : decode cX9_meanLeft 28 = .ok (.lload 6, 2) := by decide +kernel
theorem dX9_meanLeft_30 : decode cX9_meanLeft 30 = .ok (.lmul, 1) := by decide +kernel
theorem dX9_meanLeft_31 : decode cX9_meanLeft 31 = .ok (.bipush 100, 2) := by decide +kernel
theorem dX9_meanLeft_33 : decode cX9_meanLeft 33 = .ok (.iload_n 2, 1) := by decide +kernel
theorem dX9_meanLeft_34 : decode cX9_meanLeft 34 = .ok (.isub, 1) := by decide +kernel
theorem dX9_meanLeft_35 : decode cX9_meanLeft 35 = .ok (.i2l, 1) := by decide +kernel
theorem dX9_meanLeft_36 : decode cX9_meanLeft 36 = .ok (.lload 4, 2) := by decide +kernel
theorem dX9_meanLeft_38 : decode cX9_meanLeft 38 = .ok (.lmul, 1) := by decide +kernel
theorem dX9_meanLeft_39 : decode cX9_meanLeft 39 = .ok (.ladd, 1) := by decide +kernel
theorem dX9_meanLeft_40 : decode cX9_meanLeft 40 = .ok (.lstore 8, 2) := by decide +kernel
theorem dX9_meanLeft_42 : decode cX9_meanLeft 42 = .ok (.lconst 1, 1) := by decide +kernel
theorem dX9_meanLeft_43 : decode cX9_meanLeft 43 = .ok (.lload 8, 2) := by decide +kernel
theorem dX9_meanLeft_45 : decode cX9_meanLeft 45 = .ok (.ldc2_w 306, 3) := by decide +kernel
theorem dX9_meanLeft_48 : decode cX9_meanLeft 48 = .ok (.invokestatic 308, 3) := by decide +kernel
theorem dX9_meanLeft_51 : decode cX9_meanLeft 51 = .ok (.invokestatic 312, 3) := by decide +kernel
theorem dX9_meanLeft_54 : decode cX9_meanLeft 54 = .ok (.lstore 10, 2) := by decide +kernel
theorem dX9_meanLeft_56 : decode cX9_meanLeft 56 = .ok (.iload_n 3, 1) := by decide +kernel
theorem dX9_meanLeft_57 : decode cX9_meanLeft 57 = .ok (.ifCond .ne 11, 3) := by decide +kernel
theorem dX9_meanLeft_60 : decode cX9_meanLeft 60 = .ok (.lload 8, 2) := by decide +kernel
theorem dX9_meanLeft_62 : decode cX9_meanLeft 62 = .ok (.lload 10, 2) := by decide +kernel
theorem dX9_meanLeft_64 : decode cX9_meanLeft 64 = .ok (.ldiv, 1) := by decide +kernel
theorem dX9_meanLeft_65 : decode cX9_meanLeft 65 = .ok (.goto 9, 3) := by decide +kernel
theorem dX9_meanLeft_68 : decode cX9_meanLeft 68 = .ok (.ldc2_w 306, 3) := by decide +kernel
theorem dX9_meanLeft_71 : decode cX9_meanLeft 71 = .ok (.lload 10, 2) := by decide +kernel
theorem dX9_meanLeft_73 : decode cX9_meanLeft 73 = .ok (.ldiv, 1) := by decide +kernel
theorem dX9_meanLeft_74 : decode cX9_meanLeft 74 = .ok (.lreturn, 1) := by decide +kernel
theorem dX9_allLeft_0 : decode cX9_allLeft 0 = .ok (.lconst 1, 1) := by decide +kernel
theorem dX9_allLeft_1 : decode cX9_allLeft 1 = .ok (.bipush 100, 2) := by decide +kernel
theorem dX9_allLeft_3 : decode cX9_allLeft 3 = .ok (.iload_n 2, 1) := by decide +kernel
theorem dX9_allLeft_4 : decode cX9_allLeft 4 = .ok (.isub, 1) := by decide +kernel
theorem dX9_allLeft_5 : decode cX9_allLeft 5 = .ok (.i2l, 1) := by decide +kernel
theorem dX9_allLeft_6 : decode cX9_allLeft 6 = .ok (.ldc2_w 306, 3) := by decide +kernel
theorem dX9_allLeft_9 : decode cX9_allLeft 9 = .ok (.invokestatic 308, 3) := by decide +kernel
theorem dX9_allLeft_12 : decode cX9_allLeft 12 = .ok (.invokestatic 312, 3) := by decide +kernel
theorem dX9_allLeft_15 : decode cX9_allLeft 15 = .ok (.lstore 4, 2) := by decide +kernel
theorem dX9_allLeft_17 : decode cX9_allLeft 17 = .ok (.iload_n 3, 1) := by decide +kernel
theorem dX9_allLeft_18 : decode cX9_allLeft 18 = .ok (.ifCond .ne 14, 3) := by decide +kernel
theorem dX9_allLeft_21 : decode cX9_allLeft 21 = .ok (.bipush 100, 2) := by decide +kernel
theorem dX9_allLeft_23 : decode cX9_allLeft 23 = .ok (.iload_n 2, 1) := by decide +kernel
theorem dX9_allLeft_24 : decode cX9_allLeft 24 = .ok (.isub, 1) := by decide +kernel
theorem dX9_allLeft_25 : decode cX9_allLeft 25 = .ok (.i2l, 1) := by decide +kernel
theorem dX9_allLeft_26 : decode cX9_allLeft 26 = .ok (.lload 4, 2) := by decide +kernel
theorem dX9_allLeft_28 : decode cX9_allLeft 28 = .ok (.ldiv, 1) := by decide +kernel
theorem dX9_allLeft_29 : decode cX9_allLeft 29 = .ok (.goto 9, 3) := by decide +kernel
theorem dX9_allLeft_32 : decode cX9_allLeft 32 = .ok (.ldc2_w 306, 3) := by decide +kernel
theorem dX9_allLeft_35 : decode cX9_allLeft 35 = .ok (.lload 4, 2) := by decide +kernel
theorem dX9_allLeft_37 : decode cX9_allLeft 37 = .ok (.ldiv, 1) := by decide +kernel
theorem dX9_allLeft_38 : decode cX9_allLeft 38 = .ok (.lstore 6, 2) := by decide +kernel
theorem dX9_allLeft_40 : decode cX9_allLeft 40 = .ok (.aload_n 0, 1) := by decide +kernel
theorem dX9_allLeft_41 : decode cX9_allLeft 41 = .ok (.getfield 19, 3) := by decide +kernel
theorem dX9_allLeft_44 : decode cX9_allLeft 44 = .ok (.iload_n 1, 1) := by decide +kernel
theorem dX9_allLeft_45 : decode cX9_allLeft 45 = .ok (.invokevirtual 300, 3) := by decide +kernel
theorem dX9_allLeft_48 : decode cX9_allLeft 48 = .ok (.istore 8, 2) := by decide +kernel
theorem dX9_allLeft_50 : decode cX9_allLeft 50 = .ok (.lconst 1, 1) := by decide +kernel
theorem dX9_allLeft_51 : decode cX9_allLeft 51 = .ok (.lstore 9, 2) := by decide +kernel
theorem dX9_allLeft_53 : decode cX9_allLeft 53 = .ok (.iconst 0, 1) := by decide +kernel
theorem dX9_allLeft_54 : decode cX9_allLeft 54 = .ok (.istore 11, 2) := by decide +kernel
theorem dX9_allLeft_56 : decode cX9_allLeft 56 = .ok (.iload 11, 2) := by decide +kernel
theorem dX9_allLeft_58 : decode cX9_allLeft 58 = .ok (.iload 8, 2) := by decide +kernel
theorem dX9_allLeft_60 : decode cX9_allLeft 60 = .ok (.if_icmp .ge 16, 3) := by decide +kernel
theorem dX9_allLeft_63 : decode cX9_allLeft 63 = .ok (.lload 9, 2) := by decide +kernel
theorem dX9_allLeft_65 : decode cX9_allLeft 65 = .ok (.lload 6, 2) := by decide +kernel
theorem dX9_allLeft_67 : decode cX9_allLeft 67 = .ok (.lmul, 1) := by decide +kernel
theorem dX9_allLeft_68 : decode cX9_allLeft 68 = .ok (.lstore 9, 2) := by decide +kernel
theorem dX9_allLeft_70 : decode cX9_allLeft 70 = .ok (.iinc 11 1, 3) := by decide +kernel
theorem dX9_allLeft_73 : decode cX9_allLeft 73 = .ok (.goto (-17), 3) := by decide +kernel
theorem dX9_allLeft_76 : decode cX9_allLeft 76 = .ok (.lload 9, 2) := by decide +kernel
theorem dX9_allLeft_78 : decode cX9_allLeft 78 = .ok (.lreturn, 1) := by decide +kernel
theorem dX9_commonDivisor_0 : decode cX9_commonDivisor 0 = .ok (.lload_n 0, 1) := by decide +kernel
theorem dX9_commonDivisor_1 : decode cX9_commonDivisor 1 = .ok (.lstore 4, 2) := by decide +kernel
theorem dX9_commonDivisor_3 : decode cX9_commonDivisor 3 = .ok (.lload_n 2, 1) := by decide +kernel
theorem dX9_commonDivisor_4 : decode cX9_commonDivisor 4 = .ok (.lstore 6, 2) := by decide +kernel
theorem dX9_commonDivisor_6 : decode cX9_commonDivisor 6 = .ok (.iconst 0, 1) := by decide +kernel
theorem dX9_commonDivisor_7 : decode cX9_commonDivisor 7 = .ok (.istore 8, 2) := by decide +kernel
theorem dX9_commonDivisor_9 : decode cX9_commonDivisor 9 = .ok (.iload 8, 2) := by decide +kernel
theorem dX9_commonDivisor_11 : decode cX9_commonDivisor 11 = .ok (.sipush 200, 3) := by decide +kernel
theorem dX9_commonDivisor_14 : decode cX9_commonDivisor 14 = .ok (.if_icmp .ge 31, 3) := by decide +kernel
theorem dX9_commonDivisor_17 : decode cX9_commonDivisor 17 = .ok (.lload 6, 2) := by decide +kernel
theorem dX9_commonDivisor_19 : decode cX9_commonDivisor 19 = .ok (.lconst 0, 1) := by decide +kernel
theorem dX9_commonDivisor_20 : decode cX9_commonDivisor 20 = .ok (.lcmp, 1) := by decide +kernel
theorem dX9_commonDivisor_21 : decode cX9_commonDivisor 21 = .ok (.ifCond .eq 24, 3) := by decide +kernel
theorem dX9_commonDivisor_24 : decode cX9_commonDivisor 24 = .ok (.lload 4, 2) := by decide +kernel
theorem dX9_commonDivisor_26 : decode cX9_commonDivisor 26 = .ok (.lload 6, 2) := by decide +kernel
theorem dX9_commonDivisor_28 : decode cX9_commonDivisor 28 = .ok (.lrem, 1) := by decide +kernel
theorem dX9_commonDivisor_29 : decode cX9_commonDivisor 29 = .ok (.lstore 9, 2) := by decide +kernel
theorem dX9_commonDivisor_31 : decode cX9_commonDivisor 31 = .ok (.lload 6, 2) := by decide +kernel
theorem dX9_commonDivisor_33 : decode cX9_commonDivisor 33 = .ok (.lstore 4, 2) := by decide +kernel
theorem dX9_commonDivisor_35 : decode cX9_commonDivisor 35 = .ok (.lload 9, 2) := by decide +kernel
theorem dX9_commonDivisor_37 : decode cX9_commonDivisor 37 = .ok (.lstore 6, 2) := by decide +kernel
theorem dX9_commonDivisor_39 : decode cX9_commonDivisor 39 = .ok (.iinc 8 1, 3) := by decide +kernel
theorem dX9_commonDivisor_42 : decode cX9_commonDivisor 42 = .ok (.goto (-33), 3) := by decide +kernel
theorem dX9_commonDivisor_45 : decode cX9_commonDivisor 45 = .ok (.lload 4, 2) := by decide +kernel
theorem dX9_commonDivisor_47 : decode cX9_commonDivisor 47 = .ok (.lreturn, 1) := by decide +kernel
theorem dX9_judged_0 : decode cX9_judged 0 = .ok (.iconst 0, 1) := by decide +kernel
theorem dX9_judged_1 : decode cX9_judged 1 = .ok (.istore_n 2, 1) := by decide +kernel
theorem dX9_judged_2 : decode cX9_judged 2 = .ok (.iconst 0, 1) := by decide +kernel
theorem dX9_judged_3 : decode cX9_judged 3 = .ok (.istore_n 3, 1) := by decide +kernel
theorem dX9_judged_4 : decode cX9_judged 4 = .ok (.iload_n 3, 1) := by decide +kernel
theorem dX9_judged_5 : decode cX9_judged 5 = .ok (.aload_n 0, 1) := by decide +kernel
theorem dX9_judged_6 : decode cX9_judged 6 = .ok (.getfield 65, 3) := by decide +kernel
theorem dX9_judged_9 : decode cX9_judged 9 = .ok (.if_icmp .ge 36, 3) := by decide +kernel
theorem dX9_judged_12 : decode cX9_judged 12 = .ok (.iload_n 2, 1) := by decide +kernel
theorem dX9_judged_13 : decode cX9_judged 13 = .ok (.aload_n 0, 1) := by decide +kernel
theorem dX9_judged_14 : decode cX9_judged 14 = .ok (.getfield 61, 3) := by decide +kernel
theorem dX9_judged_17 : decode cX9_judged 17 = .ok (.iload_n 3, 1) := by decide +kernel
theorem dX9_judged_18 : decode cX9_judged 18 = .ok (.iaload, 1) := by decide +kernel
theorem dX9_judged_19 : decode cX9_judged 19 = .ok (.iadd, 1) := by decide +kernel
theorem dX9_judged_20 : decode cX9_judged 20 = .ok (.istore_n 2, 1) := by decide +kernel
theorem dX9_judged_21 : decode cX9_judged 21 = .ok (.aload_n 0, 1) := by decide +kernel
theorem dX9_judged_22 : decode cX9_judged 22 = .ok (.getfield 61, 3) := by decide +kernel
theorem dX9_judged_25 : decode cX9_judged 25 = .ok (.iload_n 3, 1) := by decide +kernel
theorem dX9_judged_26 : decode cX9_judged 26 = .ok (.iaload, 1) := by decide +kernel
theorem dX9_judged_27 : decode cX9_judged 27 = .ok (.iload_n 1, 1) := by decide +kernel
theorem dX9_judged_28 : decode cX9_judged 28 = .ok (.if_icmp .lt 9, 3) := by decide +kernel
theorem dX9_judged_31 : decode cX9_judged 31 = .ok (.iload_n 2, 1) := by decide +kernel
theorem dX9_judged_32 : decode cX9_judged 32 = .ok (.bipush 12, 2) := by decide +kernel
theorem dX9_judged_34 : decode cX9_judged 34 = .ok (.if_icmp .le 5, 3) := by decide +kernel
theorem dX9_judged_37 : decode cX9_judged 37 = .ok (.iload_n 3, 1) := by decide +kernel
theorem dX9_judged_38 : decode cX9_judged 38 = .ok (.ireturn, 1) := by decide +kernel
theorem dX9_judged_39 : decode cX9_judged 39 = .ok (.iinc 3 1, 3) := by decide +kernel
theorem dX9_judged_42 : decode cX9_judged 42 = .ok (.goto (-38), 3) := by decide +kernel
theorem dX9_judged_45 : decode cX9_judged 45 = .ok (.iload_n 2, 1) := by decide +kernel
theorem dX9_judged_46 : decode cX9_judged 46 = .ok (.bipush 12, 2) := by decide +kernel
theorem dX9_judged_48 : decode cX9_judged 48 = .ok (.if_icmp .ge 10, 3) := by decide +kernel
theorem dX9_judged_51 : decode cX9_judged 51 = .ok (.aload_n 0, 1) := by decide +kernel
theorem dX9_judged_52 : decode cX9_judged 52 = .ok (.getfield 65, 3) := by decide +kernel
theorem dX9_judged_55 : decode cX9_judged 55 = .ok (.goto 5, 3) := by decide +kernel
theorem dX9_judged_58 : decode cX9_judged 58 = .ok (.bipush (-9), 2) := by decide +kernel
theorem dX9_judged_60 : decode cX9_judged 60 = .ok (.ireturn, 1) := by decide +kernel
theorem dJ6_bitCount_0f7a4_0 : decode cJ6_bitCount_0f7a4 0 = .ok (.iload_n 0, 1) := by decide +kernel
theorem dJ6_bitCount_0f7a4_1 : decode cJ6_bitCount_0f7a4 1 = .ok (.iload_n 0, 1) := by decide +kernel
theorem dJ6_bitCount_0f7a4_2 : decode cJ6_bitCount_0f7a4 2 = .ok (.iconst 1, 1) := by decide +kernel
theorem dJ6_bitCount_0f7a4_3 : decode cJ6_bitCount_0f7a4 3 = .ok (.iushr, 1) := by decide +kernel
theorem dJ6_bitCount_0f7a4_4 : decode cJ6_bitCount_0f7a4 4 = .ok (.ldc_w 265, 3) := by decide +kernel
theorem dJ6_bitCount_0f7a4_7 : decode cJ6_bitCount_0f7a4 7 = .ok (.iand, 1) := by decide +kernel
theorem dJ6_bitCount_0f7a4_8 : decode cJ6_bitCount_0f7a4 8 = .ok (.isub, 1) := by decide +kernel
theorem dJ6_bitCount_0f7a4_9 : decode cJ6_bitCount_0f7a4 9 = .ok (.istore_n 0, 1) := by decide +kernel
theorem dJ6_bitCount_0f7a4_10 : decode cJ6_bitCount_0f7a4 10 = .ok (.iload_n 0, 1) := by decide +kernel
theorem dJ6_bitCount_0f7a4_11 : decode cJ6_bitCount_0f7a4 11 = .ok (.ldc_w 266, 3) := by decide +kernel
theorem dJ6_bitCount_0f7a4_14 : decode cJ6_bitCount_0f7a4 14 = .ok (.iand, 1) := by decide +kernel
theorem dJ6_bitCount_0f7a4_15 : decode cJ6_bitCount_0f7a4 15 = .ok (.iload_n 0, 1) := by decide +kernel
theorem dJ6_bitCount_0f7a4_16 : decode cJ6_bitCount_0f7a4 16 = .ok (.iconst 2, 1) := by decide +kernel
theorem dJ6_bitCount_0f7a4_17 : decode cJ6_bitCount_0f7a4 17 = .ok (.iushr, 1) := by decide +kernel
theorem dJ6_bitCount_0f7a4_18 : decode cJ6_bitCount_0f7a4 18 = .ok (.ldc_w 266, 3) := by decide +kernel
theorem dJ6_bitCount_0f7a4_21 : decode cJ6_bitCount_0f7a4 21 = .ok (.iand, 1) := by decide +kernel
theorem dJ6_bitCount_0f7a4_22 : decode cJ6_bitCount_0f7a4 22 = .ok (.iadd, 1) := by decide +kernel
theorem dJ6_bitCount_0f7a4_23 : decode cJ6_bitCount_0f7a4 23 = .ok (.istore_n 0, 1) := by decide +kernel
theorem dJ6_bitCount_0f7a4_24 : decode cJ6_bitCount_0f7a4 24 = .ok (.iload_n 0, 1) := by decide +kernel
theorem dJ6_bitCount_0f7a4_25 : decode cJ6_bitCount_0f7a4 25 = .ok (.iload_n 0, 1) := by decide +kernel
theorem dJ6_bitCount_0f7a4_26 : decode cJ6_bitCount_0f7a4 26 = .ok (.iconst 4, 1) := by decide +kernel
theorem dJ6_bitCount_0f7a4_27 : decode cJ6_bitCount_0f7a4 27 = .ok (.iushr, 1) := by decide +kernel
theorem dJ6_bitCount_0f7a4_28 : decode cJ6_bitCount_0f7a4 28 = .ok (.iadd, 1) := by decide +kernel
theorem dJ6_bitCount_0f7a4_29 : decode cJ6_bitCount_0f7a4 29 = .ok (.ldc_w 267, 3) := by decide +kernel
theorem dJ6_bitCount_0f7a4_32 : decode cJ6_bitCount_0f7a4 32 = .ok (.iand, 1) := by decide +kernel
theorem dJ6_bitCount_0f7a4_33 : decode cJ6_bitCount_0f7a4 33 = .ok (.istore_n 0, 1) := by decide +kernel
theorem dJ6_bitCount_0f7a4_34 : decode cJ6_bitCount_0f7a4 34 = .ok (.iload_n 0, 1) := by decide +kernel
theorem dJ6_bitCount_0f7a4_35 : decode cJ6_bitCount_0f7a4 35 = .ok (.iload_n 0, 1) := by decide +kernel
theorem dJ6_bitCount_0f7a4_36 : decode cJ6_bitCount_0f7a4 36 = .ok (.bipush 8, 2) := by decide +kernel
theorem dJ6_bitCount_0f7a4_38 : decode cJ6_bitCount_0f7a4 38 = .ok (.iushr, 1) := by decide +kernel
theorem dJ6_bitCount_0f7a4_39 : decode cJ6_bitCount_0f7a4 39 = .ok (.iadd, 1) := by decide +kernel
theorem dJ6_bitCount_0f7a4_40 : decode cJ6_bitCount_0f7a4 40 = .ok (.istore_n 0, 1) := by decide +kernel
theorem dJ6_bitCount_0f7a4_41 : decode cJ6_bitCount_0f7a4 41 = .ok (.iload_n 0, 1) := by decide +kernel
theorem dJ6_bitCount_0f7a4_42 : decode cJ6_bitCount_0f7a4 42 = .ok (.iload_n 0, 1) := by decide +kernel
theorem dJ6_bitCount_0f7a4_43 : decode cJ6_bitCount_0f7a4 43 = .ok (.bipush 16, 2) := by decide +kernel
theorem dJ6_bitCount_0f7a4_45 : decode cJ6_bitCount_0f7a4 45 = .ok (.iushr, 1) := by decide +kernel
theorem dJ6_bitCount_0f7a4_46 : decode cJ6_bitCount_0f7a4 46 = .ok (.iadd, 1) := by decide +kernel
theorem dJ6_bitCount_0f7a4_47 : decode cJ6_bitCount_0f7a4 47 = .ok (.istore_n 0, 1) := by decide +kernel
theorem dJ6_bitCount_0f7a4_48 : decode cJ6_bitCount_0f7a4 48 = .ok (.iload_n 0, 1) := by decide +kernel
theorem dJ6_bitCount_0f7a4_49 : decode cJ6_bitCount_0f7a4 49 = .ok (.bipush 63, 2) := by decide +kernel
theorem dJ6_bitCount_0f7a4_51 : decode cJ6_bitCount_0f7a4 51 = .ok (.iand, 1) := by decide +kernel
theorem dJ6_bitCount_0f7a4_52 : decode cJ6_bitCount_0f7a4 52 = .ok (.ireturn, 1) := by decide +kernel
theorem dJ9_max_7cf53_0 : decode cJ9_max_7cf53 0 = .ok (.iload_n 0, 1) := by decide +kernel
theorem dJ9_max_7cf53_1 : decode cJ9_max_7cf53 1 = .ok (.iload_n 1, 1) := by decide +kernel
theorem dJ9_max_7cf53_2 : decode cJ9_max_7cf53 2 = .ok (.if_icmp .lt 7, 3) := by decide +kernel
theorem dJ9_max_7cf53_5 : decode cJ9_max_7cf53 5 = .ok (.iload_n 0, 1) := by decide +kernel
theorem dJ9_max_7cf53_6 : decode cJ9_max_7cf53 6 = .ok (.goto 4, 3) := by decide +kernel
theorem dJ9_max_7cf53_9 : decode cJ9_max_7cf53 9 = .ok (.iload_n 1, 1) := by decide +kernel
theorem dJ9_max_7cf53_10 : decode cJ9_max_7cf53 10 = .ok (.ireturn, 1) := by decide +kernel
theorem dJ9_max_f86c9_0 : decode cJ9_max_f86c9 0 = .ok (.lload_n 0, 1) := by decide +kernel
theorem dJ9_max_f86c9_1 : decode cJ9_max_f86c9 1 = .ok (.lload_n 2, 1) := by decide +kernel
theorem dJ9_max_f86c9_2 : decode cJ9_max_f86c9 2 = .ok (.lcmp, 1) := by decide +kernel
theorem dJ9_max_f86c9_3 : decode cJ9_max_f86c9 3 = .ok (.ifCond .lt 7, 3) := by decide +kernel
theorem dJ9_max_f86c9_6 : decode cJ9_max_f86c9 6 = .ok (.lload_n 0, 1) := by decide +kernel
theorem dJ9_max_f86c9_7 : decode cJ9_max_f86c9 7 = .ok (.goto 4, 3) := by decide +kernel
theorem dJ9_max_f86c9_10 : decode cJ9_max_f86c9 10 = .ok (.lload_n 2, 1) := by decide +kernel
theorem dJ9_max_f86c9_11 : decode cJ9_max_f86c9 11 = .ok (.lreturn, 1) := by decide +kernel
theorem dJ9_min_7cf53_0 : decode cJ9_min_7cf53 0 = .ok (.iload_n 0, 1) := by decide +kernel
theorem dJ9_min_7cf53_1 : decode cJ9_min_7cf53 1 = .ok (.iload_n 1, 1) := by decide +kernel
theorem dJ9_min_7cf53_2 : decode cJ9_min_7cf53 2 = .ok (.if_icmp .gt 7, 3) := by decide +kernel
theorem dJ9_min_7cf53_5 : decode cJ9_min_7cf53 5 = .ok (.iload_n 0, 1) := by decide +kernel
theorem dJ9_min_7cf53_6 : decode cJ9_min_7cf53 6 = .ok (.goto 4, 3) := by decide +kernel
theorem dJ9_min_7cf53_9 : decode cJ9_min_7cf53 9 = .ok (.iload_n 1, 1) := by decide +kernel
theorem dJ9_min_7cf53_10 : decode cJ9_min_7cf53 10 = .ok (.ireturn, 1) := by decide +kernel

