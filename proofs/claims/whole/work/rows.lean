section
-- ===== PART A: goes FIRST, ahead of the names: the tables' words, and 'selects' of the private methods out of them =====
/-- a private method of a class that the tables say can be made, by its rows of tables_1 -/
def lw_okq (q : MethodName × Nat) : Prop := (q.1.cls ≠ "java/lang/invoke/MethodHandle" ∧ q.1.cls ≠ "java/lang/invoke/VarHandle") ∧ Cond.instantiable q.1.cls q.2 ∈ tables_1 ∧ Cond.privateMethod q.1 ∈ tables_1 ∧ Cond.instanceMethod q.1 ∈ tables_1
theorem lw_p0 : lw_okq (⟨"HalfHere", "refuse", "(I)I"⟩, 12) := ⟨⟨by decide +kernel, by decide +kernel⟩, List.mem_of_getElem? (i := 16) (by decide +kernel), List.mem_of_getElem? (i := 336) (by decide +kernel), List.mem_of_getElem? (i := 337) (by decide +kernel)⟩
theorem lw_p1 : lw_okq (⟨"HalfHere", "refusalOfTime", "(II)I"⟩, 12) := ⟨⟨by decide +kernel, by decide +kernel⟩, List.mem_of_getElem? (i := 16) (by decide +kernel), List.mem_of_getElem? (i := 546) (by decide +kernel), List.mem_of_getElem? (i := 547) (by decide +kernel)⟩
theorem lw_p2 : lw_okq (⟨"HalfHere", "gatherParts", "(I)V"⟩, 12) := ⟨⟨by decide +kernel, by decide +kernel⟩, List.mem_of_getElem? (i := 16) (by decide +kernel), List.mem_of_getElem? (i := 562) (by decide +kernel), List.mem_of_getElem? (i := 563) (by decide +kernel)⟩
theorem lw_p3 : lw_okq (⟨"HalfHere", "refusalOfChance", "(IIII)I"⟩, 12) := ⟨⟨by decide +kernel, by decide +kernel⟩, List.mem_of_getElem? (i := 16) (by decide +kernel), List.mem_of_getElem? (i := 754) (by decide +kernel), List.mem_of_getElem? (i := 755) (by decide +kernel)⟩
theorem lw_p4 : lw_okq (⟨"HalfHere", "meanLeft", "(III)J"⟩, 12) := ⟨⟨by decide +kernel, by decide +kernel⟩, List.mem_of_getElem? (i := 16) (by decide +kernel), List.mem_of_getElem? (i := 763) (by decide +kernel), List.mem_of_getElem? (i := 764) (by decide +kernel)⟩
theorem lw_p5 : lw_okq (⟨"HalfHere", "allLeft", "(III)J"⟩, 12) := ⟨⟨by decide +kernel, by decide +kernel⟩, List.mem_of_getElem? (i := 16) (by decide +kernel), List.mem_of_getElem? (i := 774) (by decide +kernel), List.mem_of_getElem? (i := 775) (by decide +kernel)⟩
theorem lw_p6 : lw_okq (⟨"HalfHere", "refusalOfParts", "(II)I"⟩, 12) := ⟨⟨by decide +kernel, by decide +kernel⟩, List.mem_of_getElem? (i := 16) (by decide +kernel), List.mem_of_getElem? (i := 782) (by decide +kernel), List.mem_of_getElem? (i := 783) (by decide +kernel)⟩
theorem lw_p7 : lw_okq (⟨"HalfHere", "judged", "(I)I"⟩, 12) := ⟨⟨by decide +kernel, by decide +kernel⟩, List.mem_of_getElem? (i := 16) (by decide +kernel), List.mem_of_getElem? (i := 803) (by decide +kernel), List.mem_of_getElem? (i := 804) (by decide +kernel)⟩
theorem lw_p8 : lw_okq (⟨"HalfHere", "worksDone", "()I"⟩, 12) := ⟨⟨by decide +kernel, by decide +kernel⟩, List.mem_of_getElem? (i := 16) (by decide +kernel), List.mem_of_getElem? (i := 823) (by decide +kernel), List.mem_of_getElem? (i := 824) (by decide +kernel)⟩
theorem lw_p9 : lw_okq (⟨"HalfHereModel", "refuse", "(I)I"⟩, 20) := ⟨⟨by decide +kernel, by decide +kernel⟩, List.mem_of_getElem? (i := 827) (by decide +kernel), List.mem_of_getElem? (i := 901) (by decide +kernel), List.mem_of_getElem? (i := 902) (by decide +kernel)⟩
theorem lw_p10 : lw_okq (⟨"HalfHereModel", "reads", "()I"⟩, 20) := ⟨⟨by decide +kernel, by decide +kernel⟩, List.mem_of_getElem? (i := 827) (by decide +kernel), List.mem_of_getElem? (i := 909) (by decide +kernel), List.mem_of_getElem? (i := 910) (by decide +kernel)⟩
theorem lw_p11 : lw_okq (⟨"HalfHereModel", "readsStatement", "()Z"⟩, 20) := ⟨⟨by decide +kernel, by decide +kernel⟩, List.mem_of_getElem? (i := 827) (by decide +kernel), List.mem_of_getElem? (i := 913) (by decide +kernel), List.mem_of_getElem? (i := 914) (by decide +kernel)⟩
theorem lw_p12 : lw_okq (⟨"HalfHereModel", "sign", "()I"⟩, 20) := ⟨⟨by decide +kernel, by decide +kernel⟩, List.mem_of_getElem? (i := 827) (by decide +kernel), List.mem_of_getElem? (i := 917) (by decide +kernel), List.mem_of_getElem? (i := 918) (by decide +kernel)⟩
theorem lw_p13 : lw_okq (⟨"HalfHereModel", "readsNumber", "(II)Z"⟩, 20) := ⟨⟨by decide +kernel, by decide +kernel⟩, List.mem_of_getElem? (i := 827) (by decide +kernel), List.mem_of_getElem? (i := 921) (by decide +kernel), List.mem_of_getElem? (i := 922) (by decide +kernel)⟩
theorem lw_p14 : lw_okq (⟨"HalfHereModel", "takes", "(I)Z"⟩, 20) := ⟨⟨by decide +kernel, by decide +kernel⟩, List.mem_of_getElem? (i := 827) (by decide +kernel), List.mem_of_getElem? (i := 925) (by decide +kernel), List.mem_of_getElem? (i := 926) (by decide +kernel)⟩
theorem lw_p15 : lw_okq (⟨"HalfHereModel", "comes", "(I)Z"⟩, 20) := ⟨⟨by decide +kernel, by decide +kernel⟩, List.mem_of_getElem? (i := 827) (by decide +kernel), List.mem_of_getElem? (i := 932) (by decide +kernel), List.mem_of_getElem? (i := 933) (by decide +kernel)⟩
def lw_privs_1 : List (MethodName × Nat) := [(⟨"HalfHere", "refuse", "(I)I"⟩, 12), (⟨"HalfHere", "refusalOfTime", "(II)I"⟩, 12), (⟨"HalfHere", "gatherParts", "(I)V"⟩, 12), (⟨"HalfHere", "refusalOfChance", "(IIII)I"⟩, 12), (⟨"HalfHere", "meanLeft", "(III)J"⟩, 12), (⟨"HalfHere", "allLeft", "(III)J"⟩, 12), (⟨"HalfHere", "refusalOfParts", "(II)I"⟩, 12), (⟨"HalfHere", "judged", "(I)I"⟩, 12), (⟨"HalfHere", "worksDone", "()I"⟩, 12), (⟨"HalfHereModel", "refuse", "(I)I"⟩, 20), (⟨"HalfHereModel", "reads", "()I"⟩, 20), (⟨"HalfHereModel", "readsStatement", "()Z"⟩, 20), (⟨"HalfHereModel", "sign", "()I"⟩, 20), (⟨"HalfHereModel", "readsNumber", "(II)Z"⟩, 20), (⟨"HalfHereModel", "takes", "(I)Z"⟩, 20), (⟨"HalfHereModel", "comes", "(I)Z"⟩, 20)]
theorem lw_r1 : ∀ q ∈ lw_privs_1, lw_okq q := List.forall_mem_cons.mpr ⟨lw_p0, List.forall_mem_cons.mpr ⟨lw_p1, List.forall_mem_cons.mpr ⟨lw_p2, List.forall_mem_cons.mpr ⟨lw_p3, List.forall_mem_cons.mpr ⟨lw_p4, List.forall_mem_cons.mpr ⟨lw_p5, List.forall_mem_cons.mpr ⟨lw_p6, List.forall_mem_cons.mpr ⟨lw_p7, List.forall_mem_cons.mpr ⟨lw_p8, List.forall_mem_cons.mpr ⟨lw_p9, List.forall_mem_cons.mpr ⟨lw_p10, List.forall_mem_cons.mpr ⟨lw_p11, List.forall_mem_cons.mpr ⟨lw_p12, List.forall_mem_cons.mpr ⟨lw_p13, List.forall_mem_cons.mpr ⟨lw_p14, List.forall_mem_cons.mpr ⟨lw_p15, fun _ h => absurd h List.not_mem_nil⟩⟩⟩⟩⟩⟩⟩⟩⟩⟩⟩⟩⟩⟩⟩⟩
theorem lw_p16 : lw_okq (⟨"HalfHereModel", "toldOf", "()I"⟩, 20) := ⟨⟨by decide +kernel, by decide +kernel⟩, List.mem_of_getElem? (i := 827) (by decide +kernel), List.mem_of_getElem? (i := 936) (by decide +kernel), List.mem_of_getElem? (i := 937) (by decide +kernel)⟩
theorem lw_p17 : lw_okq (⟨"HalfHereModel", "comesPerson", "()Z"⟩, 20) := ⟨⟨by decide +kernel, by decide +kernel⟩, List.mem_of_getElem? (i := 827) (by decide +kernel), List.mem_of_getElem? (i := 940) (by decide +kernel), List.mem_of_getElem? (i := 941) (by decide +kernel)⟩
theorem lw_p18 : lw_okq (⟨"HalfHereModel", "isPerson", "(I)Z"⟩, 20) := ⟨⟨by decide +kernel, by decide +kernel⟩, List.mem_of_getElem? (i := 827) (by decide +kernel), List.mem_of_getElem? (i := 951) (by decide +kernel), List.mem_of_getElem? (i := 952) (by decide +kernel)⟩
theorem lw_p19 : lw_okq (⟨"HalfHereModel", "get", "(II)I"⟩, 20) := ⟨⟨by decide +kernel, by decide +kernel⟩, List.mem_of_getElem? (i := 827) (by decide +kernel), List.mem_of_getElem? (i := 958) (by decide +kernel), List.mem_of_getElem? (i := 959) (by decide +kernel)⟩
theorem lw_p20 : lw_okq (⟨"HalfHereModel", "leftOf", "(I)I"⟩, 20) := ⟨⟨by decide +kernel, by decide +kernel⟩, List.mem_of_getElem? (i := 827) (by decide +kernel), List.mem_of_getElem? (i := 962) (by decide +kernel), List.mem_of_getElem? (i := 963) (by decide +kernel)⟩
theorem lw_p21 : lw_okq (⟨"HalfHereModel", "part", "(II)I"⟩, 20) := ⟨⟨by decide +kernel, by decide +kernel⟩, List.mem_of_getElem? (i := 827) (by decide +kernel), List.mem_of_getElem? (i := 966) (by decide +kernel), List.mem_of_getElem? (i := 967) (by decide +kernel)⟩
theorem lw_p22 : lw_okq (⟨"HalfHereModel", "partsOf", "(I)I"⟩, 20) := ⟨⟨by decide +kernel, by decide +kernel⟩, List.mem_of_getElem? (i := 827) (by decide +kernel), List.mem_of_getElem? (i := 970) (by decide +kernel), List.mem_of_getElem? (i := 971) (by decide +kernel)⟩
theorem lw_p23 : lw_okq (⟨"HalfHereModel", "isWork", "(I)Z"⟩, 20) := ⟨⟨by decide +kernel, by decide +kernel⟩, List.mem_of_getElem? (i := 827) (by decide +kernel), List.mem_of_getElem? (i := 978) (by decide +kernel), List.mem_of_getElem? (i := 979) (by decide +kernel)⟩
theorem lw_p24 : lw_okq (⟨"HalfHereModel", "of", "(II)I"⟩, 20) := ⟨⟨by decide +kernel, by decide +kernel⟩, List.mem_of_getElem? (i := 827) (by decide +kernel), List.mem_of_getElem? (i := 982) (by decide +kernel), List.mem_of_getElem? (i := 983) (by decide +kernel)⟩
theorem lw_p25 : lw_okq (⟨"HalfHereModel", "isSpot", "(I)Z"⟩, 20) := ⟨⟨by decide +kernel, by decide +kernel⟩, List.mem_of_getElem? (i := 827) (by decide +kernel), List.mem_of_getElem? (i := 990) (by decide +kernel), List.mem_of_getElem? (i := 991) (by decide +kernel)⟩
theorem lw_p26 : lw_okq (⟨"HalfHereModel", "minutesOf", "(II)I"⟩, 20) := ⟨⟨by decide +kernel, by decide +kernel⟩, List.mem_of_getElem? (i := 827) (by decide +kernel), List.mem_of_getElem? (i := 994) (by decide +kernel), List.mem_of_getElem? (i := 995) (by decide +kernel)⟩
theorem lw_p27 : lw_okq (⟨"HalfHereModel", "findsFar", "()V"⟩, 20) := ⟨⟨by decide +kernel, by decide +kernel⟩, List.mem_of_getElem? (i := 827) (by decide +kernel), List.mem_of_getElem? (i := 998) (by decide +kernel), List.mem_of_getElem? (i := 999) (by decide +kernel)⟩
theorem lw_p28 : lw_okq (⟨"HalfHereModel", "isPart", "(I)Z"⟩, 20) := ⟨⟨by decide +kernel, by decide +kernel⟩, List.mem_of_getElem? (i := 827) (by decide +kernel), List.mem_of_getElem? (i := 1007) (by decide +kernel), List.mem_of_getElem? (i := 1008) (by decide +kernel)⟩
theorem lw_p29 : lw_okq (⟨"HalfHereModel", "puts", "(III)V"⟩, 20) := ⟨⟨by decide +kernel, by decide +kernel⟩, List.mem_of_getElem? (i := 827) (by decide +kernel), List.mem_of_getElem? (i := 1015) (by decide +kernel), List.mem_of_getElem? (i := 1016) (by decide +kernel)⟩
theorem lw_p30 : lw_okq (⟨"HalfHereModel", "gathers", "(I)V"⟩, 20) := ⟨⟨by decide +kernel, by decide +kernel⟩, List.mem_of_getElem? (i := 827) (by decide +kernel), List.mem_of_getElem? (i := 1057) (by decide +kernel), List.mem_of_getElem? (i := 1058) (by decide +kernel)⟩
theorem lw_p31 : lw_okq (⟨"HalfHereModel", "begins", "()V"⟩, 20) := ⟨⟨by decide +kernel, by decide +kernel⟩, List.mem_of_getElem? (i := 827) (by decide +kernel), List.mem_of_getElem? (i := 1061) (by decide +kernel), List.mem_of_getElem? (i := 1062) (by decide +kernel)⟩
def lw_privs_2 : List (MethodName × Nat) := [(⟨"HalfHereModel", "toldOf", "()I"⟩, 20), (⟨"HalfHereModel", "comesPerson", "()Z"⟩, 20), (⟨"HalfHereModel", "isPerson", "(I)Z"⟩, 20), (⟨"HalfHereModel", "get", "(II)I"⟩, 20), (⟨"HalfHereModel", "leftOf", "(I)I"⟩, 20), (⟨"HalfHereModel", "part", "(II)I"⟩, 20), (⟨"HalfHereModel", "partsOf", "(I)I"⟩, 20), (⟨"HalfHereModel", "isWork", "(I)Z"⟩, 20), (⟨"HalfHereModel", "of", "(II)I"⟩, 20), (⟨"HalfHereModel", "isSpot", "(I)Z"⟩, 20), (⟨"HalfHereModel", "minutesOf", "(II)I"⟩, 20), (⟨"HalfHereModel", "findsFar", "()V"⟩, 20), (⟨"HalfHereModel", "isPart", "(I)Z"⟩, 20), (⟨"HalfHereModel", "puts", "(III)V"⟩, 20), (⟨"HalfHereModel", "gathers", "(I)V"⟩, 20), (⟨"HalfHereModel", "begins", "()V"⟩, 20)]
theorem lw_r2 : ∀ q ∈ lw_privs_2, lw_okq q := List.forall_mem_cons.mpr ⟨lw_p16, List.forall_mem_cons.mpr ⟨lw_p17, List.forall_mem_cons.mpr ⟨lw_p18, List.forall_mem_cons.mpr ⟨lw_p19, List.forall_mem_cons.mpr ⟨lw_p20, List.forall_mem_cons.mpr ⟨lw_p21, List.forall_mem_cons.mpr ⟨lw_p22, List.forall_mem_cons.mpr ⟨lw_p23, List.forall_mem_cons.mpr ⟨lw_p24, List.forall_mem_cons.mpr ⟨lw_p25, List.forall_mem_cons.mpr ⟨lw_p26, List.forall_mem_cons.mpr ⟨lw_p27, List.forall_mem_cons.mpr ⟨lw_p28, List.forall_mem_cons.mpr ⟨lw_p29, List.forall_mem_cons.mpr ⟨lw_p30, List.forall_mem_cons.mpr ⟨lw_p31, fun _ h => absurd h List.not_mem_nil⟩⟩⟩⟩⟩⟩⟩⟩⟩⟩⟩⟩⟩⟩⟩⟩
theorem lw_p32 : lw_okq (⟨"HalfHereModel", "gives", "(IIII)V"⟩, 20) := ⟨⟨by decide +kernel, by decide +kernel⟩, List.mem_of_getElem? (i := 827) (by decide +kernel), List.mem_of_getElem? (i := 1065) (by decide +kernel), List.mem_of_getElem? (i := 1066) (by decide +kernel)⟩
theorem lw_p33 : lw_okq (⟨"HalfHereModel", "doesOf", "(II)I"⟩, 20) := ⟨⟨by decide +kernel, by decide +kernel⟩, List.mem_of_getElem? (i := 827) (by decide +kernel), List.mem_of_getElem? (i := 1072) (by decide +kernel), List.mem_of_getElem? (i := 1073) (by decide +kernel)⟩
theorem lw_p34 : lw_okq (⟨"HalfHereModel", "findsWell", "(I)V"⟩, 20) := ⟨⟨by decide +kernel, by decide +kernel⟩, List.mem_of_getElem? (i := 827) (by decide +kernel), List.mem_of_getElem? (i := 1080) (by decide +kernel), List.mem_of_getElem? (i := 1081) (by decide +kernel)⟩
theorem lw_p35 : lw_okq (⟨"HalfHereModel", "plans", "(I)V"⟩, 20) := ⟨⟨by decide +kernel, by decide +kernel⟩, List.mem_of_getElem? (i := 827) (by decide +kernel), List.mem_of_getElem? (i := 1091) (by decide +kernel), List.mem_of_getElem? (i := 1092) (by decide +kernel)⟩
theorem lw_p36 : lw_okq (⟨"HalfHereModel", "plansWholes", "()V"⟩, 20) := ⟨⟨by decide +kernel, by decide +kernel⟩, List.mem_of_getElem? (i := 827) (by decide +kernel), List.mem_of_getElem? (i := 1095) (by decide +kernel), List.mem_of_getElem? (i := 1096) (by decide +kernel)⟩
theorem lw_p37 : lw_okq (⟨"HalfHereModel", "isDoneBy", "(III)Z"⟩, 20) := ⟨⟨by decide +kernel, by decide +kernel⟩, List.mem_of_getElem? (i := 827) (by decide +kernel), List.mem_of_getElem? (i := 1099) (by decide +kernel), List.mem_of_getElem? (i := 1100) (by decide +kernel)⟩
theorem lw_p38 : lw_okq (⟨"HalfHereModel", "gathersBy", "(III)V"⟩, 20) := ⟨⟨by decide +kernel, by decide +kernel⟩, List.mem_of_getElem? (i := 827) (by decide +kernel), List.mem_of_getElem? (i := 1103) (by decide +kernel), List.mem_of_getElem? (i := 1104) (by decide +kernel)⟩
theorem lw_p39 : lw_okq (⟨"HalfHereModel", "isDoneNow", "(I)Z"⟩, 20) := ⟨⟨by decide +kernel, by decide +kernel⟩, List.mem_of_getElem? (i := 827) (by decide +kernel), List.mem_of_getElem? (i := 1107) (by decide +kernel), List.mem_of_getElem? (i := 1108) (by decide +kernel)⟩
theorem lw_p40 : lw_okq (⟨"HalfHereModel", "helps", "(III)Z"⟩, 20) := ⟨⟨by decide +kernel, by decide +kernel⟩, List.mem_of_getElem? (i := 827) (by decide +kernel), List.mem_of_getElem? (i := 1111) (by decide +kernel), List.mem_of_getElem? (i := 1112) (by decide +kernel)⟩
theorem lw_p41 : lw_okq (⟨"HalfHereModel", "plansEven", "()V"⟩, 20) := ⟨⟨by decide +kernel, by decide +kernel⟩, List.mem_of_getElem? (i := 827) (by decide +kernel), List.mem_of_getElem? (i := 1115) (by decide +kernel), List.mem_of_getElem? (i := 1116) (by decide +kernel)⟩
theorem lw_p42 : lw_okq (⟨"HalfHereModel", "plansNeed", "(Z)V"⟩, 20) := ⟨⟨by decide +kernel, by decide +kernel⟩, List.mem_of_getElem? (i := 827) (by decide +kernel), List.mem_of_getElem? (i := 1119) (by decide +kernel), List.mem_of_getElem? (i := 1120) (by decide +kernel)⟩
theorem lw_p43 : lw_okq (⟨"HalfHereModel", "givenOf", "(I)I"⟩, 20) := ⟨⟨by decide +kernel, by decide +kernel⟩, List.mem_of_getElem? (i := 827) (by decide +kernel), List.mem_of_getElem? (i := 1123) (by decide +kernel), List.mem_of_getElem? (i := 1124) (by decide +kernel)⟩
theorem lw_p44 : lw_okq (⟨"HalfHereModel", "worthOf", "()I"⟩, 20) := ⟨⟨by decide +kernel, by decide +kernel⟩, List.mem_of_getElem? (i := 827) (by decide +kernel), List.mem_of_getElem? (i := 1127) (by decide +kernel), List.mem_of_getElem? (i := 1128) (by decide +kernel)⟩
theorem lw_p45 : lw_okq (⟨"HalfHereModel", "areFew", "()Z"⟩, 20) := ⟨⟨by decide +kernel, by decide +kernel⟩, List.mem_of_getElem? (i := 827) (by decide +kernel), List.mem_of_getElem? (i := 1139) (by decide +kernel), List.mem_of_getElem? (i := 1140) (by decide +kernel)⟩
theorem lw_p46 : lw_okq (⟨"HalfHereModel", "findsBest", "()V"⟩, 20) := ⟨⟨by decide +kernel, by decide +kernel⟩, List.mem_of_getElem? (i := 827) (by decide +kernel), List.mem_of_getElem? (i := 1143) (by decide +kernel), List.mem_of_getElem? (i := 1144) (by decide +kernel)⟩
theorem lw_p47 : lw_okq (⟨"HalfHereModel", "quartersFrom", "(III)V"⟩, 20) := ⟨⟨by decide +kernel, by decide +kernel⟩, List.mem_of_getElem? (i := 827) (by decide +kernel), List.mem_of_getElem? (i := 1147) (by decide +kernel), List.mem_of_getElem? (i := 1148) (by decide +kernel)⟩
def lw_privs_3 : List (MethodName × Nat) := [(⟨"HalfHereModel", "gives", "(IIII)V"⟩, 20), (⟨"HalfHereModel", "doesOf", "(II)I"⟩, 20), (⟨"HalfHereModel", "findsWell", "(I)V"⟩, 20), (⟨"HalfHereModel", "plans", "(I)V"⟩, 20), (⟨"HalfHereModel", "plansWholes", "()V"⟩, 20), (⟨"HalfHereModel", "isDoneBy", "(III)Z"⟩, 20), (⟨"HalfHereModel", "gathersBy", "(III)V"⟩, 20), (⟨"HalfHereModel", "isDoneNow", "(I)Z"⟩, 20), (⟨"HalfHereModel", "helps", "(III)Z"⟩, 20), (⟨"HalfHereModel", "plansEven", "()V"⟩, 20), (⟨"HalfHereModel", "plansNeed", "(Z)V"⟩, 20), (⟨"HalfHereModel", "givenOf", "(I)I"⟩, 20), (⟨"HalfHereModel", "worthOf", "()I"⟩, 20), (⟨"HalfHereModel", "areFew", "()Z"⟩, 20), (⟨"HalfHereModel", "findsBest", "()V"⟩, 20), (⟨"HalfHereModel", "quartersFrom", "(III)V"⟩, 20)]
theorem lw_r3 : ∀ q ∈ lw_privs_3, lw_okq q := List.forall_mem_cons.mpr ⟨lw_p32, List.forall_mem_cons.mpr ⟨lw_p33, List.forall_mem_cons.mpr ⟨lw_p34, List.forall_mem_cons.mpr ⟨lw_p35, List.forall_mem_cons.mpr ⟨lw_p36, List.forall_mem_cons.mpr ⟨lw_p37, List.forall_mem_cons.mpr ⟨lw_p38, List.forall_mem_cons.mpr ⟨lw_p39, List.forall_mem_cons.mpr ⟨lw_p40, List.forall_mem_cons.mpr ⟨lw_p41, List.forall_mem_cons.mpr ⟨lw_p42, List.forall_mem_cons.mpr ⟨lw_p43, List.forall_mem_cons.mpr ⟨lw_p44, List.forall_mem_cons.mpr ⟨lw_p45, List.forall_mem_cons.mpr ⟨lw_p46, List.forall_mem_cons.mpr ⟨lw_p47, fun _ h => absurd h List.not_mem_nil⟩⟩⟩⟩⟩⟩⟩⟩⟩⟩⟩⟩⟩⟩⟩⟩
theorem lw_p48 : lw_okq (⟨"HalfHereModel", "worthByQuarters", "()I"⟩, 20) := ⟨⟨by decide +kernel, by decide +kernel⟩, List.mem_of_getElem? (i := 827) (by decide +kernel), List.mem_of_getElem? (i := 1151) (by decide +kernel), List.mem_of_getElem? (i := 1152) (by decide +kernel)⟩
theorem lw_p49 : lw_okq (⟨"HalfHereModel", "canAll", "(II)Z"⟩, 20) := ⟨⟨by decide +kernel, by decide +kernel⟩, List.mem_of_getElem? (i := 827) (by decide +kernel), List.mem_of_getElem? (i := 1163) (by decide +kernel), List.mem_of_getElem? (i := 1164) (by decide +kernel)⟩
theorem lw_p50 : lw_okq (⟨"HalfHereModel", "parts", "()I"⟩, 20) := ⟨⟨by decide +kernel, by decide +kernel⟩, List.mem_of_getElem? (i := 827) (by decide +kernel), List.mem_of_getElem? (i := 1208) (by decide +kernel), List.mem_of_getElem? (i := 1209) (by decide +kernel)⟩
def lw_privs_4 : List (MethodName × Nat) := [(⟨"HalfHereModel", "worthByQuarters", "()I"⟩, 20), (⟨"HalfHereModel", "canAll", "(II)Z"⟩, 20), (⟨"HalfHereModel", "parts", "()I"⟩, 20)]
theorem lw_r4 : ∀ q ∈ lw_privs_4, lw_okq q := List.forall_mem_cons.mpr ⟨lw_p48, List.forall_mem_cons.mpr ⟨lw_p49, List.forall_mem_cons.mpr ⟨lw_p50, fun _ h => absurd h List.not_mem_nil⟩⟩⟩
def lw_privs : List (MethodName × Nat) := lw_privs_1 ++ (lw_privs_2 ++ (lw_privs_3 ++ (lw_privs_4)))
def lw_tbl : List Cond := k2_sels lw_privs ++ tables_1
theorem lw_privs_ok : ∀ q ∈ lw_privs, lw_okq q := by
  show ∀ q ∈ lw_privs_1 ++ (lw_privs_2 ++ (lw_privs_3 ++ (lw_privs_4))), lw_okq q
  exact List.forall_mem_append.mpr ⟨lw_r1, List.forall_mem_append.mpr ⟨lw_r2, List.forall_mem_append.mpr ⟨lw_r3, lw_r4⟩⟩⟩
-- ===== end of PART A
def RX0 : String := "HalfHere$Company"
def TX0 : u_T := fun k => match k with
  | 0 => ("HalfHere$Company", "isAble", "[Z", true)
  | 1 => ("HalfHere$Company", "isEnough", "[Z", true)
  | _ => ("HalfHere$Company", "effort", "LHalfHere$Effort;", true)
def tyX0 : Nat → FieldType := fun k => match k with
  | 0 => .array .boolean
  | 1 => .array .boolean
  | _ => .object "HalfHere$Effort"
abbrev wsX00 : List Cond := u_ws RX0 TX0 3
theorem nmX0 : ∀ a, a < 3 → ∀ b, b < 3 → a ≠ b → (TX0 a).2.1 ≠ (TX0 b).2.1 := by decide +kernel
theorem tyX0_ok : ∀ k, k < 3 → parseFieldDescriptor (TX0 k).2.2.1 = some (tyX0 k) := by decide +kernel
abbrev cX0_init : ByteArray := prog_2_method_1_code
def yX0_init : MethodName := ⟨RX0, "<init>", "()V"⟩
abbrev cX0_fewestForWholes : ByteArray := prog_2_method_2_code
def yX0_fewestForWholes : MethodName := ⟨RX0, "fewestForWholes", "(LHalfHere$Village;)I"⟩
abbrev cX0_fillEnough : ByteArray := prog_2_method_3_code
def yX0_fillEnough : MethodName := ⟨RX0, "fillEnough", "(LHalfHere$Village;LHalfHere$Work;)V"⟩
abbrev cX0_share : ByteArray := prog_2_method_4_code
def yX0_share : MethodName := ⟨RX0, "share", "(I)V"⟩
abbrev cX0_bestTwo : ByteArray := prog_2_method_5_code
def yX0_bestTwo : MethodName := ⟨RX0, "bestTwo", "(LHalfHere$Village;LHalfHere$Work;)I"⟩
def RX1 : String := "HalfHere$Effort"
def TX1 : u_T := fun k => match k with
  | 0 => ("HalfHere$Effort", "kind", "I", false)
  | 1 => ("HalfHere$Effort", "needs", "[I", true)
  | 2 => ("HalfHere$Effort", "given", "[I", true)
  | 3 => ("HalfHere$Effort", "helpers", "I", false)
  | 4 => ("HalfHere$Effort", "above", "I", false)
  | _ => ("HalfHere$Effort", "below", "I", false)
def tyX1 : Nat → FieldType := fun k => match k with
  | 0 => .int
  | 1 => .array .int
  | 2 => .array .int
  | 3 => .int
  | 4 => .int
  | _ => .int
abbrev wsX10 : List Cond := u_ws RX1 TX1 6
theorem nmX1 : ∀ a, a < 6 → ∀ b, b < 6 → a ≠ b → (TX1 a).2.1 ≠ (TX1 b).2.1 := by decide +kernel
theorem tyX1_ok : ∀ k, k < 6 → parseFieldDescriptor (TX1 k).2.2.1 = some (tyX1 k) := by decide +kernel
abbrev cX1_init : ByteArray := prog_3_method_1_code
def yX1_init : MethodName := ⟨RX1, "<init>", "()V"⟩
abbrev cX1_begin : ByteArray := prog_3_method_2_code
def yX1_begin : MethodName := ⟨RX1, "begin", "(LHalfHere$Work;)V"⟩
abbrev cX1_stand : ByteArray := prog_3_method_3_code
def yX1_stand : MethodName := ⟨RX1, "stand", "(I)V"⟩
abbrev cX1_add : ByteArray := prog_3_method_4_code
def yX1_add : MethodName := ⟨RX1, "add", "(ILHalfHere$Person;II)V"⟩
abbrev cX1_sum : ByteArray := prog_3_method_5_code
def yX1_sum : MethodName := ⟨RX1, "sum", "(I)I"⟩
abbrev cX1_isDone : ByteArray := prog_3_method_6_code
def yX1_isDone : MethodName := ⟨RX1, "isDone", "()Z"⟩
abbrev cX1_weigh : ByteArray := prog_3_method_7_code
def yX1_weigh : MethodName := ⟨RX1, "weigh", "()V"⟩
def RX2 : String := "HalfHere$Part"
def TX2 : u_T := fun k => match k with
  | 0 => ("HalfHere$Part", "person", "I", false)
  | 1 => ("HalfHere$Part", "twelfths", "I", false)
  | 2 => ("HalfHere$Part", "place", "I", false)
  | 3 => ("HalfHere$Part", "work", "I", false)
  | 4 => ("HalfHere$Part", "clock", "I", false)
  | 5 => ("HalfHere$Part", "tired", "I", false)
  | _ => ("HalfHere$Part", "seen", "I", false)
def tyX2 : Nat → FieldType := fun k => match k with
  | 0 => .int
  | 1 => .int
  | 2 => .int
  | 3 => .int
  | 4 => .int
  | 5 => .int
  | _ => .int
abbrev wsX20 : List Cond := u_ws RX2 TX2 7
theorem nmX2 : ∀ a, a < 7 → ∀ b, b < 7 → a ≠ b → (TX2 a).2.1 ≠ (TX2 b).2.1 := by decide +kernel
theorem tyX2_ok : ∀ k, k < 7 → parseFieldDescriptor (TX2 k).2.2.1 = some (tyX2 k) := by decide +kernel
abbrev cX2_init : ByteArray := prog_4_method_1_code
def yX2_init : MethodName := ⟨RX2, "<init>", "()V"⟩
abbrev cX2_clear : ByteArray := prog_4_method_2_code
def yX2_clear : MethodName := ⟨RX2, "clear", "()V"⟩
abbrev cX2_become : ByteArray := prog_4_method_3_code
def yX2_become : MethodName := ⟨RX2, "become", "(LHalfHere$Part;)V"⟩
def RX3 : String := "HalfHere$Person"
def TX3 : u_T := fun k => match k with
  | 0 => ("HalfHere$Person", "gifts", "[I", true)
  | _ => ("HalfHere$Person", "least", "I", false)
def tyX3 : Nat → FieldType := fun k => match k with
  | 0 => .array .int
  | _ => .int
abbrev wsX30 : List Cond := u_ws RX3 TX3 2
theorem nmX3 : ∀ a, a < 2 → ∀ b, b < 2 → a ≠ b → (TX3 a).2.1 ≠ (TX3 b).2.1 := by decide +kernel
theorem tyX3_ok : ∀ k, k < 2 → parseFieldDescriptor (TX3 k).2.2.1 = some (tyX3 k) := by decide +kernel
abbrev cX3_init : ByteArray := prog_5_method_1_code
def yX3_init : MethodName := ⟨RX3, "<init>", "()V"⟩
abbrev cX3_become : ByteArray := prog_5_method_2_code
def yX3_become : MethodName := ⟨RX3, "become", "(LHalfHere$Person;)V"⟩
def RX4 : String := "HalfHere$Planner"
def TX4 : u_T := fun k => match k with
  | 0 => ("HalfHere$Planner", "twelfths", "[[I", true)
  | 1 => ("HalfHere$Planner", "before", "LHalfHere$Effort;", true)
  | _ => ("HalfHere$Planner", "after", "LHalfHere$Effort;", true)
def tyX4 : Nat → FieldType := fun k => match k with
  | 0 => .array (.array .int)
  | 1 => .object "HalfHere$Effort"
  | _ => .object "HalfHere$Effort"
abbrev wsX40 : List Cond := u_ws RX4 TX4 3
theorem nmX4 : ∀ a, a < 3 → ∀ b, b < 3 → a ≠ b → (TX4 a).2.1 ≠ (TX4 b).2.1 := by decide +kernel
theorem tyX4_ok : ∀ k, k < 3 → parseFieldDescriptor (TX4 k).2.2.1 = some (tyX4 k) := by decide +kernel
abbrev cX4_init : ByteArray := prog_6_method_1_code
def yX4_init : MethodName := ⟨RX4, "<init>", "()V"⟩
abbrev cX4_isKind : ByteArray := prog_6_method_2_code
def yX4_isKind : MethodName := ⟨RX4, "isKind", "(I)Z"⟩
abbrev cX4_make : ByteArray := prog_6_method_3_code
def yX4_make : MethodName := ⟨RX4, "make", "(ILHalfHere$Village;)V"⟩
abbrev cX4_worth : ByteArray := prog_6_method_4_code
def yX4_worth : MethodName := ⟨RX4, "worth", "(LHalfHere$Village;)I"⟩
abbrev cX4_makeWholes : ByteArray := prog_6_method_5_code
def yX4_makeWholes : MethodName := ⟨RX4, "makeWholes", "(LHalfHere$Village;)V"⟩
abbrev cX4_makeEven : ByteArray := prog_6_method_6_code
def yX4_makeEven : MethodName := ⟨RX4, "makeEven", "(LHalfHere$Village;)V"⟩
abbrev cX4_makeNeed : ByteArray := prog_6_method_7_code
def yX4_makeNeed : MethodName := ⟨RX4, "makeNeed", "(LHalfHere$Village;Z)V"⟩
abbrev cX4_used : ByteArray := prog_6_method_8_code
def yX4_used : MethodName := ⟨RX4, "used", "(I)I"⟩
abbrev cX4_needed : ByteArray := prog_6_method_9_code
def yX4_needed : MethodName := ⟨RX4, "needed", "(LHalfHere$Village;III)I"⟩
abbrev cX4_gather : ByteArray := prog_6_method_10_code
def yX4_gather : MethodName := ⟨RX4, "gather", "(LHalfHere$Effort;LHalfHere$Village;I)V"⟩
abbrev cX4_isDone : ByteArray := prog_6_method_11_code
def yX4_isDone : MethodName := ⟨RX4, "isDone", "(LHalfHere$Village;I)Z"⟩
abbrev cX4_helps : ByteArray := prog_6_method_12_code
def yX4_helps : MethodName := ⟨RX4, "helps", "(LHalfHere$Village;III)Z"⟩
def RX5 : String := "HalfHere$Quartering"
def TX5 : u_T := fun k => match k with
  | 0 => ("HalfHere$Quartering", "hows", "[[I", true)
  | 1 => ("HalfHere$Quartering", "howCount", "I", false)
  | 2 => ("HalfHere$Quartering", "gains", "[[I", true)
  | 3 => ("HalfHere$Quartering", "chosen", "[I", true)
  | 4 => ("HalfHere$Quartering", "effort", "LHalfHere$Effort;", true)
  | 5 => ("HalfHere$Quartering", "worth", "I", false)
  | _ => ("HalfHere$Quartering", "isFound", "Z", false)
def tyX5 : Nat → FieldType := fun k => match k with
  | 0 => .array (.array .int)
  | 1 => .int
  | 2 => .array (.array .int)
  | 3 => .array .int
  | 4 => .object "HalfHere$Effort"
  | 5 => .int
  | _ => .boolean
abbrev wsX50 : List Cond := u_ws RX5 TX5 7
theorem nmX5 : ∀ a, a < 7 → ∀ b, b < 7 → a ≠ b → (TX5 a).2.1 ≠ (TX5 b).2.1 := by decide +kernel
theorem tyX5_ok : ∀ k, k < 7 → parseFieldDescriptor (TX5 k).2.2.1 = some (tyX5 k) := by decide +kernel
abbrev cX5_init : ByteArray := prog_7_method_1_code
def yX5_init : MethodName := ⟨RX5, "<init>", "()V"⟩
abbrev cX5_fits : ByteArray := prog_7_method_2_code
def yX5_fits : MethodName := ⟨RX5, "fits", "(LHalfHere$Village;)Z"⟩
abbrev cX5_forget : ByteArray := prog_7_method_3_code
def yX5_forget : MethodName := ⟨RX5, "forget", "()V"⟩
abbrev cX5_quartersAt : ByteArray := prog_7_method_4_code
def yX5_quartersAt : MethodName := ⟨RX5, "quartersAt", "(II)I"⟩
abbrev cX5_find : ByteArray := prog_7_method_5_code
def yX5_find : MethodName := ⟨RX5, "find", "(LHalfHere$Village;)V"⟩
abbrev cX5_listHows : ByteArray := prog_7_method_6_code
def yX5_listHows : MethodName := ⟨RX5, "listHows", "(I)V"⟩
abbrev cX5_fillGains : ByteArray := prog_7_method_7_code
def yX5_fillGains : MethodName := ⟨RX5, "fillGains", "(LHalfHere$Village;I)I"⟩
abbrev cX5_gain : ByteArray := prog_7_method_8_code
def yX5_gain : MethodName := ⟨RX5, "gain", "(LHalfHere$Village;II)I"⟩
abbrev cX5_addQuarters : ByteArray := prog_7_method_9_code
def yX5_addQuarters : MethodName := ⟨RX5, "addQuarters", "(LHalfHere$Village;II)V"⟩
abbrev cX5_search : ByteArray := prog_7_method_10_code
def yX5_search : MethodName := ⟨RX5, "search", "(II)V"⟩
abbrev cX5_worthOf : ByteArray := prog_7_method_11_code
def yX5_worthOf : MethodName := ⟨RX5, "worthOf", "([I[I[I)I"⟩
abbrev cX5_mix : ByteArray := prog_7_method_12_code
def yX5_mix : MethodName := ⟨RX5, "mix", "(III)I"⟩
def RX6 : String := "HalfHere$Tape"
def TX6 : u_T := fun k => match k with
  | 0 => ("HalfHere$Tape", "letters", "[I", true)
  | 1 => ("HalfHere$Tape", "length", "I", false)
  | 2 => ("HalfHere$Tape", "reading", "I", false)
  | 3 => ("HalfHere$Tape", "said", "[I", true)
  | _ => ("HalfHere$Tape", "saidCount", "I", false)
def tyX6 : Nat → FieldType := fun k => match k with
  | 0 => .array .int
  | 1 => .int
  | 2 => .int
  | 3 => .array .int
  | _ => .int
abbrev wsX60 : List Cond := u_ws RX6 TX6 5
theorem nmX6 : ∀ a, a < 5 → ∀ b, b < 5 → a ≠ b → (TX6 a).2.1 ≠ (TX6 b).2.1 := by decide +kernel
theorem tyX6_ok : ∀ k, k < 5 → parseFieldDescriptor (TX6 k).2.2.1 = some (tyX6 k) := by decide +kernel
abbrev cX6_init : ByteArray := prog_8_method_1_code
def yX6_init : MethodName := ⟨RX6, "<init>", "()V"⟩
abbrev cX6_isFull : ByteArray := prog_8_method_2_code
def yX6_isFull : MethodName := ⟨RX6, "isFull", "()Z"⟩
abbrev cX6_take : ByteArray := prog_8_method_3_code
def yX6_take : MethodName := ⟨RX6, "take", "(I)I"⟩
abbrev cX6_clear : ByteArray := prog_8_method_4_code
def yX6_clear : MethodName := ⟨RX6, "clear", "()V"⟩
abbrev cX6_tellAll : ByteArray := prog_8_method_5_code
def yX6_tellAll : MethodName := ⟨RX6, "tellAll", "(LHalfHere$Village;)I"⟩
abbrev cX6_wrongLetter : ByteArray := prog_8_method_6_code
def yX6_wrongLetter : MethodName := ⟨RX6, "wrongLetter", "()I"⟩
abbrev cX6_readStatement : ByteArray := prog_8_method_7_code
def yX6_readStatement : MethodName := ⟨RX6, "readStatement", "()Z"⟩
abbrev cX6_letter : ByteArray := prog_8_method_8_code
def yX6_letter : MethodName := ⟨RX6, "letter", "()I"⟩
abbrev cX6_say : ByteArray := prog_8_method_9_code
def yX6_say : MethodName := ⟨RX6, "say", "(I)V"⟩
abbrev cX6_readSign : ByteArray := prog_8_method_10_code
def yX6_readSign : MethodName := ⟨RX6, "readSign", "(I)Z"⟩
abbrev cX6_isAtDigit : ByteArray := prog_8_method_11_code
def yX6_isAtDigit : MethodName := ⟨RX6, "isAtDigit", "()Z"⟩
abbrev cX6_readNumber : ByteArray := prog_8_method_12_code
def yX6_readNumber : MethodName := ⟨RX6, "readNumber", "(I)Z"⟩
abbrev cX6_readThree : ByteArray := prog_8_method_13_code
def yX6_readThree : MethodName := ⟨RX6, "readThree", "(I)Z"⟩
abbrev cX6_readKind : ByteArray := prog_8_method_14_code
def yX6_readKind : MethodName := ⟨RX6, "readKind", "()Z"⟩
def RX7 : String := "HalfHere$Village"
def TX7 : u_T := fun k => match k with
  | 0 => ("HalfHere$Village", "places", "I", false)
  | 1 => ("HalfHere$Village", "personCount", "I", false)
  | 2 => ("HalfHere$Village", "workCount", "I", false)
  | 3 => ("HalfHere$Village", "ways", "[[I", true)
  | 4 => ("HalfHere$Village", "far", "[[I", true)
  | 5 => ("HalfHere$Village", "persons", "[LHalfHere$Person;", true)
  | 6 => ("HalfHere$Village", "works", "[LHalfHere$Work;", true)
  | _ => ("HalfHere$Village", "parts", "[LHalfHere$Part;", true)
def tyX7 : Nat → FieldType := fun k => match k with
  | 0 => .int
  | 1 => .int
  | 2 => .int
  | 3 => .array (.array .int)
  | 4 => .array (.array .int)
  | 5 => .array (.object "HalfHere$Person")
  | 6 => .array (.object "HalfHere$Work")
  | _ => .array (.object "HalfHere$Part")
abbrev wsX70 : List Cond := u_ws RX7 TX7 8
theorem nmX7 : ∀ a, a < 8 → ∀ b, b < 8 → a ≠ b → (TX7 a).2.1 ≠ (TX7 b).2.1 := by decide +kernel
theorem tyX7_ok : ∀ k, k < 8 → parseFieldDescriptor (TX7 k).2.2.1 = some (tyX7 k) := by decide +kernel
abbrev cX7_init : ByteArray := prog_9_method_1_code
def yX7_init : MethodName := ⟨RX7, "<init>", "()V"⟩
abbrev cX7_become : ByteArray := prog_9_method_2_code
def yX7_become : MethodName := ⟨RX7, "become", "(LHalfHere$Village;)V"⟩
abbrev cX7_hasPlace : ByteArray := prog_9_method_3_code
def yX7_hasPlace : MethodName := ⟨RX7, "hasPlace", "(I)Z"⟩
abbrev cX7_hasPerson : ByteArray := prog_9_method_4_code
def yX7_hasPerson : MethodName := ⟨RX7, "hasPerson", "(I)Z"⟩
abbrev cX7_hasWork : ByteArray := prog_9_method_5_code
def yX7_hasWork : MethodName := ⟨RX7, "hasWork", "(I)Z"⟩
abbrev cX7_hasPart : ByteArray := prog_9_method_6_code
def yX7_hasPart : MethodName := ⟨RX7, "hasPart", "(I)Z"⟩
abbrev cX7_isPartOf : ByteArray := prog_9_method_7_code
def yX7_isPartOf : MethodName := ⟨RX7, "isPartOf", "(II)Z"⟩
abbrev cX7_freePart : ByteArray := prog_9_method_8_code
def yX7_freePart : MethodName := ⟨RX7, "freePart", "()I"⟩
abbrev cX7_partCount : ByteArray := prog_9_method_9_code
def yX7_partCount : MethodName := ⟨RX7, "partCount", "()I"⟩
abbrev cX7_partsOf : ByteArray := prog_9_method_10_code
def yX7_partsOf : MethodName := ⟨RX7, "partsOf", "(I)I"⟩
abbrev cX7_twelfthsOf : ByteArray := prog_9_method_11_code
def yX7_twelfthsOf : MethodName := ⟨RX7, "twelfthsOf", "(I)I"⟩
abbrev cX7_partsAway : ByteArray := prog_9_method_12_code
def yX7_partsAway : MethodName := ⟨RX7, "partsAway", "(I)I"⟩
abbrev cX7_twelfthsAway : ByteArray := prog_9_method_13_code
def yX7_twelfthsAway : MethodName := ⟨RX7, "twelfthsAway", "(I)I"⟩
abbrev cX7_takesStatement : ByteArray := prog_9_method_14_code
def yX7_takesStatement : MethodName := ⟨RX7, "takesStatement", "(I[I)Z"⟩
abbrev cX7_takesPlaces : ByteArray := prog_9_method_15_code
def yX7_takesPlaces : MethodName := ⟨RX7, "takesPlaces", "(I)Z"⟩
abbrev cX7_placesInUse : ByteArray := prog_9_method_16_code
def yX7_placesInUse : MethodName := ⟨RX7, "placesInUse", "()I"⟩
abbrev cX7_takesWay : ByteArray := prog_9_method_17_code
def yX7_takesWay : MethodName := ⟨RX7, "takesWay", "(III)Z"⟩
abbrev cX7_takesPerson : ByteArray := prog_9_method_18_code
def yX7_takesPerson : MethodName := ⟨RX7, "takesPerson", "([I)Z"⟩
abbrev cX7_takesWork : ByteArray := prog_9_method_19_code
def yX7_takesWork : MethodName := ⟨RX7, "takesWork", "([I)Z"⟩
abbrev cX7_measure : ByteArray := prog_9_method_20_code
def yX7_measure : MethodName := ⟨RX7, "measure", "()V"⟩
abbrev cX7_shorten : ByteArray := prog_9_method_21_code
def yX7_shorten : MethodName := ⟨RX7, "shorten", "(III)V"⟩
abbrev cX7_minuteAt : ByteArray := prog_9_method_22_code
def yX7_minuteAt : MethodName := ⟨RX7, "minuteAt", "(II)I"⟩
def RX8 : String := "HalfHere$Work"
def TX8 : u_T := fun k => match k with
  | 0 => ("HalfHere$Work", "kind", "I", false)
  | 1 => ("HalfHere$Work", "place", "I", false)
  | 2 => ("HalfHere$Work", "needs", "[I", true)
  | _ => ("HalfHere$Work", "worth", "I", false)
def tyX8 : Nat → FieldType := fun k => match k with
  | 0 => .int
  | 1 => .int
  | 2 => .array .int
  | _ => .int
abbrev wsX80 : List Cond := u_ws RX8 TX8 4
theorem nmX8 : ∀ a, a < 4 → ∀ b, b < 4 → a ≠ b → (TX8 a).2.1 ≠ (TX8 b).2.1 := by decide +kernel
theorem tyX8_ok : ∀ k, k < 4 → parseFieldDescriptor (TX8 k).2.2.1 = some (tyX8 k) := by decide +kernel
abbrev cX8_init : ByteArray := prog_10_method_1_code
def yX8_init : MethodName := ⟨RX8, "<init>", "()V"⟩
abbrev cX8_become : ByteArray := prog_10_method_2_code
def yX8_become : MethodName := ⟨RX8, "become", "(LHalfHere$Work;)V"⟩
def RX9 : String := "HalfHere"
def TX9 : u_T := fun k => match k with
  | 0 => ("HalfHere", "tape", "LHalfHere$Tape;", true)
  | 1 => ("HalfHere", "now", "LHalfHere$Village;", true)
  | 2 => ("HalfHere", "trial", "LHalfHere$Village;", true)
  | 3 => ("HalfHere", "kept", "LHalfHere$Village;", true)
  | 4 => ("HalfHere", "isKept", "Z", false)
  | 5 => ("HalfHere", "effort", "LHalfHere$Effort;", true)
  | 6 => ("HalfHere", "planner", "LHalfHere$Planner;", true)
  | 7 => ("HalfHere", "quartering", "LHalfHere$Quartering;", true)
  | 8 => ("HalfHere", "company", "LHalfHere$Company;", true)
  | 9 => ("HalfHere", "row", "[I", true)
  | 10 => ("HalfHere", "rowLength", "I", false)
  | _ => ("HalfHere", "refusals", "[I", true)
def tyX9 : Nat → FieldType := fun k => match k with
  | 0 => .object "HalfHere$Tape"
  | 1 => .object "HalfHere$Village"
  | 2 => .object "HalfHere$Village"
  | 3 => .object "HalfHere$Village"
  | 4 => .boolean
  | 5 => .object "HalfHere$Effort"
  | 6 => .object "HalfHere$Planner"
  | 7 => .object "HalfHere$Quartering"
  | 8 => .object "HalfHere$Company"
  | 9 => .array .int
  | 10 => .int
  | _ => .array .int
abbrev wsX90 : List Cond := u_ws RX9 TX9 12
theorem nmX9 : ∀ a, a < 12 → ∀ b, b < 12 → a ≠ b → (TX9 a).2.1 ≠ (TX9 b).2.1 := by decide +kernel
theorem tyX9_ok : ∀ k, k < 12 → parseFieldDescriptor (TX9 k).2.2.1 = some (tyX9 k) := by decide +kernel
abbrev cX9_init : ByteArray := prog_1_method_1_code
def yX9_init : MethodName := ⟨RX9, "<init>", "()V"⟩
abbrev cX9_feed : ByteArray := prog_1_method_2_code
def yX9_feed : MethodName := ⟨RX9, "feed", "(I)I"⟩
abbrev cX9_village : ByteArray := prog_1_method_3_code
def yX9_village : MethodName := ⟨RX9, "village", "()I"⟩
abbrev cX9_person : ByteArray := prog_1_method_4_code
def yX9_person : MethodName := ⟨RX9, "person", "(II)I"⟩
abbrev cX9_work : ByteArray := prog_1_method_5_code
def yX9_work : MethodName := ⟨RX9, "work", "(II)I"⟩
abbrev cX9_minutes : ByteArray := prog_1_method_6_code
def yX9_minutes : MethodName := ⟨RX9, "minutes", "(II)I"⟩
abbrev cX9_partOf : ByteArray := prog_1_method_7_code
def yX9_partOf : MethodName := ⟨RX9, "partOf", "(II)I"⟩
abbrev cX9_split : ByteArray := prog_1_method_8_code
def yX9_split : MethodName := ⟨RX9, "split", "(II)I"⟩
abbrev cX9_go : ByteArray := prog_1_method_9_code
def yX9_go : MethodName := ⟨RX9, "go", "(II)I"⟩
abbrev cX9_see : ByteArray := prog_1_method_10_code
def yX9_see : MethodName := ⟨RX9, "see", "(I)I"⟩
abbrev cX9_join : ByteArray := prog_1_method_11_code
def yX9_join : MethodName := ⟨RX9, "join", "(II)I"⟩
abbrev cX9_at : ByteArray := prog_1_method_12_code
def yX9_at : MethodName := ⟨RX9, "at", "(II)I"⟩
abbrev cX9_toil : ByteArray := prog_1_method_13_code
def yX9_toil : MethodName := ⟨RX9, "toil", "(II)I"⟩
abbrev cX9_rest : ByteArray := prog_1_method_14_code
def yX9_rest : MethodName := ⟨RX9, "rest", "(II)I"⟩
abbrev cX9_lose : ByteArray := prog_1_method_15_code
def yX9_lose : MethodName := ⟨RX9, "lose", "(I)I"⟩
abbrev cX9_does : ByteArray := prog_1_method_16_code
def yX9_does : MethodName := ⟨RX9, "does", "(II)I"⟩
abbrev cX9_well : ByteArray := prog_1_method_17_code
def yX9_well : MethodName := ⟨RX9, "well", "(II)I"⟩
abbrev cX9_plan : ByteArray := prog_1_method_18_code
def yX9_plan : MethodName := ⟨RX9, "plan", "(I)I"⟩
abbrev cX9_planned : ByteArray := prog_1_method_19_code
def yX9_planned : MethodName := ⟨RX9, "planned", "(III)I"⟩
abbrev cX9_best : ByteArray := prog_1_method_20_code
def yX9_best : MethodName := ⟨RX9, "best", "()I"⟩
abbrev cX9_quarters : ByteArray := prog_1_method_21_code
def yX9_quarters : MethodName := ⟨RX9, "quarters", "(II)I"⟩
abbrev cX9_must : ByteArray := prog_1_method_22_code
def yX9_must : MethodName := ⟨RX9, "must", "()I"⟩
abbrev cX9_with : ByteArray := prog_1_method_23_code
def yX9_with : MethodName := ⟨RX9, "with", "(I)I"⟩
abbrev cX9_thin : ByteArray := prog_1_method_24_code
def yX9_thin : MethodName := ⟨RX9, "thin", "(I)I"⟩
abbrev cX9_few : ByteArray := prog_1_method_25_code
def yX9_few : MethodName := ⟨RX9, "few", "(II)I"⟩
abbrev cX9_chance : ByteArray := prog_1_method_26_code
def yX9_chance : MethodName := ⟨RX9, "chance", "(IIII)J"⟩
abbrev cX9_together : ByteArray := prog_1_method_27_code
def yX9_together : MethodName := ⟨RX9, "together", "(II)I"⟩
abbrev cX9_known : ByteArray := prog_1_method_28_code
def yX9_known : MethodName := ⟨RX9, "known", "(II)I"⟩
abbrev cX9_row : ByteArray := prog_1_method_29_code
def yX9_row : MethodName := ⟨RX9, "row", "(I)I"⟩
abbrev cX9_judge : ByteArray := prog_1_method_30_code
def yX9_judge : MethodName := ⟨RX9, "judge", "(I)I"⟩
abbrev cX9_image : ByteArray := prog_1_method_31_code
def yX9_image : MethodName := ⟨RX9, "image", "()I"⟩
abbrev cX9_on : ByteArray := prog_1_method_32_code
def yX9_on : MethodName := ⟨RX9, "on", "()I"⟩
abbrev cX9_count : ByteArray := prog_1_method_33_code
def yX9_count : MethodName := ⟨RX9, "count", "(I)I"⟩
abbrev cX9_refuse : ByteArray := prog_1_method_34_code
def yX9_refuse : MethodName := ⟨RX9, "refuse", "(I)I"⟩
abbrev cX9_refusalOfTime : ByteArray := prog_1_method_35_code
def yX9_refusalOfTime : MethodName := ⟨RX9, "refusalOfTime", "(II)I"⟩
abbrev cX9_refusalOfParts : ByteArray := prog_1_method_36_code
def yX9_refusalOfParts : MethodName := ⟨RX9, "refusalOfParts", "(II)I"⟩
abbrev cX9_refusalOfChance : ByteArray := prog_1_method_37_code
def yX9_refusalOfChance : MethodName := ⟨RX9, "refusalOfChance", "(IIII)I"⟩
abbrev cX9_gatherParts : ByteArray := prog_1_method_38_code
def yX9_gatherParts : MethodName := ⟨RX9, "gatherParts", "(I)V"⟩
abbrev cX9_worksDone : ByteArray := prog_1_method_39_code
def yX9_worksDone : MethodName := ⟨RX9, "worksDone", "()I"⟩
abbrev cX9_meanLeft : ByteArray := prog_1_method_40_code
def yX9_meanLeft : MethodName := ⟨RX9, "meanLeft", "(III)J"⟩
abbrev cX9_allLeft : ByteArray := prog_1_method_41_code
def yX9_allLeft : MethodName := ⟨RX9, "allLeft", "(III)J"⟩
abbrev cX9_commonDivisor : ByteArray := prog_1_method_42_code
def yX9_commonDivisor : MethodName := ⟨RX9, "commonDivisor", "(JJ)J"⟩
abbrev cX9_judged : ByteArray := prog_1_method_43_code
def yX9_judged : MethodName := ⟨RX9, "judged", "(I)I"⟩
def RX10 : String := "HalfHereModel"
def TX10 : u_T := fun k => match k with
  | 0 => ("HalfHereModel", "refusals", "[I", true)
  | 1 => ("HalfHereModel", "s", "[I", true)
  | 2 => ("HalfHereModel", "image", "[I", true)
  | 3 => ("HalfHereModel", "read", "[I", true)
  | 4 => ("HalfHereModel", "isImage", "Z", false)
  | 5 => ("HalfHereModel", "tape", "[I", true)
  | 6 => ("HalfHereModel", "told", "[I", true)
  | 7 => ("HalfHereModel", "taped", "I", false)
  | 8 => ("HalfHereModel", "at", "I", false)
  | 9 => ("HalfHereModel", "far", "[I", true)
  | 10 => ("HalfHereModel", "sum", "[I", true)
  | 11 => ("HalfHereModel", "there", "I", false)
  | 12 => ("HalfHereModel", "above", "I", false)
  | 13 => ("HalfHereModel", "below", "I", false)
  | 14 => ("HalfHereModel", "share", "[I", true)
  | 15 => ("HalfHereModel", "ahead", "[I", true)
  | 16 => ("HalfHereModel", "bestShare", "[I", true)
  | 17 => ("HalfHereModel", "bestWorth", "I", false)
  | 18 => ("HalfHereModel", "row", "[I", true)
  | _ => ("HalfHereModel", "rowed", "I", false)
def tyX10 : Nat → FieldType := fun k => match k with
  | 0 => .array .int
  | 1 => .array .int
  | 2 => .array .int
  | 3 => .array .int
  | 4 => .boolean
  | 5 => .array .int
  | 6 => .array .int
  | 7 => .int
  | 8 => .int
  | 9 => .array .int
  | 10 => .array .int
  | 11 => .int
  | 12 => .int
  | 13 => .int
  | 14 => .array .int
  | 15 => .array .int
  | 16 => .array .int
  | 17 => .int
  | 18 => .array .int
  | _ => .int
abbrev wsX100 : List Cond := u_ws RX10 TX10 20
theorem nmX10 : ∀ a, a < 20 → ∀ b, b < 20 → a ≠ b → (TX10 a).2.1 ≠ (TX10 b).2.1 := by decide +kernel
theorem tyX10_ok : ∀ k, k < 20 → parseFieldDescriptor (TX10 k).2.2.1 = some (tyX10 k) := by decide +kernel
abbrev cX10_init : ByteArray := prog_12_method_1_code
def yX10_init : MethodName := ⟨RX10, "<init>", "()V"⟩
abbrev cX10_refuse : ByteArray := prog_12_method_2_code
def yX10_refuse : MethodName := ⟨RX10, "refuse", "(I)I"⟩
abbrev cX10_isIn : ByteArray := prog_12_method_3_code
def yX10_isIn : MethodName := ⟨RX10, "isIn", "(II)Z"⟩
abbrev cX10_within : ByteArray := prog_12_method_4_code
def yX10_within : MethodName := ⟨RX10, "within", "(III)I"⟩
abbrev cX10_isSpot : ByteArray := prog_12_method_5_code
def yX10_isSpot : MethodName := ⟨RX10, "isSpot", "(I)Z"⟩
abbrev cX10_isPerson : ByteArray := prog_12_method_6_code
def yX10_isPerson : MethodName := ⟨RX10, "isPerson", "(I)Z"⟩
abbrev cX10_isWork : ByteArray := prog_12_method_7_code
def yX10_isWork : MethodName := ⟨RX10, "isWork", "(I)Z"⟩
abbrev cX10_isPart : ByteArray := prog_12_method_8_code
def yX10_isPart : MethodName := ⟨RX10, "isPart", "(I)Z"⟩
abbrev cX10_get : ByteArray := prog_12_method_9_code
def yX10_get : MethodName := ⟨RX10, "get", "(II)I"⟩
abbrev cX10_of : ByteArray := prog_12_method_10_code
def yX10_of : MethodName := ⟨RX10, "of", "(II)I"⟩
abbrev cX10_part : ByteArray := prog_12_method_11_code
def yX10_part : MethodName := ⟨RX10, "part", "(II)I"⟩
abbrev cX10_puts : ByteArray := prog_12_method_12_code
def yX10_puts : MethodName := ⟨RX10, "puts", "(III)V"⟩
abbrev cX10_feed : ByteArray := prog_12_method_13_code
def yX10_feed : MethodName := ⟨RX10, "feed", "(I)I"⟩
abbrev cX10_sign : ByteArray := prog_12_method_14_code
def yX10_sign : MethodName := ⟨RX10, "sign", "()I"⟩
abbrev cX10_takes : ByteArray := prog_12_method_15_code
def yX10_takes : MethodName := ⟨RX10, "takes", "(I)Z"⟩
abbrev cX10_readsNumber : ByteArray := prog_12_method_16_code
def yX10_readsNumber : MethodName := ⟨RX10, "readsNumber", "(II)Z"⟩
abbrev cX10_kindOf : ByteArray := prog_12_method_17_code
def yX10_kindOf : MethodName := ⟨RX10, "kindOf", "(I)I"⟩
abbrev cX10_readsStatement : ByteArray := prog_12_method_18_code
def yX10_readsStatement : MethodName := ⟨RX10, "readsStatement", "()Z"⟩
abbrev cX10_toldOf : ByteArray := prog_12_method_19_code
def yX10_toldOf : MethodName := ⟨RX10, "toldOf", "()I"⟩
abbrev cX10_free : ByteArray := prog_12_method_20_code
def yX10_free : MethodName := ⟨RX10, "free", "([I)I"⟩
abbrev cX10_comesPerson : ByteArray := prog_12_method_21_code
def yX10_comesPerson : MethodName := ⟨RX10, "comesPerson", "()Z"⟩
abbrev cX10_comes : ByteArray := prog_12_method_22_code
def yX10_comes : MethodName := ⟨RX10, "comes", "(I)Z"⟩
abbrev cX10_reads : ByteArray := prog_12_method_23_code
def yX10_reads : MethodName := ⟨RX10, "reads", "()I"⟩
abbrev cX10_village : ByteArray := prog_12_method_24_code
def yX10_village : MethodName := ⟨RX10, "village", "()I"⟩
abbrev cX10_leftOf : ByteArray := prog_12_method_25_code
def yX10_leftOf : MethodName := ⟨RX10, "leftOf", "(I)I"⟩
abbrev cX10_partsOf : ByteArray := prog_12_method_26_code
def yX10_partsOf : MethodName := ⟨RX10, "partsOf", "(I)I"⟩
abbrev cX10_person : ByteArray := prog_12_method_27_code
def yX10_person : MethodName := ⟨RX10, "person", "(II)I"⟩
abbrev cX10_work : ByteArray := prog_12_method_28_code
def yX10_work : MethodName := ⟨RX10, "work", "(II)I"⟩
abbrev cX10_findsFar : ByteArray := prog_12_method_29_code
def yX10_findsFar : MethodName := ⟨RX10, "findsFar", "()V"⟩
abbrev cX10_minutesOf : ByteArray := prog_12_method_30_code
def yX10_minutesOf : MethodName := ⟨RX10, "minutesOf", "(II)I"⟩
abbrev cX10_minutes : ByteArray := prog_12_method_31_code
def yX10_minutes : MethodName := ⟨RX10, "minutes", "(II)I"⟩
abbrev cX10_partOf : ByteArray := prog_12_method_32_code
def yX10_partOf : MethodName := ⟨RX10, "partOf", "(II)I"⟩
abbrev cX10_split : ByteArray := prog_12_method_33_code
def yX10_split : MethodName := ⟨RX10, "split", "(II)I"⟩
abbrev cX10_go : ByteArray := prog_12_method_34_code
def yX10_go : MethodName := ⟨RX10, "go", "(II)I"⟩
abbrev cX10_bits : ByteArray := prog_12_method_35_code
def yX10_bits : MethodName := ⟨RX10, "bits", "(I)I"⟩
abbrev cX10_see : ByteArray := prog_12_method_36_code
def yX10_see : MethodName := ⟨RX10, "see", "(I)I"⟩
abbrev cX10_greater : ByteArray := prog_12_method_37_code
def yX10_greater : MethodName := ⟨RX10, "greater", "(II)I"⟩
abbrev cX10_join : ByteArray := prog_12_method_38_code
def yX10_join : MethodName := ⟨RX10, "join", "(II)I"⟩
abbrev cX10_at : ByteArray := prog_12_method_39_code
def yX10_at : MethodName := ⟨RX10, "at", "(II)I"⟩
abbrev cX10_toil : ByteArray := prog_12_method_40_code
def yX10_toil : MethodName := ⟨RX10, "toil", "(II)I"⟩
abbrev cX10_rest : ByteArray := prog_12_method_41_code
def yX10_rest : MethodName := ⟨RX10, "rest", "(II)I"⟩
abbrev cX10_lose : ByteArray := prog_12_method_42_code
def yX10_lose : MethodName := ⟨RX10, "lose", "(I)I"⟩
abbrev cX10_begins : ByteArray := prog_12_method_43_code
def yX10_begins : MethodName := ⟨RX10, "begins", "()V"⟩
abbrev cX10_giftOf : ByteArray := prog_12_method_44_code
def yX10_giftOf : MethodName := ⟨RX10, "giftOf", "(IIIII)I"⟩
abbrev cX10_gives : ByteArray := prog_12_method_45_code
def yX10_gives : MethodName := ⟨RX10, "gives", "(IIII)V"⟩
abbrev cX10_doesOf : ByteArray := prog_12_method_46_code
def yX10_doesOf : MethodName := ⟨RX10, "doesOf", "(II)I"⟩
abbrev cX10_gathers : ByteArray := prog_12_method_47_code
def yX10_gathers : MethodName := ⟨RX10, "gathers", "(I)V"⟩
abbrev cX10_does : ByteArray := prog_12_method_48_code
def yX10_does : MethodName := ⟨RX10, "does", "(II)I"⟩
abbrev cX10_findsWell : ByteArray := prog_12_method_49_code
def yX10_findsWell : MethodName := ⟨RX10, "findsWell", "(I)V"⟩
abbrev cX10_isDoneNow : ByteArray := prog_12_method_50_code
def yX10_isDoneNow : MethodName := ⟨RX10, "isDoneNow", "(I)Z"⟩
abbrev cX10_common : ByteArray := prog_12_method_51_code
def yX10_common : MethodName := ⟨RX10, "common", "(II)I"⟩
abbrev cX10_well : ByteArray := prog_12_method_52_code
def yX10_well : MethodName := ⟨RX10, "well", "(II)I"⟩
abbrev cX10_gathersBy : ByteArray := prog_12_method_53_code
def yX10_gathersBy : MethodName := ⟨RX10, "gathersBy", "(III)V"⟩
abbrev cX10_isDoneBy : ByteArray := prog_12_method_54_code
def yX10_isDoneBy : MethodName := ⟨RX10, "isDoneBy", "(III)Z"⟩
abbrev cX10_helps : ByteArray := prog_12_method_55_code
def yX10_helps : MethodName := ⟨RX10, "helps", "(III)Z"⟩
abbrev cX10_plansWholes : ByteArray := prog_12_method_56_code
def yX10_plansWholes : MethodName := ⟨RX10, "plansWholes", "()V"⟩
abbrev cX10_plansEven : ByteArray := prog_12_method_57_code
def yX10_plansEven : MethodName := ⟨RX10, "plansEven", "()V"⟩
abbrev cX10_givenOf : ByteArray := prog_12_method_58_code
def yX10_givenOf : MethodName := ⟨RX10, "givenOf", "(I)I"⟩
abbrev cX10_plansNeed : ByteArray := prog_12_method_59_code
def yX10_plansNeed : MethodName := ⟨RX10, "plansNeed", "(Z)V"⟩
abbrev cX10_plans : ByteArray := prog_12_method_60_code
def yX10_plans : MethodName := ⟨RX10, "plans", "(I)V"⟩
abbrev cX10_worthOf : ByteArray := prog_12_method_61_code
def yX10_worthOf : MethodName := ⟨RX10, "worthOf", "()I"⟩
abbrev cX10_plan : ByteArray := prog_12_method_62_code
def yX10_plan : MethodName := ⟨RX10, "plan", "(I)I"⟩
abbrev cX10_planned : ByteArray := prog_12_method_63_code
def yX10_planned : MethodName := ⟨RX10, "planned", "(III)I"⟩
abbrev cX10_worthByQuarters : ByteArray := prog_12_method_64_code
def yX10_worthByQuarters : MethodName := ⟨RX10, "worthByQuarters", "()I"⟩
abbrev cX10_quartersFrom : ByteArray := prog_12_method_65_code
def yX10_quartersFrom : MethodName := ⟨RX10, "quartersFrom", "(III)V"⟩
abbrev cX10_findsBest : ByteArray := prog_12_method_66_code
def yX10_findsBest : MethodName := ⟨RX10, "findsBest", "()V"⟩
abbrev cX10_areFew : ByteArray := prog_12_method_67_code
def yX10_areFew : MethodName := ⟨RX10, "areFew", "()Z"⟩
abbrev cX10_best : ByteArray := prog_12_method_68_code
def yX10_best : MethodName := ⟨RX10, "best", "()I"⟩
abbrev cX10_quarters : ByteArray := prog_12_method_69_code
def yX10_quarters : MethodName := ⟨RX10, "quarters", "(II)I"⟩
abbrev cX10_canAll : ByteArray := prog_12_method_70_code
def yX10_canAll : MethodName := ⟨RX10, "canAll", "(II)Z"⟩
abbrev cX10_must : ByteArray := prog_12_method_71_code
def yX10_must : MethodName := ⟨RX10, "must", "()I"⟩
abbrev cX10_with : ByteArray := prog_12_method_72_code
def yX10_with : MethodName := ⟨RX10, "with", "(I)I"⟩
abbrev cX10_thin : ByteArray := prog_12_method_73_code
def yX10_thin : MethodName := ⟨RX10, "thin", "(I)I"⟩
abbrev cX10_few : ByteArray := prog_12_method_74_code
def yX10_few : MethodName := ⟨RX10, "few", "(II)I"⟩
abbrev cX10_commonLong : ByteArray := prog_12_method_75_code
def yX10_commonLong : MethodName := ⟨RX10, "commonLong", "(JJ)J"⟩
abbrev cX10_chance : ByteArray := prog_12_method_76_code
def yX10_chance : MethodName := ⟨RX10, "chance", "(IIII)J"⟩
abbrev cX10_together : ByteArray := prog_12_method_77_code
def yX10_together : MethodName := ⟨RX10, "together", "(II)I"⟩
abbrev cX10_known : ByteArray := prog_12_method_78_code
def yX10_known : MethodName := ⟨RX10, "known", "(II)I"⟩
abbrev cX10_row : ByteArray := prog_12_method_79_code
def yX10_row : MethodName := ⟨RX10, "row", "(I)I"⟩
abbrev cX10_judge : ByteArray := prog_12_method_80_code
def yX10_judge : MethodName := ⟨RX10, "judge", "(I)I"⟩
abbrev cX10_parts : ByteArray := prog_12_method_81_code
def yX10_parts : MethodName := ⟨RX10, "parts", "()I"⟩
abbrev cX10_image : ByteArray := prog_12_method_82_code
def yX10_image : MethodName := ⟨RX10, "image", "()I"⟩
abbrev cX10_on : ByteArray := prog_12_method_83_code
def yX10_on : MethodName := ⟨RX10, "on", "()I"⟩
abbrev cX10_count : ByteArray := prog_12_method_84_code
def yX10_count : MethodName := ⟨RX10, "count", "(I)I"⟩
def RJ6 : String := "java/lang/Integer"
abbrev cJ6_bitCount_0f7a4 : ByteArray := prog_13_method_49_code
def yJ6_bitCount_0f7a4 : MethodName := ⟨RJ6, "bitCount", "(I)I"⟩
def RJ9 : String := "java/lang/Math"
abbrev cJ9_max_7cf53 : ByteArray := prog_14_method_65_code
def yJ9_max_7cf53 : MethodName := ⟨RJ9, "max", "(II)I"⟩
abbrev cJ9_max_f86c9 : ByteArray := prog_14_method_66_code
def yJ9_max_f86c9 : MethodName := ⟨RJ9, "max", "(JJ)J"⟩
abbrev cJ9_min_7cf53 : ByteArray := prog_14_method_69_code
def yJ9_min_7cf53 : MethodName := ⟨RJ9, "min", "(II)I"⟩
def RJ10 : String := "java/lang/System"
def RL : String := "HalfHereLaw"
abbrev cL_law : ByteArray := code
theorem dX0_init_0 : decode cX0_init 0 = .ok (.aload_n 0, 1) := by decide +kernel
theorem dX0_init_1 : decode cX0_init 1 = .ok (.invokespecial 3, 3) := by decide +kernel
theorem dX0_init_4 : decode cX0_init 4 = .ok (.aload_n 0, 1) := by decide +kernel
theorem dX0_init_5 : decode cX0_init 5 = .ok (.bipush 64, 2) := by decide +kernel
theorem dX0_init_7 : decode cX0_init 7 = .ok (.newarray .boolean, 2) := by decide +kernel
theorem dX0_init_9 : decode cX0_init 9 = .ok (.putfield 11, 3) := by decide +kernel
theorem dX0_init_12 : decode cX0_init 12 = .ok (.aload_n 0, 1) := by decide +kernel
theorem dX0_init_13 : decode cX0_init 13 = .ok (.bipush 64, 2) := by decide +kernel
theorem dX0_init_15 : decode cX0_init 15 = .ok (.newarray .boolean, 2) := by decide +kernel
theorem dX0_init_17 : decode cX0_init 17 = .ok (.putfield 15, 3) := by decide +kernel
theorem dX0_init_20 : decode cX0_init 20 = .ok (.aload_n 0, 1) := by decide +kernel
theorem dX0_init_21 : decode cX0_init 21 = .ok (.new 18, 3) := by decide +kernel
theorem dX0_init_24 : decode cX0_init 24 = .ok (.dup, 1) := by decide +kernel
theorem dX0_init_25 : decode cX0_init 25 = .ok (.invokespecial 20, 3) := by decide +kernel
theorem dX0_init_28 : decode cX0_init 28 = .ok (.putfield 21, 3) := by decide +kernel
theorem dX0_init_31 : decode cX0_init 31 = .ok (.return_, 1) := by decide +kernel
theorem dX0_fewestForWholes_0 : decode cX0_fewestForWholes 0 = .ok (.iconst 1, 1) := by decide +kernel
theorem dX0_fewestForWholes_1 : decode cX0_fewestForWholes 1 = .ok (.aload_n 1, 1) := by decide +kernel
theorem dX0_fewestForWholes_2 : decode cX0_fewestForWholes 2 = .ok (.getfield 25, 3) := by decide +kernel
theorem dX0_fewestForWholes_5 : decode cX0_fewestForWholes 5 = .ok (.ishl, 1) := by decide +kernel
theorem dX0_fewestForWholes_6 : decode cX0_fewestForWholes 6 = .ok (.istore_n 2, 1) := by decide +kernel
theorem dX0_fewestForWholes_7 : decode cX0_fewestForWholes 7 = .ok (.iconst 0, 1) := by decide +kernel
theorem dX0_fewestForWholes_8 : decode cX0_fewestForWholes 8 = .ok (.istore_n 3, 1) := by decide +kernel
theorem dX0_fewestForWholes_9 : decode cX0_fewestForWholes 9 = .ok (.iload_n 3, 1) := by decide +kernel
theorem dX0_fewestForWholes_10 : decode cX0_fewestForWholes 10 = .ok (.bipush 64, 2) := by decide +kernel
theorem dX0_fewestForWholes_12 : decode cX0_fewestForWholes 12 = .ok (.if_icmp .ge 25, 3) := by decide +kernel
theorem dX0_fewestForWholes_15 : decode cX0_fewestForWholes 15 = .ok (.aload_n 0, 1) := by decide +kernel
theorem dX0_fewestForWholes_16 : decode cX0_fewestForWholes 16 = .ok (.getfield 11, 3) := by decide +kernel
theorem dX0_fewestForWholes_19 : decode cX0_fewestForWholes 19 = .ok (.iload_n 3, 1) := by decide +kernel
theorem dX0_fewestForWholes_20 : decode cX0_fewestForWholes 20 = .ok (.iload_n 3, 1) := by decide +kernel
theorem dX0_fewestForWholes_21 : decode cX0_fewestForWholes 21 = .ok (.iload_n 2, 1) := by decide +kernel
theorem dX0_fewestForWholes_22 : decode cX0_fewestForWholes 22 = .ok (.if_icmp .ge 7, 3) := by decide +kernel
theorem dX0_fewestForWholes_25 : decode cX0_fewestForWholes 25 = .ok (.iconst 1, 1) := by decide +kernel
theorem dX0_fewestForWholes_26 : decode cX0_fewestForWholes 26 = .ok (.goto 4, 3) := by decide +kernel
theorem dX0_fewestForWholes_29 : decode cX0_fewestForWholes 29 = .ok (.iconst 0, 1) := by decide +kernel
theorem dX0_fewestForWholes_30 : decode cX0_fewestForWholes 30 = .ok (.bastore, 1) := by decide +kernel
theorem dX0_fewestForWholes_31 : decode cX0_fewestForWholes 31 = .ok (.iinc 3 1, 3) := by decide +kernel
theorem dX0_fewestForWholes_34 : decode cX0_fewestForWholes 34 = .ok (.goto (-25), 3) := by decide +kernel
theorem dX0_fewestForWholes_37 : decode cX0_fewestForWholes 37 = .ok (.iconst 0, 1) := by decide +kernel
theorem dX0_fewestForWholes_38 : decode cX0_fewestForWholes 38 = .ok (.istore_n 3, 1) := by decide +kernel
theorem dX0_fewestForWholes_39 : decode cX0_fewestForWholes 39 = .ok (.iload_n 3, 1) := by decide +kernel
theorem dX0_fewestForWholes_40 : decode cX0_fewestForWholes 40 = .ok (.aload_n 1, 1) := by decide +kernel
theorem dX0_fewestForWholes_41 : decode cX0_fewestForWholes 41 = .ok (.getfield 31, 3) := by decide +kernel
theorem dX0_fewestForWholes_44 : decode cX0_fewestForWholes 44 = .ok (.if_icmp .ge 38, 3) := by decide +kernel
theorem dX0_fewestForWholes_47 : decode cX0_fewestForWholes 47 = .ok (.aload_n 1, 1) := by decide +kernel
theorem dX0_fewestForWholes_48 : decode cX0_fewestForWholes 48 = .ok (.getfield 34, 3) := by decide +kernel
theorem dX0_fewestForWholes_51 : decode cX0_fewestForWholes 51 = .ok (.iload_n 3, 1) := by decide +kernel
theorem dX0_fewestForWholes_52 : decode cX0_fewestForWholes 52 = .ok (.aaload, 1) := by decide +kernel
theorem dX0_fewestForWholes_53 : decode cX0_fewestForWholes 53 = .ok (.getfield 38, 3) := by decide +kernel
theorem dX0_fewestForWholes_56 : decode cX0_fewestForWholes 56 = .ok (.iconst 1, 1) := by decide +kernel
theorem dX0_fewestForWholes_57 : decode cX0_fewestForWholes 57 = .ok (.if_icmp .ne 19, 3) := by decide +kernel
theorem dX0_fewestForWholes_60 : decode cX0_fewestForWholes 60 = .ok (.aload_n 0, 1) := by decide +kernel
theorem dX0_fewestForWholes_61 : decode cX0_fewestForWholes 61 = .ok (.aload_n 1, 1) := by decide +kernel
theorem dX0_fewestForWholes_62 : decode cX0_fewestForWholes 62 = .ok (.aload_n 1, 1) := by decide +kernel
theorem dX0_fewestForWholes_63 : decode cX0_fewestForWholes 63 = .ok (.getfield 34, 3) := by decide +kernel
theorem dX0_fewestForWholes_66 : decode cX0_fewestForWholes 66 = .ok (.iload_n 3, 1) := by decide +kernel
theorem dX0_fewestForWholes_67 : decode cX0_fewestForWholes 67 = .ok (.aaload, 1) := by decide +kernel
theorem dX0_fewestForWholes_68 : decode cX0_fewestForWholes 68 = .ok (.invokevirtual 43, 3) := by decide +kernel
theorem dX0_fewestForWholes_71 : decode cX0_fewestForWholes 71 = .ok (.aload_n 0, 1) := by decide +kernel
theorem dX0_fewestForWholes_72 : decode cX0_fewestForWholes 72 = .ok (.iload_n 2, 1) := by decide +kernel
theorem dX0_fewestForWholes_73 : decode cX0_fewestForWholes 73 = .ok (.invokevirtual 47, 3) := by decide +kernel
theorem dX0_fewestForWholes_76 : decode cX0_fewestForWholes 76 = .ok (.iinc 3 1, 3) := by decide +kernel
theorem dX0_fewestForWholes_79 : decode cX0_fewestForWholes 79 = .ok (.goto (-40), 3) := by decide +kernel
theorem dX0_fewestForWholes_82 : decode cX0_fewestForWholes 82 = .ok (.bipush (-9), 2) := by decide +kernel
theorem dX0_fewestForWholes_84 : decode cX0_fewestForWholes 84 = .ok (.istore_n 3, 1) := by decide +kernel
theorem dX0_fewestForWholes_85 : decode cX0_fewestForWholes 85 = .ok (.iconst 0, 1) := by decide +kernel
theorem dX0_fewestForWholes_86 : decode cX0_fewestForWholes 86 = .ok (.istore 4, 2) := by decide +kernel
theorem dX0_fewestForWholes_88 : decode cX0_fewestForWholes 88 = .ok (.iload 4, 2) := by decide +kernel
theorem dX0_fewestForWholes_90 : decode cX0_fewestForWholes 90 = .ok (.bipush 64, 2) := by decide +kernel
theorem dX0_fewestForWholes_92 : decode cX0_fewestForWholes 92 = .ok (.if_icmp .ge 40, 3) := by decide +kernel
theorem dX0_fewestForWholes_95 : decode cX0_fewestForWholes 95 = .ok (.aload_n 0, 1) := by decide +kernel
theorem dX0_fewestForWholes_96 : decode cX0_fewestForWholes 96 = .ok (.getfield 11, 3) := by decide +kernel
theorem dX0_fewestForWholes_99 : decode cX0_fewestForWholes 99 = .ok (.iload 4, 2) := by decide +kernel
theorem dX0_fewestForWholes_101 : decode cX0_fewestForWholes 101 = .ok (.baload, 1) := by decide +kernel
theorem dX0_fewestForWholes_102 : decode cX0_fewestForWholes 102 = .ok (.ifCond .eq 24, 3) := by decide +kernel
theorem dX0_fewestForWholes_105 : decode cX0_fewestForWholes 105 = .ok (.iload_n 3, 1) := by decide +kernel
theorem dX0_fewestForWholes_106 : decode cX0_fewestForWholes 106 = .ok (.bipush (-9), 2) := by decide +kernel
theorem dX0_fewestForWholes_108 : decode cX0_fewestForWholes 108 = .ok (.if_icmp .eq 15, 3) := by decide +kernel
theorem dX0_fewestForWholes_111 : decode cX0_fewestForWholes 111 = .ok (.iload 4, 2) := by decide +kernel
theorem dX0_fewestForWholes_113 : decode cX0_fewestForWholes 113 = .ok (.invokestatic 51, 3) := by decide +kernel
theorem dX0_fewestForWholes_116 : decode cX0_fewestForWholes 116 = .ok (.iload_n 3, 1) := by decide +kernel
theorem dX0_fewestForWholes_117 : decode cX0_fewestForWholes 117 = .ok (.invokestatic 51, 3) := by decide +kernel
theorem dX0_fewestForWholes_120 : decode cX0_fewestForWholes 120 = .ok (.if_icmp .ge 6, 3) := by decide +kernel
theorem dX0_fewestForWholes_123 : decode cX0_fewestForWholes 123 = .ok (.iload 4, 2) := by decide +kernel
theorem dX0_fewestForWholes_125 : decode cX0_fewestForWholes 125 = .ok (.istore_n 3, 1) := by decide +kernel
theorem dX0_fewestForWholes_126 : decode cX0_fewestForWholes 126 = .ok (.iinc 4 1, 3) := by decide +kernel
theorem dX0_fewestForWholes_129 : decode cX0_fewestForWholes 129 = .ok (.goto (-41), 3) := by decide +kernel
theorem dX0_fewestForWholes_132 : decode cX0_fewestForWholes 132 = .ok (.iload_n 3, 1) := by decide +kernel
theorem dX0_fewestForWholes_133 : decode cX0_fewestForWholes 133 = .ok (.ireturn, 1) := by decide +kernel
theorem dX0_fillEnough_0 : decode cX0_fillEnough 0 = .ok (.iconst 0, 1) := by decide +kernel
theorem dX0_fillEnough_1 : decode cX0_fillEnough 1 = .ok (.istore_n 3, 1) := by decide +kernel
theorem dX0_fillEnough_2 : decode cX0_fillEnough 2 = .ok (.iload_n 3, 1) := by decide +kernel
theorem dX0_fillEnough_3 : decode cX0_fillEnough 3 = .ok (.bipush 64, 2) := by decide +kernel
theorem dX0_fillEnough_5 : decode cX0_fillEnough 5 = .ok (.if_icmp .ge 77, 3) := by decide +kernel
theorem dX0_fillEnough_8 : decode cX0_fillEnough 8 = .ok (.aload_n 0, 1) := by decide +kernel
theorem dX0_fillEnough_9 : decode cX0_fillEnough 9 = .ok (.getfield 21, 3) := by decide +kernel
theorem dX0_fillEnough_12 : decode cX0_fillEnough 12 = .ok (.aload_n 2, 1) := by decide +kernel
theorem dX0_fillEnough_13 : decode cX0_fillEnough 13 = .ok (.invokevirtual 57, 3) := by decide +kernel
theorem dX0_fillEnough_16 : decode cX0_fillEnough 16 = .ok (.iconst 0, 1) := by decide +kernel
theorem dX0_fillEnough_17 : decode cX0_fillEnough 17 = .ok (.istore 4, 2) := by decide +kernel
theorem dX0_fillEnough_19 : decode cX0_fillEnough 19 = .ok (.iload 4, 2) := by decide +kernel
theorem dX0_fillEnough_21 : decode cX0_fillEnough 21 = .ok (.aload_n 1, 1) := by decide +kernel
theorem dX0_fillEnough_22 : decode cX0_fillEnough 22 = .ok (.getfield 25, 3) := by decide +kernel
theorem dX0_fillEnough_25 : decode cX0_fillEnough 25 = .ok (.if_icmp .ge 38, 3) := by decide +kernel
theorem dX0_fillEnough_28 : decode cX0_fillEnough 28 = .ok (.iload_n 3, 1) := by decide +kernel
theorem dX0_fillEnough_29 : decode cX0_fillEnough 29 = .ok (.iload 4, 2) := by decide +kernel
theorem dX0_fillEnough_31 : decode cX0_fillEnough 31 = .ok (.ishr, 1) := by decide +kernel
theorem dX0_fillEnough_32 : decode cX0_fillEnough 32 = .ok (.iconst 1, 1) := by decide +kernel
theorem dX0_fillEnough_33 : decode cX0_fillEnough 33 = .ok (.iand, 1) := by decide +kernel
theorem dX0_fillEnough_34 : decode cX0_fillEnough 34 = .ok (.iconst 1, 1) := by decide +kernel
theorem dX0_fillEnough_35 : decode cX0_fillEnough 35 = .ok (.if_icmp .ne 22, 3) := by decide +kernel
theorem dX0_fillEnough_38 : decode cX0_fillEnough 38 = .ok (.aload_n 0, 1) := by decide +kernel
theorem dX0_fillEnough_39 : decode cX0_fillEnough 39 = .ok (.getfield 21, 3) := by decide +kernel
theorem dX0_fillEnough_42 : decode cX0_fillEnough 42 = .ok (.iload 4, 2) := by decide +kernel
theorem dX0_fillEnough_44 : decode cX0_fillEnough 44 = .ok (.aload_n 1, 1) := by decide +kernel
theorem dX0_fillEnough_45 : decode cX0_fillEnough 45 = .ok (.getfield 61, 3) := by decide +kernel
theorem dX0_fillEnough_48 : decode cX0_fillEnough 48 = .ok (.iload 4, 2) := by decide +kernel
theorem dX0_fillEnough_50 : decode cX0_fillEnough 50 = .ok (.aaload, 1) := by decide +kernel
theorem dX0_fillEnough_51 : decode cX0_fillEnough 51 = .ok (.bipush 12, 2) := by decide +kernel
theorem dX0_fillEnough_53 : decode cX0_fillEnough 53 = .ok (.iconst 0, 1) := by decide +kernel
theorem dX0_fillEnough_54 : decode cX0_fillEnough 54 = .ok (.invokevirtual 65, 3) := by decide +kernel
theorem dX0_fillEnough_57 : decode cX0_fillEnough 57 = .ok (.iinc 4 1, 3) := by decide +kernel
theorem dX0_fillEnough_60 : decode cX0_fillEnough 60 = .ok (.goto (-41), 3) := by decide +kernel
theorem dX0_fillEnough_63 : decode cX0_fillEnough 63 = .ok (.aload_n 0, 1) := by decide +kernel
theorem dX0_fillEnough_64 : decode cX0_fillEnough 64 = .ok (.getfield 15, 3) := by decide +kernel
theorem dX0_fillEnough_67 : decode cX0_fillEnough 67 = .ok (.iload_n 3, 1) := by decide +kernel
theorem dX0_fillEnough_68 : decode cX0_fillEnough 68 = .ok (.aload_n 0, 1) := by decide +kernel
theorem dX0_fillEnough_69 : decode cX0_fillEnough 69 = .ok (.getfield 21, 3) := by decide +kernel
theorem dX0_fillEnough_72 : decode cX0_fillEnough 72 = .ok (.invokevirtual 69, 3) := by decide +kernel
theorem dX0_fillEnough_75 : decode cX0_fillEnough 75 = .ok (.bastore, 1) := by decide +kernel
theorem dX0_fillEnough_76 : decode cX0_fillEnough 76 = .ok (.iinc 3 1, 3) := by decide +kernel
theorem dX0_fillEnough_79 : decode cX0_fillEnough 79 = .ok (.goto (-77), 3) := by decide +kernel
theorem dX0_fillEnough_82 : decode cX0_fillEnough 82 = .ok (.return_, 1) := by decide +kernel
theorem dX0_share_0 : decode cX0_share 0 = .ok (.iload_n 1, 1) := by decide +kernel
theorem dX0_share_1 : decode cX0_share 1 = .ok (.bipush 64, 2) := by decide +kernel
theorem dX0_share_3 : decode cX0_share 3 = .ok (.invokestatic 73, 3) := by decide +kernel
theorem dX0_share_6 : decode cX0_share 6 = .ok (.iconst 1, 1) := by decide +kernel
theorem dX0_share_7 : decode cX0_share 7 = .ok (.isub, 1) := by decide +kernel
theorem dX0_share_8 : decode cX0_share 8 = .ok (.istore_n 2, 1) := by decide +kernel
theorem dX0_share_9 : decode cX0_share 9 = .ok (.iload_n 2, 1) := by decide +kernel
theorem dX0_share_10 : decode cX0_share 10 = .ok (.ifCond .lt 76, 3) := by decide +kernel
theorem dX0_share_13 : decode cX0_share 13 = .ok (.iconst 0, 1) := by decide +kernel
theorem dX0_share_14 : decode cX0_share 14 = .ok (.istore_n 3, 1) := by decide +kernel
theorem dX0_share_15 : decode cX0_share 15 = .ok (.iconst 0, 1) := by decide +kernel
theorem dX0_share_16 : decode cX0_share 16 = .ok (.istore 4, 2) := by decide +kernel
theorem dX0_share_18 : decode cX0_share 18 = .ok (.iload 4, 2) := by decide +kernel
theorem dX0_share_20 : decode cX0_share 20 = .ok (.iload_n 2, 1) := by decide +kernel
theorem dX0_share_21 : decode cX0_share 21 = .ok (.if_icmp .gt 52, 3) := by decide +kernel
theorem dX0_share_24 : decode cX0_share 24 = .ok (.iload_n 3, 1) := by decide +kernel
theorem dX0_share_25 : decode cX0_share 25 = .ok (.ifCond .ne 48, 3) := by decide +kernel
theorem dX0_share_28 : decode cX0_share 28 = .ok (.iload 4, 2) := by decide +kernel
theorem dX0_share_30 : decode cX0_share 30 = .ok (.iload_n 2, 1) := by decide +kernel
theorem dX0_share_31 : decode cX0_share 31 = .ok (.iconst (-1), 1) := by decide +kernel
theorem dX0_share_32 : decode cX0_share 32 = .ok (.ixor, 1) := by decide +kernel
theorem dX0_share_33 : decode cX0_share 33 = .ok (.iand, 1) := by decide +kernel
theorem dX0_share_34 : decode cX0_share 34 = .ok (.ifCond .ne 31, 3) := by decide +kernel
theorem dX0_share_37 : decode cX0_share 37 = .ok (.aload_n 0, 1) := by decide +kernel
theorem dX0_share_38 : decode cX0_share 38 = .ok (.getfield 15, 3) := by decide +kernel
theorem dX0_share_41 : decode cX0_share 41 = .ok (.iload 4, 2) := by decide +kernel
theorem dX0_share_43 : decode cX0_share 43 = .ok (.baload, 1) := by decide +kernel
theorem dX0_share_44 : decode cX0_share 44 = .ok (.ifCond .eq 21, 3) := by decide +kernel
theorem dX0_share_47 : decode cX0_share 47 = .ok (.aload_n 0, 1) := by decide +kernel
theorem dX0_share_48 : decode cX0_share 48 = .ok (.getfield 11, 3) := by decide +kernel
theorem dX0_share_51 : decode cX0_share 51 = .ok (.iload_n 2, 1) := by decide +kernel
theorem dX0_share_52 : decode cX0_share 52 = .ok (.iload 4, 2) := by decide +kernel
theorem dX0_share_54 : decode cX0_share 54 = .ok (.iconst (-1), 1) := by decide +kernel
theorem dX0_share_55 : decode cX0_share 55 = .ok (.ixor, 1) := by decide +kernel
theorem dX0_share_56 : decode cX0_share 56 = .ok (.iand, 1) := by decide +kernel
theorem dX0_share_57 : decode cX0_share 57 = .ok (.baload, 1) := by decide +kernel
theorem dX0_share_58 : decode cX0_share 58 = .ok (.ifCond .eq 7, 3) := by decide +kernel
theorem dX0_share_61 : decode cX0_share 61 = .ok (.iconst 1, 1) := by decide +kernel
theorem dX0_share_62 : decode cX0_share 62 = .ok (.goto 4, 3) := by decide +kernel
theorem dX0_share_65 : decode cX0_share 65 = .ok (.iconst 0, 1) := by decide +kernel
theorem dX0_share_66 : decode cX0_share 66 = .ok (.istore_n 3, 1) := by decide +kernel
theorem dX0_share_67 : decode cX0_share 67 = .ok (.iinc 4 1, 3) := by decide +kernel
theorem dX0_share_70 : decode cX0_share 70 = .ok (.goto (-52), 3) := by decide +kernel
theorem dX0_share_73 : decode cX0_share 73 = .ok (.aload_n 0, 1) := by decide +kernel
theorem dX0_share_74 : decode cX0_share 74 = .ok (.getfield 11, 3) := by decide +kernel
theorem dX0_share_77 : decode cX0_share 77 = .ok (.iload_n 2, 1) := by decide +kernel
theorem dX0_share_78 : decode cX0_share 78 = .ok (.iload_n 3, 1) := by decide +kernel
theorem dX0_share_79 : decode cX0_share 79 = .ok (.bastore, 1) := by decide +kernel
theorem dX0_share_80 : decode cX0_share 80 = .ok (.iinc 2 (-1), 3) := by decide +kernel
theorem dX0_share_83 : decode cX0_share 83 = .ok (.goto (-74), 3) := by decide +kernel
theorem dX0_share_86 : decode cX0_share 86 = .ok (.return_, 1) := by decide +kernel
theorem dX0_bestTwo_0 : decode cX0_bestTwo 0 = .ok (.bipush (-9), 2) := by decide +kernel
theorem dX0_bestTwo_2 : decode cX0_bestTwo 2 = .ok (.istore_n 3, 1) := by decide +kernel
theorem dX0_bestTwo_3 : decode cX0_bestTwo 3 = .ok (.iconst 0, 1) := by decide +kernel
theorem dX0_bestTwo_4 : decode cX0_bestTwo 4 = .ok (.istore 4, 2) := by decide +kernel
theorem dX0_bestTwo_6 : decode cX0_bestTwo 6 = .ok (.iconst 1, 1) := by decide +kernel
theorem dX0_bestTwo_7 : decode cX0_bestTwo 7 = .ok (.istore 5, 2) := by decide +kernel
theorem dX0_bestTwo_9 : decode cX0_bestTwo 9 = .ok (.iconst 0, 1) := by decide +kernel
theorem dX0_bestTwo_10 : decode cX0_bestTwo 10 = .ok (.istore 6, 2) := by decide +kernel
theorem dX0_bestTwo_12 : decode cX0_bestTwo 12 = .ok (.iload 6, 2) := by decide +kernel
theorem dX0_bestTwo_14 : decode cX0_bestTwo 14 = .ok (.aload_n 1, 1) := by decide +kernel
theorem dX0_bestTwo_15 : decode cX0_bestTwo 15 = .ok (.getfield 25, 3) := by decide +kernel
theorem dX0_bestTwo_18 : decode cX0_bestTwo 18 = .ok (.if_icmp .ge 139, 3) := by decide +kernel
theorem dX0_bestTwo_21 : decode cX0_bestTwo 21 = .ok (.iload 6, 2) := by decide +kernel
theorem dX0_bestTwo_23 : decode cX0_bestTwo 23 = .ok (.iconst 1, 1) := by decide +kernel
theorem dX0_bestTwo_24 : decode cX0_bestTwo 24 = .ok (.iadd, 1) := by decide +kernel
theorem dX0_bestTwo_25 : decode cX0_bestTwo 25 = .ok (.istore 7, 2) := by decide +kernel
theorem dX0_bestTwo_27 : decode cX0_bestTwo 27 = .ok (.iload 7, 2) := by decide +kernel
theorem dX0_bestTwo_29 : decode cX0_bestTwo 29 = .ok (.aload_n 1, 1) := by decide +kernel
theorem dX0_bestTwo_30 : decode cX0_bestTwo 30 = .ok (.getfield 25, 3) := by decide +kernel
theorem dX0_bestTwo_33 : decode cX0_bestTwo 33 = .ok (.if_icmp .ge 118, 3) := by decide +kernel
theorem dX0_bestTwo_36 : decode cX0_bestTwo 36 = .ok (.aload_n 0, 1) := by decide +kernel
theorem dX0_bestTwo_37 : decode cX0_bestTwo 37 = .ok (.getfield 21, 3) := by decide +kernel
theorem dX0_bestTwo_40 : decode cX0_bestTwo 40 = .ok (.aload_n 2, 1) := by decide +kernel
theorem dX0_bestTwo_41 : decode cX0_bestTwo 41 = .ok (.invokevirtual 57, 3) := by decide +kernel
theorem dX0_bestTwo_44 : decode cX0_bestTwo 44 = .ok (.aload_n 0, 1) := by decide +kernel
theorem dX0_bestTwo_45 : decode cX0_bestTwo 45 = .ok (.getfield 21, 3) := by decide +kernel
theorem dX0_bestTwo_48 : decode cX0_bestTwo 48 = .ok (.iload 6, 2) := by decide +kernel
theorem dX0_bestTwo_50 : decode cX0_bestTwo 50 = .ok (.aload_n 1, 1) := by decide +kernel
theorem dX0_bestTwo_51 : decode cX0_bestTwo 51 = .ok (.getfield 61, 3) := by decide +kernel
theorem dX0_bestTwo_54 : decode cX0_bestTwo 54 = .ok (.iload 6, 2) := by decide +kernel
theorem dX0_bestTwo_56 : decode cX0_bestTwo 56 = .ok (.aaload, 1) := by decide +kernel
theorem dX0_bestTwo_57 : decode cX0_bestTwo 57 = .ok (.bipush 12, 2) := by decide +kernel
theorem dX0_bestTwo_59 : decode cX0_bestTwo 59 = .ok (.iconst 0, 1) := by decide +kernel
theorem dX0_bestTwo_60 : decode cX0_bestTwo 60 = .ok (.invokevirtual 65, 3) := by decide +kernel
theorem dX0_bestTwo_63 : decode cX0_bestTwo 63 = .ok (.aload_n 0, 1) := by decide +kernel
theorem dX0_bestTwo_64 : decode cX0_bestTwo 64 = .ok (.getfield 21, 3) := by decide +kernel
theorem dX0_bestTwo_67 : decode cX0_bestTwo 67 = .ok (.iload 7, 2) := by decide +kernel
theorem dX0_bestTwo_69 : decode cX0_bestTwo 69 = .ok (.aload_n 1, 1) := by decide +kernel
theorem dX0_bestTwo_70 : decode cX0_bestTwo 70 = .ok (.getfield 61, 3) := by decide +kernel
theorem dX0_bestTwo_73 : decode cX0_bestTwo 73 = .ok (.iload 7, 2) := by decide +kernel
theorem dX0_bestTwo_75 : decode cX0_bestTwo 75 = .ok (.aaload, 1) := by decide +kernel
theorem dX0_bestTwo_76 : decode cX0_bestTwo 76 = .ok (.bipush 12, 2) := by decide +kernel
theorem dX0_bestTwo_78 : decode cX0_bestTwo 78 = .ok (.iconst 0, 1) := by decide +kernel
theorem dX0_bestTwo_79 : decode cX0_bestTwo 79 = .ok (.invokevirtual 65, 3) := by decide +kernel
theorem dX0_bestTwo_82 : decode cX0_bestTwo 82 = .ok (.aload_n 0, 1) := by decide +kernel
theorem dX0_bestTwo_83 : decode cX0_bestTwo 83 = .ok (.getfield 21, 3) := by decide +kernel
theorem dX0_bestTwo_86 : decode cX0_bestTwo 86 = .ok (.invokevirtual 79, 3) := by decide +kernel
theorem dX0_bestTwo_89 : decode cX0_bestTwo 89 = .ok (.iload_n 3, 1) := by decide +kernel
theorem dX0_bestTwo_90 : decode cX0_bestTwo 90 = .ok (.bipush (-9), 2) := by decide +kernel
theorem dX0_bestTwo_92 : decode cX0_bestTwo 92 = .ok (.if_icmp .eq 26, 3) := by decide +kernel
theorem dX0_bestTwo_95 : decode cX0_bestTwo 95 = .ok (.aload_n 0, 1) := by decide +kernel
theorem dX0_bestTwo_96 : decode cX0_bestTwo 96 = .ok (.getfield 21, 3) := by decide +kernel
theorem dX0_bestTwo_99 : decode cX0_bestTwo 99 = .ok (.getfield 82, 3) := by decide +kernel
theorem dX0_bestTwo_102 : decode cX0_bestTwo 102 = .ok (.iload 5, 2) := by decide +kernel
theorem dX0_bestTwo_104 : decode cX0_bestTwo 104 = .ok (.imul, 1) := by decide +kernel
theorem dX0_bestTwo_105 : decode cX0_bestTwo 105 = .ok (.iload 4, 2) := by decide +kernel
theorem dX0_bestTwo_107 : decode cX0_bestTwo 107 = .ok (.aload_n 0, 1) := by decide +kernel
theorem dX0_bestTwo_108 : decode cX0_bestTwo 108 = .ok (.getfield 21, 3) := by decide +kernel
theorem dX0_bestTwo_111 : decode cX0_bestTwo 111 = .ok (.getfield 85, 3) := by decide +kernel
theorem dX0_bestTwo_114 : decode cX0_bestTwo 114 = .ok (.imul, 1) := by decide +kernel
theorem dX0_bestTwo_115 : decode cX0_bestTwo 115 = .ok (.if_icmp .le 30, 3) := by decide +kernel
theorem dX0_bestTwo_118 : decode cX0_bestTwo 118 = .ok (.bipush 10, 2) := by decide +kernel
theorem dX0_bestTwo_120 : decode cX0_bestTwo 120 = .ok (.iload 6, 2) := by decide +kernel
theorem dX0_bestTwo_122 : decode cX0_bestTwo 122 = .ok (.imul, 1) := by decide +kernel
theorem dX0_bestTwo_123 : decode cX0_bestTwo 123 = .ok (.iload 7, 2) := by decide +kernel
theorem dX0_bestTwo_125 : decode cX0_bestTwo 125 = .ok (.iadd, 1) := by decide +kernel
theorem dX0_bestTwo_126 : decode cX0_bestTwo 126 = .ok (.istore_n 3, 1) := by decide +kernel
theorem dX0_bestTwo_127 : decode cX0_bestTwo 127 = .ok (.aload_n 0, 1) := by decide +kernel
theorem dX0_bestTwo_128 : decode cX0_bestTwo 128 = .ok (.getfield 21, 3) := by decide +kernel
theorem dX0_bestTwo_131 : decode cX0_bestTwo 131 = .ok (.getfield 82, 3) := by decide +kernel
theorem dX0_bestTwo_134 : decode cX0_bestTwo 134 = .ok (.istore 4, 2) := by decide +kernel
theorem dX0_bestTwo_136 : decode cX0_bestTwo 136 = .ok (.aload_n 0, 1) := by decide +kernel
theorem dX0_bestTwo_137 : decode cX0_bestTwo 137 = .ok (.getfield 21, 3) := by decide +kernel
theorem dX0_bestTwo_140 : decode cX0_bestTwo 140 = .ok (.getfield 85, 3) := by decide +kernel
theorem dX0_bestTwo_143 : decode cX0_bestTwo 143 = .ok (.istore 5, 2) := by decide +kernel
theorem dX0_bestTwo_145 : decode cX0_bestTwo 145 = .ok (.iinc 7 1, 3) := by decide +kernel
theorem dX0_bestTwo_148 : decode cX0_bestTwo 148 = .ok (.goto (-121), 3) := by decide +kernel
theorem dX0_bestTwo_151 : decode cX0_bestTwo 151 = .ok (.iinc 6 1, 3) := by decide +kernel
theorem dX0_bestTwo_154 : decode cX0_bestTwo 154 = .ok (.goto (-142), 3) := by decide +kernel
theorem dX0_bestTwo_157 : decode cX0_bestTwo 157 = .ok (.iload_n 3, 1) := by decide +kernel
theorem dX0_bestTwo_158 : decode cX0_bestTwo 158 = .ok (.ireturn, 1) := by decide +kernel
theorem dX1_init_0 : decode cX1_init 0 = .ok (.aload_n 0, 1) := by decide +kernel
theorem dX1_init_1 : decode cX1_init 1 = .ok (.invokespecial 3, 3) := by decide +kernel
theorem dX1_init_4 : decode cX1_init 4 = .ok (.aload_n 0, 1) := by decide +kernel
theorem dX1_init_5 : decode cX1_init 5 = .ok (.iconst 3, 1) := by decide +kernel
theorem dX1_init_6 : decode cX1_init 6 = .ok (.newarray .int, 2) := by decide +kernel
theorem dX1_init_8 : decode cX1_init 8 = .ok (.putfield 9, 3) := by decide +kernel
theorem dX1_init_11 : decode cX1_init 11 = .ok (.aload_n 0, 1) := by decide +kernel
theorem dX1_init_12 : decode cX1_init 12 = .ok (.iconst 3, 1) := by decide +kernel
theorem dX1_init_13 : decode cX1_init 13 = .ok (.newarray .int, 2) := by decide +kernel
theorem dX1_init_15 : decode cX1_init 15 = .ok (.putfield 15, 3) := by decide +kernel
theorem dX1_init_18 : decode cX1_init 18 = .ok (.aload_n 0, 1) := by decide +kernel
theorem dX1_init_19 : decode cX1_init 19 = .ok (.iconst 1, 1) := by decide +kernel
theorem dX1_init_20 : decode cX1_init 20 = .ok (.putfield 18, 3) := by decide +kernel
theorem dX1_init_23 : decode cX1_init 23 = .ok (.return_, 1) := by decide +kernel
theorem dX1_begin_0 : decode cX1_begin 0 = .ok (.aload_n 0, 1) := by decide +kernel
theorem dX1_begin_1 : decode cX1_begin 1 = .ok (.aload_n 1, 1) := by decide +kernel
theorem dX1_begin_2 : decode cX1_begin 2 = .ok (.getfield 22, 3) := by decide +kernel
theorem dX1_begin_5 : decode cX1_begin 5 = .ok (.putfield 27, 3) := by decide +kernel
theorem dX1_begin_8 : decode cX1_begin 8 = .ok (.aload_n 0, 1) := by decide +kernel
theorem dX1_begin_9 : decode cX1_begin 9 = .ok (.iconst 0, 1) := by decide +kernel
theorem dX1_begin_10 : decode cX1_begin 10 = .ok (.putfield 28, 3) := by decide +kernel
theorem dX1_begin_13 : decode cX1_begin 13 = .ok (.iconst 0, 1) := by decide +kernel
theorem dX1_begin_14 : decode cX1_begin 14 = .ok (.istore_n 2, 1) := by decide +kernel
theorem dX1_begin_15 : decode cX1_begin 15 = .ok (.iload_n 2, 1) := by decide +kernel
theorem dX1_begin_16 : decode cX1_begin 16 = .ok (.iconst 3, 1) := by decide +kernel
theorem dX1_begin_17 : decode cX1_begin 17 = .ok (.if_icmp .ge 28, 3) := by decide +kernel
theorem dX1_begin_20 : decode cX1_begin 20 = .ok (.aload_n 0, 1) := by decide +kernel
theorem dX1_begin_21 : decode cX1_begin 21 = .ok (.getfield 9, 3) := by decide +kernel
theorem dX1_begin_24 : decode cX1_begin 24 = .ok (.iload_n 2, 1) := by decide +kernel
theorem dX1_begin_25 : decode cX1_begin 25 = .ok (.aload_n 1, 1) := by decide +kernel
theorem dX1_begin_26 : decode cX1_begin 26 = .ok (.getfield 31, 3) := by decide +kernel
theorem dX1_begin_29 : decode cX1_begin 29 = .ok (.iload_n 2, 1) := by decide +kernel
theorem dX1_begin_30 : decode cX1_begin 30 = .ok (.iaload, 1) := by decide +kernel
theorem dX1_begin_31 : decode cX1_begin 31 = .ok (.iastore, 1) := by decide +kernel
theorem dX1_begin_32 : decode cX1_begin 32 = .ok (.aload_n 0, 1) := by decide +kernel
theorem dX1_begin_33 : decode cX1_begin 33 = .ok (.getfield 15, 3) := by decide +kernel
theorem dX1_begin_36 : decode cX1_begin 36 = .ok (.iload_n 2, 1) := by decide +kernel
theorem dX1_begin_37 : decode cX1_begin 37 = .ok (.iconst 0, 1) := by decide +kernel
theorem dX1_begin_38 : decode cX1_begin 38 = .ok (.iastore, 1) := by decide +kernel
theorem dX1_begin_39 : decode cX1_begin 39 = .ok (.iinc 2 1, 3) := by decide +kernel
theorem dX1_begin_42 : decode cX1_begin 42 = .ok (.goto (-27), 3) := by decide +kernel
theorem dX1_begin_45 : decode cX1_begin 45 = .ok (.return_, 1) := by decide +kernel
theorem dX1_stand_0 : decode cX1_stand 0 = .ok (.aload_n 0, 1) := by decide +kernel
theorem dX1_stand_1 : decode cX1_stand 1 = .ok (.dup, 1) := by decide +kernel
theorem dX1_stand_2 : decode cX1_stand 2 = .ok (.getfield 28, 3) := by decide +kernel
theorem dX1_stand_5 : decode cX1_stand 5 = .ok (.iconst 1, 1) := by decide +kernel
theorem dX1_stand_6 : decode cX1_stand 6 = .ok (.iload_n 1, 1) := by decide +kernel
theorem dX1_stand_7 : decode cX1_stand 7 = .ok (.ishl, 1) := by decide +kernel
theorem dX1_stand_8 : decode cX1_stand 8 = .ok (.ior, 1) := by decide +kernel
theorem dX1_stand_9 : decode cX1_stand 9 = .ok (.putfield 28, 3) := by decide +kernel
theorem dX1_stand_12 : decode cX1_stand 12 = .ok (.return_, 1) := by decide +kernel
theorem dX1_add_0 : decode cX1_add 0 = .ok (.aload_n 0, 1) := by decide +kernel
theorem dX1_add_1 : decode cX1_add 1 = .ok (.dup, 1) := by decide +kernel
theorem dX1_add_2 : decode cX1_add 2 = .ok (.getfield 28, 3) := by decide +kernel
theorem dX1_add_5 : decode cX1_add 5 = .ok (.iconst 1, 1) := by decide +kernel
theorem dX1_add_6 : decode cX1_add 6 = .ok (.iload_n 1, 1) := by decide +kernel
theorem dX1_add_7 : decode cX1_add 7 = .ok (.ishl, 1) := by decide +kernel
theorem dX1_add_8 : decode cX1_add 8 = .ok (.ior, 1) := by decide +kernel
theorem dX1_add_9 : decode cX1_add 9 = .ok (.putfield 28, 3) := by decide +kernel
theorem dX1_add_12 : decode cX1_add 12 = .ok (.iload 4, 2) := by decide +kernel
theorem dX1_add_14 : decode cX1_add 14 = .ok (.sipush 240, 3) := by decide +kernel
theorem dX1_add_17 : decode cX1_add 17 = .ok (.if_icmp .gt 15, 3) := by decide +kernel
theorem dX1_add_20 : decode cX1_add 20 = .ok (.iload_n 3, 1) := by decide +kernel
theorem dX1_add_21 : decode cX1_add 21 = .ok (.getstatic 32, 3) := by decide +kernel
theorem dX1_add_24 : decode cX1_add 24 = .ok (.aload_n 0, 1) := by decide +kernel
theorem dX1_add_25 : decode cX1_add 25 = .ok (.getfield 27, 3) := by decide +kernel
theorem dX1_add_28 : decode cX1_add 28 = .ok (.iaload, 1) := by decide +kernel
theorem dX1_add_29 : decode cX1_add 29 = .ok (.if_icmp .ge 4, 3) := by decide +kernel
theorem dX1_add_32 : decode cX1_add 32 = .ok (.return_, 1) := by decide +kernel
theorem dX1_add_33 : decode cX1_add 33 = .ok (.aload_n 2, 1) := by decide +kernel
theorem dX1_add_34 : decode cX1_add 34 = .ok (.getfield 35, 3) := by decide +kernel
theorem dX1_add_37 : decode cX1_add 37 = .ok (.iconst 0, 1) := by decide +kernel
theorem dX1_add_38 : decode cX1_add 38 = .ok (.iaload, 1) := by decide +kernel
theorem dX1_add_39 : decode cX1_add 39 = .ok (.istore 5, 2) := by decide +kernel
theorem dX1_add_41 : decode cX1_add 41 = .ok (.aload_n 0, 1) := by decide +kernel
theorem dX1_add_42 : decode cX1_add 42 = .ok (.getfield 27, 3) := by decide +kernel
theorem dX1_add_45 : decode cX1_add 45 = .ok (.iconst 5, 1) := by decide +kernel
theorem dX1_add_46 : decode cX1_add 46 = .ok (.if_icmp .ne 21, 3) := by decide +kernel
theorem dX1_add_49 : decode cX1_add 49 = .ok (.iload 5, 2) := by decide +kernel
theorem dX1_add_51 : decode cX1_add 51 = .ok (.iload 4, 2) := by decide +kernel
theorem dX1_add_53 : decode cX1_add 53 = .ok (.if_icmp .le 11, 3) := by decide +kernel
theorem dX1_add_56 : decode cX1_add 56 = .ok (.iload 5, 2) := by decide +kernel
theorem dX1_add_58 : decode cX1_add 58 = .ok (.iload 4, 2) := by decide +kernel
theorem dX1_add_60 : decode cX1_add 60 = .ok (.isub, 1) := by decide +kernel
theorem dX1_add_61 : decode cX1_add 61 = .ok (.goto 4, 3) := by decide +kernel
theorem dX1_add_64 : decode cX1_add 64 = .ok (.iconst 0, 1) := by decide +kernel
theorem dX1_add_65 : decode cX1_add 65 = .ok (.istore 5, 2) := by decide +kernel
theorem dX1_add_67 : decode cX1_add 67 = .ok (.aload_n 2, 1) := by decide +kernel
theorem dX1_add_68 : decode cX1_add 68 = .ok (.getfield 35, 3) := by decide +kernel
theorem dX1_add_71 : decode cX1_add 71 = .ok (.iconst 1, 1) := by decide +kernel
theorem dX1_add_72 : decode cX1_add 72 = .ok (.iaload, 1) := by decide +kernel
theorem dX1_add_73 : decode cX1_add 73 = .ok (.istore 6, 2) := by decide +kernel
theorem dX1_add_75 : decode cX1_add 75 = .ok (.aload_n 0, 1) := by decide +kernel
theorem dX1_add_76 : decode cX1_add 76 = .ok (.getfield 27, 3) := by decide +kernel
theorem dX1_add_79 : decode cX1_add 79 = .ok (.iconst 4, 1) := by decide +kernel
theorem dX1_add_80 : decode cX1_add 80 = .ok (.if_icmp .ne 9, 3) := by decide +kernel
theorem dX1_add_83 : decode cX1_add 83 = .ok (.iconst 2, 1) := by decide +kernel
theorem dX1_add_84 : decode cX1_add 84 = .ok (.iload 6, 2) := by decide +kernel
theorem dX1_add_86 : decode cX1_add 86 = .ok (.imul, 1) := by decide +kernel
theorem dX1_add_87 : decode cX1_add 87 = .ok (.istore 6, 2) := by decide +kernel
theorem dX1_add_89 : decode cX1_add 89 = .ok (.aload_n 0, 1) := by decide +kernel
theorem dX1_add_90 : decode cX1_add 90 = .ok (.getfield 15, 3) := by decide +kernel
theorem dX1_add_93 : decode cX1_add 93 = .ok (.iconst 0, 1) := by decide +kernel
theorem dX1_add_94 : decode cX1_add 94 = .ok (.dup2, 1) := by decide +kernel
theorem dX1_add_95 : decode cX1_add 95 = .ok (.iaload, 1) := by decide +kernel
theorem dX1_add_96 : decode cX1_add 96 = .ok (.iload 5, 2) := by decide +kernel
theorem dX1_add_98 : decode cX1_add 98 = .ok (.iload_n 3, 1) := by decide +kernel
theorem dX1_add_99 : decode cX1_add 99 = .ok (.imul, 1) := by decide +kernel
theorem dX1_add_100 : decode cX1_add 100 = .ok (.iadd, 1) := by decide +kernel
theorem dX1_add_101 : decode cX1_add 101 = .ok (.iastore, 1) := by decide +kernel
theorem dX1_add_102 : decode cX1_add 102 = .ok (.aload_n 0, 1) := by decide +kernel
theorem dX1_add_103 : decode cX1_add 103 = .ok (.getfield 15, 3) := by decide +kernel
theorem dX1_add_106 : decode cX1_add 106 = .ok (.iconst 1, 1) := by decide +kernel
theorem dX1_add_107 : decode cX1_add 107 = .ok (.dup2, 1) := by decide +kernel
theorem dX1_add_108 : decode cX1_add 108 = .ok (.iaload, 1) := by decide +kernel
theorem dX1_add_109 : decode cX1_add 109 = .ok (.iload 6, 2) := by decide +kernel
theorem dX1_add_111 : decode cX1_add 111 = .ok (.iload_n 3, 1) := by decide +kernel
theorem dX1_add_112 : decode cX1_add 112 = .ok (.imul, 1) := by decide +kernel
theorem dX1_add_113 : decode cX1_add 113 = .ok (.iadd, 1) := by decide +kernel
theorem dX1_add_114 : decode cX1_add 114 = .ok (.iastore, 1) := by decide +kernel
theorem dX1_add_115 : decode cX1_add 115 = .ok (.aload_n 0, 1) := by decide +kernel
theorem dX1_add_116 : decode cX1_add 116 = .ok (.getfield 15, 3) := by decide +kernel
theorem dX1_add_119 : decode cX1_add 119 = .ok (.iconst 2, 1) := by decide +kernel
theorem dX1_add_120 : decode cX1_add 120 = .ok (.dup2, 1) := by decide +kernel
theorem dX1_add_121 : decode cX1_add 121 = .ok (.iaload, 1) := by decide +kernel
theorem dX1_add_122 : decode cX1_add 122 = .ok (.aload_n 2, 1) := by decide +kernel
theorem dX1_add_123 : decode cX1_add 123 = .ok (.getfield 35, 3) := by decide +kernel
theorem dX1_add_126 : decode cX1_add 126 = .ok (.iconst 2, 1) := by decide +kernel
theorem dX1_add_127 : decode cX1_add 127 = .ok (.iaload, 1) := by decide +kernel
theorem dX1_add_128 : decode cX1_add 128 = .ok (.iload_n 3, 1) := by decide +kernel
theorem dX1_add_129 : decode cX1_add 129 = .ok (.imul, 1) := by decide +kernel
theorem dX1_add_130 : decode cX1_add 130 = .ok (.iadd, 1) := by decide +kernel
theorem dX1_add_131 : decode cX1_add 131 = .ok (.iastore, 1) := by decide +kernel
theorem dX1_add_132 : decode cX1_add 132 = .ok (.return_, 1) := by decide +kernel
theorem dX1_sum_0 : decode cX1_sum 0 = .ok (.aload_n 0, 1) := by decide +kernel
theorem dX1_sum_1 : decode cX1_sum 1 = .ok (.getfield 27, 3) := by decide +kernel
theorem dX1_sum_4 : decode cX1_sum 4 = .ok (.iconst 3, 1) := by decide +kernel
theorem dX1_sum_5 : decode cX1_sum 5 = .ok (.if_icmp .ne 30, 3) := by decide +kernel
theorem dX1_sum_8 : decode cX1_sum 8 = .ok (.aload_n 0, 1) := by decide +kernel
theorem dX1_sum_9 : decode cX1_sum 9 = .ok (.getfield 28, 3) := by decide +kernel
theorem dX1_sum_12 : decode cX1_sum 12 = .ok (.invokestatic 40, 3) := by decide +kernel
theorem dX1_sum_15 : decode cX1_sum 15 = .ok (.iconst 2, 1) := by decide +kernel
theorem dX1_sum_16 : decode cX1_sum 16 = .ok (.if_icmp .lt 19, 3) := by decide +kernel
theorem dX1_sum_19 : decode cX1_sum 19 = .ok (.aload_n 0, 1) := by decide +kernel
theorem dX1_sum_20 : decode cX1_sum 20 = .ok (.getfield 15, 3) := by decide +kernel
theorem dX1_sum_23 : decode cX1_sum 23 = .ok (.iload_n 1, 1) := by decide +kernel
theorem dX1_sum_24 : decode cX1_sum 24 = .ok (.iaload, 1) := by decide +kernel
theorem dX1_sum_25 : decode cX1_sum 25 = .ok (.aload_n 0, 1) := by decide +kernel
theorem dX1_sum_26 : decode cX1_sum 26 = .ok (.getfield 15, 3) := by decide +kernel
theorem dX1_sum_29 : decode cX1_sum 29 = .ok (.iload_n 1, 1) := by decide +kernel
theorem dX1_sum_30 : decode cX1_sum 30 = .ok (.iaload, 1) := by decide +kernel
theorem dX1_sum_31 : decode cX1_sum 31 = .ok (.iconst 2, 1) := by decide +kernel
theorem dX1_sum_32 : decode cX1_sum 32 = .ok (.idiv, 1) := by decide +kernel
theorem dX1_sum_33 : decode cX1_sum 33 = .ok (.iadd, 1) := by decide +kernel
theorem dX1_sum_34 : decode cX1_sum 34 = .ok (.ireturn, 1) := by decide +kernel
theorem dX1_sum_35 : decode cX1_sum 35 = .ok (.aload_n 0, 1) := by decide +kernel
theorem dX1_sum_36 : decode cX1_sum 36 = .ok (.getfield 15, 3) := by decide +kernel
theorem dX1_sum_39 : decode cX1_sum 39 = .ok (.iload_n 1, 1) := by decide +kernel
theorem dX1_sum_40 : decode cX1_sum 40 = .ok (.iaload, 1) := by decide +kernel
theorem dX1_sum_41 : decode cX1_sum 41 = .ok (.ireturn, 1) := by decide +kernel
theorem dX1_isDone_0 : decode cX1_isDone 0 = .ok (.iconst 0, 1) := by decide +kernel
theorem dX1_isDone_1 : decode cX1_isDone 1 = .ok (.istore_n 1, 1) := by decide +kernel
theorem dX1_isDone_2 : decode cX1_isDone 2 = .ok (.iload_n 1, 1) := by decide +kernel
theorem dX1_isDone_3 : decode cX1_isDone 3 = .ok (.iconst 3, 1) := by decide +kernel
theorem dX1_isDone_4 : decode cX1_isDone 4 = .ok (.if_icmp .ge 28, 3) := by decide +kernel
theorem dX1_isDone_7 : decode cX1_isDone 7 = .ok (.aload_n 0, 1) := by decide +kernel
theorem dX1_isDone_8 : decode cX1_isDone 8 = .ok (.iload_n 1, 1) := by decide +kernel
theorem dX1_isDone_9 : decode cX1_isDone 9 = .ok (.invokevirtual 46, 3) := by decide +kernel
theorem dX1_isDone_12 : decode cX1_isDone 12 = .ok (.bipush 12, 2) := by decide +kernel
theorem dX1_isDone_14 : decode cX1_isDone 14 = .ok (.aload_n 0, 1) := by decide +kernel
theorem dX1_isDone_15 : decode cX1_isDone 15 = .ok (.getfield 9, 3) := by decide +kernel
theorem dX1_isDone_18 : decode cX1_isDone 18 = .ok (.iload_n 1, 1) := by decide +kernel
theorem dX1_isDone_19 : decode cX1_isDone 19 = .ok (.iaload, 1) := by decide +kernel
theorem dX1_isDone_20 : decode cX1_isDone 20 = .ok (.imul, 1) := by decide +kernel
theorem dX1_isDone_21 : decode cX1_isDone 21 = .ok (.if_icmp .ge 5, 3) := by decide +kernel
theorem dX1_isDone_24 : decode cX1_isDone 24 = .ok (.iconst 0, 1) := by decide +kernel
theorem dX1_isDone_25 : decode cX1_isDone 25 = .ok (.ireturn, 1) := by decide +kernel
theorem dX1_isDone_26 : decode cX1_isDone 26 = .ok (.iinc 1 1, 3) := by decide +kernel
theorem dX1_isDone_29 : decode cX1_isDone 29 = .ok (.goto (-27), 3) := by decide +kernel
theorem dX1_isDone_32 : decode cX1_isDone 32 = .ok (.iconst 1, 1) := by decide +kernel
theorem dX1_isDone_33 : decode cX1_isDone 33 = .ok (.ireturn, 1) := by decide +kernel
theorem dX1_weigh_0 : decode cX1_weigh 0 = .ok (.aload_n 0, 1) := by decide +kernel
theorem dX1_weigh_1 : decode cX1_weigh 1 = .ok (.iconst 1, 1) := by decide +kernel
theorem dX1_weigh_2 : decode cX1_weigh 2 = .ok (.putfield 49, 3) := by decide +kernel
theorem dX1_weigh_5 : decode cX1_weigh 5 = .ok (.aload_n 0, 1) := by decide +kernel
theorem dX1_weigh_6 : decode cX1_weigh 6 = .ok (.iconst 1, 1) := by decide +kernel
theorem dX1_weigh_7 : decode cX1_weigh 7 = .ok (.putfield 18, 3) := by decide +kernel
theorem dX1_weigh_10 : decode cX1_weigh 10 = .ok (.iconst 0, 1) := by decide +kernel
theorem dX1_weigh_11 : decode cX1_weigh 11 = .ok (.istore_n 1, 1) := by decide +kernel
theorem dX1_weigh_12 : decode cX1_weigh 12 = .ok (.iload_n 1, 1) := by decide +kernel
theorem dX1_weigh_13 : decode cX1_weigh 13 = .ok (.iconst 3, 1) := by decide +kernel
theorem dX1_weigh_14 : decode cX1_weigh 14 = .ok (.if_icmp .ge 56, 3) := by decide +kernel
theorem dX1_weigh_17 : decode cX1_weigh 17 = .ok (.bipush 12, 2) := by decide +kernel
theorem dX1_weigh_19 : decode cX1_weigh 19 = .ok (.aload_n 0, 1) := by decide +kernel
theorem dX1_weigh_20 : decode cX1_weigh 20 = .ok (.getfield 9, 3) := by decide +kernel
theorem dX1_weigh_23 : decode cX1_weigh 23 = .ok (.iload_n 1, 1) := by decide +kernel
theorem dX1_weigh_24 : decode cX1_weigh 24 = .ok (.iaload, 1) := by decide +kernel
theorem dX1_weigh_25 : decode cX1_weigh 25 = .ok (.imul, 1) := by decide +kernel
theorem dX1_weigh_26 : decode cX1_weigh 26 = .ok (.istore_n 2, 1) := by decide +kernel
theorem dX1_weigh_27 : decode cX1_weigh 27 = .ok (.iload_n 2, 1) := by decide +kernel
theorem dX1_weigh_28 : decode cX1_weigh 28 = .ok (.ifCond .le 36, 3) := by decide +kernel
theorem dX1_weigh_31 : decode cX1_weigh 31 = .ok (.aload_n 0, 1) := by decide +kernel
theorem dX1_weigh_32 : decode cX1_weigh 32 = .ok (.iload_n 1, 1) := by decide +kernel
theorem dX1_weigh_33 : decode cX1_weigh 33 = .ok (.invokevirtual 46, 3) := by decide +kernel
theorem dX1_weigh_36 : decode cX1_weigh 36 = .ok (.aload_n 0, 1) := by decide +kernel
theorem dX1_weigh_37 : decode cX1_weigh 37 = .ok (.getfield 18, 3) := by decide +kernel
theorem dX1_weigh_40 : decode cX1_weigh 40 = .ok (.imul, 1) := by decide +kernel
theorem dX1_weigh_41 : decode cX1_weigh 41 = .ok (.aload_n 0, 1) := by decide +kernel
theorem dX1_weigh_42 : decode cX1_weigh 42 = .ok (.getfield 49, 3) := by decide +kernel
theorem dX1_weigh_45 : decode cX1_weigh 45 = .ok (.iload_n 2, 1) := by decide +kernel
theorem dX1_weigh_46 : decode cX1_weigh 46 = .ok (.imul, 1) := by decide +kernel
theorem dX1_weigh_47 : decode cX1_weigh 47 = .ok (.if_icmp .ge 17, 3) := by decide +kernel
theorem dX1_weigh_50 : decode cX1_weigh 50 = .ok (.aload_n 0, 1) := by decide +kernel
theorem dX1_weigh_51 : decode cX1_weigh 51 = .ok (.aload_n 0, 1) := by decide +kernel
theorem dX1_weigh_52 : decode cX1_weigh 52 = .ok (.iload_n 1, 1) := by decide +kernel
theorem dX1_weigh_53 : decode cX1_weigh 53 = .ok (.invokevirtual 46, 3) := by decide +kernel
theorem dX1_weigh_56 : decode cX1_weigh 56 = .ok (.putfield 49, 3) := by decide +kernel
theorem dX1_weigh_59 : decode cX1_weigh 59 = .ok (.aload_n 0, 1) := by decide +kernel
theorem dX1_weigh_60 : decode cX1_weigh 60 = .ok (.iload_n 2, 1) := by decide +kernel
theorem dX1_weigh_61 : decode cX1_weigh 61 = .ok (.putfield 18, 3) := by decide +kernel
theorem dX1_weigh_64 : decode cX1_weigh 64 = .ok (.iinc 1 1, 3) := by decide +kernel
theorem dX1_weigh_67 : decode cX1_weigh 67 = .ok (.goto (-55), 3) := by decide +kernel
theorem dX1_weigh_70 : decode cX1_weigh 70 = .ok (.lconst 1, 1) := by decide +kernel
theorem dX1_weigh_71 : decode cX1_weigh 71 = .ok (.aload_n 0, 1) := by decide +kernel
theorem dX1_weigh_72 : decode cX1_weigh 72 = .ok (.getfield 49, 3) := by decide +kernel
theorem dX1_weigh_75 : decode cX1_weigh 75 = .ok (.i2l, 1) := by decide +kernel
theorem dX1_weigh_76 : decode cX1_weigh 76 = .ok (.aload_n 0, 1) := by decide +kernel
theorem dX1_weigh_77 : decode cX1_weigh 77 = .ok (.getfield 18, 3) := by decide +kernel
theorem dX1_weigh_80 : decode cX1_weigh 80 = .ok (.i2l, 1) := by decide +kernel
theorem dX1_weigh_81 : decode cX1_weigh 81 = .ok (.invokestatic 52, 3) := by decide +kernel
theorem dX1_weigh_84 : decode cX1_weigh 84 = .ok (.invokestatic 56, 3) := by decide +kernel
theorem dX1_weigh_87 : decode cX1_weigh 87 = .ok (.l2i, 1) := by decide +kernel
theorem dX1_weigh_88 : decode cX1_weigh 88 = .ok (.istore_n 1, 1) := by decide +kernel
theorem dX1_weigh_89 : decode cX1_weigh 89 = .ok (.aload_n 0, 1) := by decide +kernel
theorem dX1_weigh_90 : decode cX1_weigh 90 = .ok (.dup, 1) := by decide +kernel
theorem dX1_weigh_91 : decode cX1_weigh 91 = .ok (.getfield 49, 3) := by decide +kernel
theorem dX1_weigh_94 : decode cX1_weigh 94 = .ok (.iload_n 1, 1) := by decide +kernel
theorem dX1_weigh_95 : decode cX1_weigh 95 = .ok (.idiv, 1) := by decide +kernel
theorem dX1_weigh_96 : decode cX1_weigh 96 = .ok (.putfield 49, 3) := by decide +kernel
theorem dX1_weigh_99 : decode cX1_weigh 99 = .ok (.aload_n 0, 1) := by decide +kernel
theorem dX1_weigh_100 : decode cX1_weigh 100 = .ok (.dup, 1) := by decide +kernel
theorem dX1_weigh_101 : decode cX1_weigh 101 = .ok (.getfield 18, 3) := by decide +kernel
theorem dX1_weigh_104 : decode cX1_weigh 104 = .ok (.iload_n 1, 1) := by decide +kernel
theorem dX1_weigh_105 : decode cX1_weigh 105 = .ok (.idiv, 1) := by decide +kernel
theorem dX1_weigh_106 : decode cX1_weigh 106 = .ok (.putfield 18, 3) := by decide +kernel
theorem dX1_weigh_109 : decode cX1_weigh 109 = .ok (.return_, 1) := by decide +kernel
theorem dX2_init_0 : decode cX2_init 0 = .ok (.aload_n 0, 1) := by decide +kernel
theorem dX2_init_1 : decode cX2_init 1 = .ok (.invokespecial 3, 3) := by decide +kernel
theorem dX2_init_4 : decode cX2_init 4 = .ok (.aload_n 0, 1) := by decide +kernel
theorem dX2_init_5 : decode cX2_init 5 = .ok (.bipush (-9), 2) := by decide +kernel
theorem dX2_init_7 : decode cX2_init 7 = .ok (.putfield 9, 3) := by decide +kernel
theorem dX2_init_10 : decode cX2_init 10 = .ok (.return_, 1) := by decide +kernel
theorem dX2_clear_0 : decode cX2_clear 0 = .ok (.aload_n 0, 1) := by decide +kernel
theorem dX2_clear_1 : decode cX2_clear 1 = .ok (.iconst 0, 1) := by decide +kernel
theorem dX2_clear_2 : decode cX2_clear 2 = .ok (.putfield 15, 3) := by decide +kernel
theorem dX2_clear_5 : decode cX2_clear 5 = .ok (.aload_n 0, 1) := by decide +kernel
theorem dX2_clear_6 : decode cX2_clear 6 = .ok (.iconst 0, 1) := by decide +kernel
theorem dX2_clear_7 : decode cX2_clear 7 = .ok (.putfield 18, 3) := by decide +kernel
theorem dX2_clear_10 : decode cX2_clear 10 = .ok (.aload_n 0, 1) := by decide +kernel
theorem dX2_clear_11 : decode cX2_clear 11 = .ok (.iconst 0, 1) := by decide +kernel
theorem dX2_clear_12 : decode cX2_clear 12 = .ok (.putfield 21, 3) := by decide +kernel
theorem dX2_clear_15 : decode cX2_clear 15 = .ok (.aload_n 0, 1) := by decide +kernel
theorem dX2_clear_16 : decode cX2_clear 16 = .ok (.bipush (-9), 2) := by decide +kernel
theorem dX2_clear_18 : decode cX2_clear 18 = .ok (.putfield 9, 3) := by decide +kernel
theorem dX2_clear_21 : decode cX2_clear 21 = .ok (.aload_n 0, 1) := by decide +kernel
theorem dX2_clear_22 : decode cX2_clear 22 = .ok (.iconst 0, 1) := by decide +kernel
theorem dX2_clear_23 : decode cX2_clear 23 = .ok (.putfield 24, 3) := by decide +kernel
theorem dX2_clear_26 : decode cX2_clear 26 = .ok (.aload_n 0, 1) := by decide +kernel
theorem dX2_clear_27 : decode cX2_clear 27 = .ok (.iconst 0, 1) := by decide +kernel
theorem dX2_clear_28 : decode cX2_clear 28 = .ok (.putfield 27, 3) := by decide +kernel
theorem dX2_clear_31 : decode cX2_clear 31 = .ok (.aload_n 0, 1) := by decide +kernel
theorem dX2_clear_32 : decode cX2_clear 32 = .ok (.iconst 0, 1) := by decide +kernel
theorem dX2_clear_33 : decode cX2_clear 33 = .ok (.putfield 30, 3) := by decide +kernel
theorem dX2_clear_36 : decode cX2_clear 36 = .ok (.return_, 1) := by decide +kernel
theorem dX2_become_0 : decode cX2_become 0 = .ok (.aload_n 0, 1) := by decide +kernel
theorem dX2_become_1 : decode cX2_become 1 = .ok (.aload_n 1, 1) := by decide +kernel
theorem dX2_become_2 : decode cX2_become 2 = .ok (.getfield 15, 3) := by decide +kernel
theorem dX2_become_5 : decode cX2_become 5 = .ok (.putfield 15, 3) := by decide +kernel
theorem dX2_become_8 : decode cX2_become 8 = .ok (.aload_n 0, 1) := by decide +kernel
theorem dX2_become_9 : decode cX2_become 9 = .ok (.aload_n 1, 1) := by decide +kernel
theorem dX2_become_10 : decode cX2_become 10 = .ok (.getfield 18, 3) := by decide +kernel
theorem dX2_become_13 : decode cX2_become 13 = .ok (.putfield 18, 3) := by decide +kernel
theorem dX2_become_16 : decode cX2_become 16 = .ok (.aload_n 0, 1) := by decide +kernel
theorem dX2_become_17 : decode cX2_become 17 = .ok (.aload_n 1, 1) := by decide +kernel
theorem dX2_become_18 : decode cX2_become 18 = .ok (.getfield 21, 3) := by decide +kernel
theorem dX2_become_21 : decode cX2_become 21 = .ok (.putfield 21, 3) := by decide +kernel
theorem dX2_become_24 : decode cX2_become 24 = .ok (.aload_n 0, 1) := by decide +kernel
theorem dX2_become_25 : decode cX2_become 25 = .ok (.aload_n 1, 1) := by decide +kernel
theorem dX2_become_26 : decode cX2_become 26 = .ok (.getfield 9, 3) := by decide +kernel
theorem dX2_become_29 : decode cX2_become 29 = .ok (.putfield 9, 3) := by decide +kernel
theorem dX2_become_32 : decode cX2_become 32 = .ok (.aload_n 0, 1) := by decide +kernel
theorem dX2_become_33 : decode cX2_become 33 = .ok (.aload_n 1, 1) := by decide +kernel
theorem dX2_become_34 : decode cX2_become 34 = .ok (.getfield 24, 3) := by decide +kernel
theorem dX2_become_37 : decode cX2_become 37 = .ok (.putfield 24, 3) := by decide +kernel
theorem dX2_become_40 : decode cX2_become 40 = .ok (.aload_n 0, 1) := by decide +kernel
theorem dX2_become_41 : decode cX2_become 41 = .ok (.aload_n 1, 1) := by decide +kernel
theorem dX2_become_42 : decode cX2_become 42 = .ok (.getfield 27, 3) := by decide +kernel
theorem dX2_become_45 : decode cX2_become 45 = .ok (.putfield 27, 3) := by decide +kernel
theorem dX2_become_48 : decode cX2_become 48 = .ok (.aload_n 0, 1) := by decide +kernel
theorem dX2_become_49 : decode cX2_become 49 = .ok (.aload_n 1, 1) := by decide +kernel
theorem dX2_become_50 : decode cX2_become 50 = .ok (.getfield 30, 3) := by decide +kernel
theorem dX2_become_53 : decode cX2_become 53 = .ok (.putfield 30, 3) := by decide +kernel
theorem dX2_become_56 : decode cX2_become 56 = .ok (.return_, 1) := by decide +kernel
theorem dX3_init_0 : decode cX3_init 0 = .ok (.aload_n 0, 1) := by decide +kernel
theorem dX3_init_1 : decode cX3_init 1 = .ok (.invokespecial 3, 3) := by decide +kernel
theorem dX3_init_4 : decode cX3_init 4 = .ok (.aload_n 0, 1) := by decide +kernel
theorem dX3_init_5 : decode cX3_init 5 = .ok (.iconst 3, 1) := by decide +kernel
theorem dX3_init_6 : decode cX3_init 6 = .ok (.newarray .int, 2) := by decide +kernel
theorem dX3_init_8 : decode cX3_init 8 = .ok (.putfield 9, 3) := by decide +kernel
theorem dX3_init_11 : decode cX3_init 11 = .ok (.aload_n 0, 1) := by decide +kernel
theorem dX3_init_12 : decode cX3_init 12 = .ok (.iconst 1, 1) := by decide +kernel
theorem dX3_init_13 : decode cX3_init 13 = .ok (.putfield 15, 3) := by decide +kernel
theorem dX3_init_16 : decode cX3_init 16 = .ok (.return_, 1) := by decide +kernel
theorem dX3_become_0 : decode cX3_become 0 = .ok (.aload_n 1, 1) := by decide +kernel
theorem dX3_become_1 : decode cX3_become 1 = .ok (.getfield 9, 3) := by decide +kernel
theorem dX3_become_4 : decode cX3_become 4 = .ok (.iconst 0, 1) := by decide +kernel
theorem dX3_become_5 : decode cX3_become 5 = .ok (.aload_n 0, 1) := by decide +kernel
theorem dX3_become_6 : decode cX3_become 6 = .ok (.getfield 9, 3) := by decide +kernel
theorem dX3_become_9 : decode cX3_become 9 = .ok (.iconst 0, 1) := by decide +kernel
theorem dX3_become_10 : decode cX3_become 10 = .ok (.iconst 3, 1) := by decide +kernel
theorem dX3_become_11 : decode cX3_become 11 = .ok (.invokestatic 19, 3) := by decide +kernel
theorem dX3_become_14 : decode cX3_become 14 = .ok (.aload_n 0, 1) := by decide +kernel
theorem dX3_become_15 : decode cX3_become 15 = .ok (.aload_n 1, 1) := by decide +kernel
theorem dX3_become_16 : decode cX3_become 16 = .ok (.getfield 15, 3) := by decide +kernel
theorem dX3_become_19 : decode cX3_become 19 = .ok (.putfield 15, 3) := by decide +kernel
theorem dX3_become_22 : decode cX3_become 22 = .ok (.return_, 1) := by decide +kernel
theorem dX4_init_0 : decode cX4_init 0 = .ok (.aload_n 0, 1) := by decide +kernel
theorem dX4_init_1 : decode cX4_init 1 = .ok (.invokespecial 3, 3) := by decide +kernel
theorem dX4_init_4 : decode cX4_init 4 = .ok (.aload_n 0, 1) := by decide +kernel
theorem dX4_init_5 : decode cX4_init 5 = .ok (.bipush 6, 2) := by decide +kernel
theorem dX4_init_7 : decode cX4_init 7 = .ok (.bipush 6, 2) := by decide +kernel
theorem dX4_init_9 : decode cX4_init 9 = .ok (.multianewarray 9 2, 4) := by decide +kernel
theorem dX4_init_13 : decode cX4_init 13 = .ok (.putfield 11, 3) := by decide +kernel
theorem dX4_init_16 : decode cX4_init 16 = .ok (.aload_n 0, 1) := by decide +kernel
theorem dX4_init_17 : decode cX4_init 17 = .ok (.new 16, 3) := by decide +kernel
theorem dX4_init_20 : decode cX4_init 20 = .ok (.dup, 1) := by decide +kernel
theorem dX4_init_21 : decode cX4_init 21 = .ok (.invokespecial 18, 3) := by decide +kernel
theorem dX4_init_24 : decode cX4_init 24 = .ok (.putfield 19, 3) := by decide +kernel
theorem dX4_init_27 : decode cX4_init 27 = .ok (.aload_n 0, 1) := by decide +kernel
theorem dX4_init_28 : decode cX4_init 28 = .ok (.new 16, 3) := by decide +kernel
theorem dX4_init_31 : decode cX4_init 31 = .ok (.dup, 1) := by decide +kernel
theorem dX4_init_32 : decode cX4_init 32 = .ok (.invokespecial 18, 3) := by decide +kernel
theorem dX4_init_35 : decode cX4_init 35 = .ok (.putfield 23, 3) := by decide +kernel
theorem dX4_init_38 : decode cX4_init 38 = .ok (.return_, 1) := by decide +kernel
theorem dX4_isKind_0 : decode cX4_isKind 0 = .ok (.iload_n 0, 1) := by decide +kernel
theorem dX4_isKind_1 : decode cX4_isKind 1 = .ok (.ifCond .lt 12, 3) := by decide +kernel
theorem dX4_isKind_4 : decode cX4_isKind 4 = .ok (.iload_n 0, 1) := by decide +kernel
theorem dX4_isKind_5 : decode cX4_isKind 5 = .ok (.iconst 3, 1) := by decide +kernel
theorem dX4_isKind_6 : decode cX4_isKind 6 = .ok (.if_icmp .gt 7, 3) := by decide +kernel
theorem dX4_isKind_9 : decode cX4_isKind 9 = .ok (.iconst 1, 1) := by decide +kernel
theorem dX4_isKind_10 : decode cX4_isKind 10 = .ok (.goto 4, 3) := by decide +kernel
theorem dX4_isKind_13 : decode cX4_isKind 13 = .ok (.iconst 0, 1) := by decide +kernel
theorem dX4_isKind_14 : decode cX4_isKind 14 = .ok (.ireturn, 1) := by decide +kernel
theorem dX4_make_0 : decode cX4_make 0 = .ok (.iconst 0, 1) := by decide +kernel
theorem dX4_make_1 : decode cX4_make 1 = .ok (.istore_n 3, 1) := by decide +kernel
theorem dX4_make_2 : decode cX4_make 2 = .ok (.iload_n 3, 1) := by decide +kernel
theorem dX4_make_3 : decode cX4_make 3 = .ok (.bipush 6, 2) := by decide +kernel
theorem dX4_make_5 : decode cX4_make 5 = .ok (.if_icmp .ge 35, 3) := by decide +kernel
theorem dX4_make_8 : decode cX4_make 8 = .ok (.iconst 0, 1) := by decide +kernel
theorem dX4_make_9 : decode cX4_make 9 = .ok (.istore 4, 2) := by decide +kernel
theorem dX4_make_11 : decode cX4_make 11 = .ok (.iload 4, 2) := by decide +kernel
theorem dX4_make_13 : decode cX4_make 13 = .ok (.bipush 6, 2) := by decide +kernel
theorem dX4_make_15 : decode cX4_make 15 = .ok (.if_icmp .ge 19, 3) := by decide +kernel
theorem dX4_make_18 : decode cX4_make 18 = .ok (.aload_n 0, 1) := by decide +kernel
theorem dX4_make_19 : decode cX4_make 19 = .ok (.getfield 11, 3) := by decide +kernel
theorem dX4_make_22 : decode cX4_make 22 = .ok (.iload_n 3, 1) := by decide +kernel
theorem dX4_make_23 : decode cX4_make 23 = .ok (.aaload, 1) := by decide +kernel
theorem dX4_make_24 : decode cX4_make 24 = .ok (.iload 4, 2) := by decide +kernel
theorem dX4_make_26 : decode cX4_make 26 = .ok (.iconst 0, 1) := by decide +kernel
theorem dX4_make_27 : decode cX4_make 27 = .ok (.iastore, 1) := by decide +kernel
theorem dX4_make_28 : decode cX4_make 28 = .ok (.iinc 4 1, 3) := by decide +kernel
theorem dX4_make_31 : decode cX4_make 31 = .ok (.goto (-20), 3) := by decide +kernel
theorem dX4_make_34 : decode cX4_make 34 = .ok (.iinc 3 1, 3) := by decide +kernel
theorem dX4_make_37 : decode cX4_make 37 = .ok (.goto (-35), 3) := by decide +kernel
theorem dX4_make_40 : decode cX4_make 40 = .ok (.iload_n 1, 1) := by decide +kernel
theorem dX4_make_41 : decode cX4_make 41 = .ok (.tableswitch 65 0 3 #[31, 39, 47, 56], 31) := by decide +kernel
theorem dX4_make_72 : decode cX4_make 72 = .ok (.aload_n 0, 1) := by decide +kernel
theorem dX4_make_73 : decode cX4_make 73 = .ok (.aload_n 2, 1) := by decide +kernel
theorem dX4_make_74 : decode cX4_make 74 = .ok (.invokevirtual 26, 3) := by decide +kernel
theorem dX4_make_77 : decode cX4_make 77 = .ok (.goto 29, 3) := by decide +kernel
theorem dX4_make_80 : decode cX4_make 80 = .ok (.aload_n 0, 1) := by decide +kernel
theorem dX4_make_81 : decode cX4_make 81 = .ok (.aload_n 2, 1) := by decide +kernel
theorem dX4_make_82 : decode cX4_make 82 = .ok (.invokevirtual 30, 3) := by decide +kernel
theorem dX4_make_85 : decode cX4_make 85 = .ok (.goto 21, 3) := by decide +kernel
theorem dX4_make_88 : decode cX4_make 88 = .ok (.aload_n 0, 1) := by decide +kernel
theorem dX4_make_89 : decode cX4_make 89 = .ok (.aload_n 2, 1) := by decide +kernel
theorem dX4_make_90 : decode cX4_make 90 = .ok (.iconst 0, 1) := by decide +kernel
theorem dX4_make_91 : decode cX4_make 91 = .ok (.invokevirtual 33, 3) := by decide +kernel
theorem dX4_make_94 : decode cX4_make 94 = .ok (.goto 12, 3) := by decide +kernel
theorem dX4_make_97 : decode cX4_make 97 = .ok (.aload_n 0, 1) := by decide +kernel
theorem dX4_make_98 : decode cX4_make 98 = .ok (.aload_n 2, 1) := by decide +kernel
theorem dX4_make_99 : decode cX4_make 99 = .ok (.iconst 1, 1) := by decide +kernel
theorem dX4_make_100 : decode cX4_make 100 = .ok (.invokevirtual 33, 3) := by decide +kernel
theorem dX4_make_103 : decode cX4_make 103 = .ok (.goto 3, 3) := by decide +kernel
theorem dX4_make_106 : decode cX4_make 106 = .ok (.return_, 1) := by decide +kernel
theorem dX4_worth_0 : decode cX4_worth 0 = .ok (.iconst 0, 1) := by decide +kernel
theorem dX4_worth_1 : decode cX4_worth 1 = .ok (.istore_n 2, 1) := by decide +kernel
theorem dX4_worth_2 : decode cX4_worth 2 = .ok (.iconst 0, 1) := by decide +kernel
theorem dX4_worth_3 : decode cX4_worth 3 = .ok (.istore_n 3, 1) := by decide +kernel
theorem dX4_worth_4 : decode cX4_worth 4 = .ok (.iload_n 3, 1) := by decide +kernel
theorem dX4_worth_5 : decode cX4_worth 5 = .ok (.aload_n 1, 1) := by decide +kernel
theorem dX4_worth_6 : decode cX4_worth 6 = .ok (.getfield 37, 3) := by decide +kernel
theorem dX4_worth_9 : decode cX4_worth 9 = .ok (.if_icmp .ge 30, 3) := by decide +kernel
theorem dX4_worth_12 : decode cX4_worth 12 = .ok (.aload_n 0, 1) := by decide +kernel
theorem dX4_worth_13 : decode cX4_worth 13 = .ok (.aload_n 1, 1) := by decide +kernel
theorem dX4_worth_14 : decode cX4_worth 14 = .ok (.iload_n 3, 1) := by decide +kernel
theorem dX4_worth_15 : decode cX4_worth 15 = .ok (.invokevirtual 43, 3) := by decide +kernel
theorem dX4_worth_18 : decode cX4_worth 18 = .ok (.ifCond .eq 15, 3) := by decide +kernel
theorem dX4_worth_21 : decode cX4_worth 21 = .ok (.iload_n 2, 1) := by decide +kernel
theorem dX4_worth_22 : decode cX4_worth 22 = .ok (.aload_n 1, 1) := by decide +kernel
theorem dX4_worth_23 : decode cX4_worth 23 = .ok (.getfield 47, 3) := by decide +kernel
theorem dX4_worth_26 : decode cX4_worth 26 = .ok (.iload_n 3, 1) := by decide +kernel
theorem dX4_worth_27 : decode cX4_worth 27 = .ok (.aaload, 1) := by decide +kernel
theorem dX4_worth_28 : decode cX4_worth 28 = .ok (.getfield 51, 3) := by decide +kernel
theorem dX4_worth_31 : decode cX4_worth 31 = .ok (.iadd, 1) := by decide +kernel
theorem dX4_worth_32 : decode cX4_worth 32 = .ok (.istore_n 2, 1) := by decide +kernel
theorem dX4_worth_33 : decode cX4_worth 33 = .ok (.iinc 3 1, 3) := by decide +kernel
theorem dX4_worth_36 : decode cX4_worth 36 = .ok (.goto (-32), 3) := by decide +kernel
theorem dX4_worth_39 : decode cX4_worth 39 = .ok (.iload_n 2, 1) := by decide +kernel
theorem dX4_worth_40 : decode cX4_worth 40 = .ok (.ireturn, 1) := by decide +kernel
theorem dX4_makeWholes_0 : decode cX4_makeWholes 0 = .ok (.iconst 0, 1) := by decide +kernel
theorem dX4_makeWholes_1 : decode cX4_makeWholes 1 = .ok (.istore_n 2, 1) := by decide +kernel
theorem dX4_makeWholes_2 : decode cX4_makeWholes 2 = .ok (.iload_n 2, 1) := by decide +kernel
theorem dX4_makeWholes_3 : decode cX4_makeWholes 3 = .ok (.aload_n 1, 1) := by decide +kernel
theorem dX4_makeWholes_4 : decode cX4_makeWholes 4 = .ok (.getfield 56, 3) := by decide +kernel
theorem dX4_makeWholes_7 : decode cX4_makeWholes 7 = .ok (.if_icmp .ge 69, 3) := by decide +kernel
theorem dX4_makeWholes_10 : decode cX4_makeWholes 10 = .ok (.iconst 0, 1) := by decide +kernel
theorem dX4_makeWholes_11 : decode cX4_makeWholes 11 = .ok (.istore_n 3, 1) := by decide +kernel
theorem dX4_makeWholes_12 : decode cX4_makeWholes 12 = .ok (.iconst 0, 1) := by decide +kernel
theorem dX4_makeWholes_13 : decode cX4_makeWholes 13 = .ok (.istore 4, 2) := by decide +kernel
theorem dX4_makeWholes_15 : decode cX4_makeWholes 15 = .ok (.iload 4, 2) := by decide +kernel
theorem dX4_makeWholes_17 : decode cX4_makeWholes 17 = .ok (.aload_n 1, 1) := by decide +kernel
theorem dX4_makeWholes_18 : decode cX4_makeWholes 18 = .ok (.getfield 37, 3) := by decide +kernel
theorem dX4_makeWholes_21 : decode cX4_makeWholes 21 = .ok (.if_icmp .ge 49, 3) := by decide +kernel
theorem dX4_makeWholes_24 : decode cX4_makeWholes 24 = .ok (.iload_n 3, 1) := by decide +kernel
theorem dX4_makeWholes_25 : decode cX4_makeWholes 25 = .ok (.ifCond .ne 45, 3) := by decide +kernel
theorem dX4_makeWholes_28 : decode cX4_makeWholes 28 = .ok (.aload_n 0, 1) := by decide +kernel
theorem dX4_makeWholes_29 : decode cX4_makeWholes 29 = .ok (.aload_n 1, 1) := by decide +kernel
theorem dX4_makeWholes_30 : decode cX4_makeWholes 30 = .ok (.iload 4, 2) := by decide +kernel
theorem dX4_makeWholes_32 : decode cX4_makeWholes 32 = .ok (.invokevirtual 43, 3) := by decide +kernel
theorem dX4_makeWholes_35 : decode cX4_makeWholes 35 = .ok (.ifCond .ne 29, 3) := by decide +kernel
theorem dX4_makeWholes_38 : decode cX4_makeWholes 38 = .ok (.aload_n 0, 1) := by decide +kernel
theorem dX4_makeWholes_39 : decode cX4_makeWholes 39 = .ok (.aload_n 1, 1) := by decide +kernel
theorem dX4_makeWholes_40 : decode cX4_makeWholes 40 = .ok (.iload_n 2, 1) := by decide +kernel
theorem dX4_makeWholes_41 : decode cX4_makeWholes 41 = .ok (.iload 4, 2) := by decide +kernel
theorem dX4_makeWholes_43 : decode cX4_makeWholes 43 = .ok (.bipush 12, 2) := by decide +kernel
theorem dX4_makeWholes_45 : decode cX4_makeWholes 45 = .ok (.invokevirtual 59, 3) := by decide +kernel
theorem dX4_makeWholes_48 : decode cX4_makeWholes 48 = .ok (.ifCond .eq 16, 3) := by decide +kernel
theorem dX4_makeWholes_51 : decode cX4_makeWholes 51 = .ok (.aload_n 0, 1) := by decide +kernel
theorem dX4_makeWholes_52 : decode cX4_makeWholes 52 = .ok (.getfield 11, 3) := by decide +kernel
theorem dX4_makeWholes_55 : decode cX4_makeWholes 55 = .ok (.iload_n 2, 1) := by decide +kernel
theorem dX4_makeWholes_56 : decode cX4_makeWholes 56 = .ok (.aaload, 1) := by decide +kernel
theorem dX4_makeWholes_57 : decode cX4_makeWholes 57 = .ok (.iload 4, 2) := by decide +kernel
theorem dX4_makeWholes_59 : decode cX4_makeWholes 59 = .ok (.bipush 12, 2) := by decide +kernel
theorem dX4_makeWholes_61 : decode cX4_makeWholes 61 = .ok (.iastore, 1) := by decide +kernel
theorem dX4_makeWholes_62 : decode cX4_makeWholes 62 = .ok (.iconst 1, 1) := by decide +kernel
theorem dX4_makeWholes_63 : decode cX4_makeWholes 63 = .ok (.istore_n 3, 1) := by decide +kernel
theorem dX4_makeWholes_64 : decode cX4_makeWholes 64 = .ok (.iinc 4 1, 3) := by decide +kernel
theorem dX4_makeWholes_67 : decode cX4_makeWholes 67 = .ok (.goto (-52), 3) := by decide +kernel
theorem dX4_makeWholes_70 : decode cX4_makeWholes 70 = .ok (.iinc 2 1, 3) := by decide +kernel
theorem dX4_makeWholes_73 : decode cX4_makeWholes 73 = .ok (.goto (-71), 3) := by decide +kernel
theorem dX4_makeWholes_76 : decode cX4_makeWholes 76 = .ok (.return_, 1) := by decide +kernel
theorem dX4_makeEven_0 : decode cX4_makeEven 0 = .ok (.aload_n 1, 1) := by decide +kernel
theorem dX4_makeEven_1 : decode cX4_makeEven 1 = .ok (.getfield 37, 3) := by decide +kernel
theorem dX4_makeEven_4 : decode cX4_makeEven 4 = .ok (.iconst 1, 1) := by decide +kernel
theorem dX4_makeEven_5 : decode cX4_makeEven 5 = .ok (.if_icmp .ge 4, 3) := by decide +kernel
theorem dX4_makeEven_8 : decode cX4_makeEven 8 = .ok (.return_, 1) := by decide +kernel
theorem dX4_makeEven_9 : decode cX4_makeEven 9 = .ok (.bipush 12, 2) := by decide +kernel
theorem dX4_makeEven_11 : decode cX4_makeEven 11 = .ok (.aload_n 1, 1) := by decide +kernel
theorem dX4_makeEven_12 : decode cX4_makeEven 12 = .ok (.getfield 37, 3) := by decide +kernel
theorem dX4_makeEven_15 : decode cX4_makeEven 15 = .ok (.idiv, 1) := by decide +kernel
theorem dX4_makeEven_16 : decode cX4_makeEven 16 = .ok (.istore_n 2, 1) := by decide +kernel
theorem dX4_makeEven_17 : decode cX4_makeEven 17 = .ok (.iconst 0, 1) := by decide +kernel
theorem dX4_makeEven_18 : decode cX4_makeEven 18 = .ok (.istore_n 3, 1) := by decide +kernel
theorem dX4_makeEven_19 : decode cX4_makeEven 19 = .ok (.iload_n 3, 1) := by decide +kernel
theorem dX4_makeEven_20 : decode cX4_makeEven 20 = .ok (.aload_n 1, 1) := by decide +kernel
theorem dX4_makeEven_21 : decode cX4_makeEven 21 = .ok (.getfield 56, 3) := by decide +kernel
theorem dX4_makeEven_24 : decode cX4_makeEven 24 = .ok (.if_icmp .ge 50, 3) := by decide +kernel
theorem dX4_makeEven_27 : decode cX4_makeEven 27 = .ok (.iload_n 2, 1) := by decide +kernel
theorem dX4_makeEven_28 : decode cX4_makeEven 28 = .ok (.aload_n 1, 1) := by decide +kernel
theorem dX4_makeEven_29 : decode cX4_makeEven 29 = .ok (.getfield 63, 3) := by decide +kernel
theorem dX4_makeEven_32 : decode cX4_makeEven 32 = .ok (.iload_n 3, 1) := by decide +kernel
theorem dX4_makeEven_33 : decode cX4_makeEven 33 = .ok (.aaload, 1) := by decide +kernel
theorem dX4_makeEven_34 : decode cX4_makeEven 34 = .ok (.getfield 67, 3) := by decide +kernel
theorem dX4_makeEven_37 : decode cX4_makeEven 37 = .ok (.if_icmp .lt 31, 3) := by decide +kernel
theorem dX4_makeEven_40 : decode cX4_makeEven 40 = .ok (.iconst 0, 1) := by decide +kernel
theorem dX4_makeEven_41 : decode cX4_makeEven 41 = .ok (.istore 4, 2) := by decide +kernel
theorem dX4_makeEven_43 : decode cX4_makeEven 43 = .ok (.iload 4, 2) := by decide +kernel
theorem dX4_makeEven_45 : decode cX4_makeEven 45 = .ok (.aload_n 1, 1) := by decide +kernel
theorem dX4_makeEven_46 : decode cX4_makeEven 46 = .ok (.getfield 37, 3) := by decide +kernel
theorem dX4_makeEven_49 : decode cX4_makeEven 49 = .ok (.if_icmp .ge 19, 3) := by decide +kernel
theorem dX4_makeEven_52 : decode cX4_makeEven 52 = .ok (.aload_n 0, 1) := by decide +kernel
theorem dX4_makeEven_53 : decode cX4_makeEven 53 = .ok (.getfield 11, 3) := by decide +kernel
theorem dX4_makeEven_56 : decode cX4_makeEven 56 = .ok (.iload_n 3, 1) := by decide +kernel
theorem dX4_makeEven_57 : decode cX4_makeEven 57 = .ok (.aaload, 1) := by decide +kernel
theorem dX4_makeEven_58 : decode cX4_makeEven 58 = .ok (.iload 4, 2) := by decide +kernel
theorem dX4_makeEven_60 : decode cX4_makeEven 60 = .ok (.iload_n 2, 1) := by decide +kernel
theorem dX4_makeEven_61 : decode cX4_makeEven 61 = .ok (.iastore, 1) := by decide +kernel
theorem dX4_makeEven_62 : decode cX4_makeEven 62 = .ok (.iinc 4 1, 3) := by decide +kernel
theorem dX4_makeEven_65 : decode cX4_makeEven 65 = .ok (.goto (-22), 3) := by decide +kernel
theorem dX4_makeEven_68 : decode cX4_makeEven 68 = .ok (.iinc 3 1, 3) := by decide +kernel
theorem dX4_makeEven_71 : decode cX4_makeEven 71 = .ok (.goto (-52), 3) := by decide +kernel
theorem dX4_makeEven_74 : decode cX4_makeEven 74 = .ok (.return_, 1) := by decide +kernel
theorem dX4_makeNeed_0 : decode cX4_makeNeed 0 = .ok (.iconst 0, 1) := by decide +kernel
theorem dX4_makeNeed_1 : decode cX4_makeNeed 1 = .ok (.istore_n 3, 1) := by decide +kernel
theorem dX4_makeNeed_2 : decode cX4_makeNeed 2 = .ok (.iload_n 3, 1) := by decide +kernel
theorem dX4_makeNeed_3 : decode cX4_makeNeed 3 = .ok (.aload_n 1, 1) := by decide +kernel
theorem dX4_makeNeed_4 : decode cX4_makeNeed 4 = .ok (.getfield 37, 3) := by decide +kernel
theorem dX4_makeNeed_7 : decode cX4_makeNeed 7 = .ok (.if_icmp .ge 89, 3) := by decide +kernel
theorem dX4_makeNeed_10 : decode cX4_makeNeed 10 = .ok (.iconst 0, 1) := by decide +kernel
theorem dX4_makeNeed_11 : decode cX4_makeNeed 11 = .ok (.istore 4, 2) := by decide +kernel
theorem dX4_makeNeed_13 : decode cX4_makeNeed 13 = .ok (.iload 4, 2) := by decide +kernel
theorem dX4_makeNeed_15 : decode cX4_makeNeed 15 = .ok (.aload_n 1, 1) := by decide +kernel
theorem dX4_makeNeed_16 : decode cX4_makeNeed 16 = .ok (.getfield 56, 3) := by decide +kernel
theorem dX4_makeNeed_19 : decode cX4_makeNeed 19 = .ok (.if_icmp .ge 71, 3) := by decide +kernel
theorem dX4_makeNeed_22 : decode cX4_makeNeed 22 = .ok (.aload_n 0, 1) := by decide +kernel
theorem dX4_makeNeed_23 : decode cX4_makeNeed 23 = .ok (.aload_n 1, 1) := by decide +kernel
theorem dX4_makeNeed_24 : decode cX4_makeNeed 24 = .ok (.iload_n 3, 1) := by decide +kernel
theorem dX4_makeNeed_25 : decode cX4_makeNeed 25 = .ok (.invokevirtual 43, 3) := by decide +kernel
theorem dX4_makeNeed_28 : decode cX4_makeNeed 28 = .ok (.ifCond .ne 62, 3) := by decide +kernel
theorem dX4_makeNeed_31 : decode cX4_makeNeed 31 = .ok (.aload_n 1, 1) := by decide +kernel
theorem dX4_makeNeed_32 : decode cX4_makeNeed 32 = .ok (.getfield 63, 3) := by decide +kernel
theorem dX4_makeNeed_35 : decode cX4_makeNeed 35 = .ok (.iload 4, 2) := by decide +kernel
theorem dX4_makeNeed_37 : decode cX4_makeNeed 37 = .ok (.aaload, 1) := by decide +kernel
theorem dX4_makeNeed_38 : decode cX4_makeNeed 38 = .ok (.getfield 67, 3) := by decide +kernel
theorem dX4_makeNeed_41 : decode cX4_makeNeed 41 = .ok (.istore 5, 2) := by decide +kernel
theorem dX4_makeNeed_43 : decode cX4_makeNeed 43 = .ok (.bipush 12, 2) := by decide +kernel
theorem dX4_makeNeed_45 : decode cX4_makeNeed 45 = .ok (.aload_n 0, 1) := by decide +kernel
theorem dX4_makeNeed_46 : decode cX4_makeNeed 46 = .ok (.iload 4, 2) := by decide +kernel
theorem dX4_makeNeed_48 : decode cX4_makeNeed 48 = .ok (.invokevirtual 72, 3) := by decide +kernel
theorem dX4_makeNeed_51 : decode cX4_makeNeed 51 = .ok (.isub, 1) := by decide +kernel
theorem dX4_makeNeed_52 : decode cX4_makeNeed 52 = .ok (.iload_n 2, 1) := by decide +kernel
theorem dX4_makeNeed_53 : decode cX4_makeNeed 53 = .ok (.ifCond .eq 8, 3) := by decide +kernel
theorem dX4_makeNeed_56 : decode cX4_makeNeed 56 = .ok (.iload 5, 2) := by decide +kernel
theorem dX4_makeNeed_58 : decode cX4_makeNeed 58 = .ok (.goto 4, 3) := by decide +kernel
theorem dX4_makeNeed_61 : decode cX4_makeNeed 61 = .ok (.iconst 0, 1) := by decide +kernel
theorem dX4_makeNeed_62 : decode cX4_makeNeed 62 = .ok (.isub, 1) := by decide +kernel
theorem dX4_makeNeed_63 : decode cX4_makeNeed 63 = .ok (.istore 6, 2) := by decide +kernel
theorem dX4_makeNeed_65 : decode cX4_makeNeed 65 = .ok (.aload_n 0, 1) := by decide +kernel
theorem dX4_makeNeed_66 : decode cX4_makeNeed 66 = .ok (.getfield 11, 3) := by decide +kernel
theorem dX4_makeNeed_69 : decode cX4_makeNeed 69 = .ok (.iload 4, 2) := by decide +kernel
theorem dX4_makeNeed_71 : decode cX4_makeNeed 71 = .ok (.aaload, 1) := by decide +kernel
theorem dX4_makeNeed_72 : decode cX4_makeNeed 72 = .ok (.iload_n 3, 1) := by decide +kernel
theorem dX4_makeNeed_73 : decode cX4_makeNeed 73 = .ok (.aload_n 0, 1) := by decide +kernel
theorem dX4_makeNeed_74 : decode cX4_makeNeed 74 = .ok (.aload_n 1, 1) := by decide +kernel
theorem dX4_makeNeed_75 : decode cX4_makeNeed 75 = .ok (.iload 4, 2) := by decide +kernel
theorem dX4_makeNeed_77 : decode cX4_makeNeed 77 = .ok (.iload_n 3, 1) := by decide +kernel
theorem dX4_makeNeed_78 : decode cX4_makeNeed 78 = .ok (.iload 6, 2) := by decide +kernel
theorem dX4_makeNeed_80 : decode cX4_makeNeed 80 = .ok (.invokevirtual 76, 3) := by decide +kernel
theorem dX4_makeNeed_83 : decode cX4_makeNeed 83 = .ok (.iastore, 1) := by decide +kernel
theorem dX4_makeNeed_84 : decode cX4_makeNeed 84 = .ok (.iinc 4 1, 3) := by decide +kernel
theorem dX4_makeNeed_87 : decode cX4_makeNeed 87 = .ok (.goto (-74), 3) := by decide +kernel
theorem dX4_makeNeed_90 : decode cX4_makeNeed 90 = .ok (.iinc 3 1, 3) := by decide +kernel
theorem dX4_makeNeed_93 : decode cX4_makeNeed 93 = .ok (.goto (-91), 3) := by decide +kernel
theorem dX4_makeNeed_96 : decode cX4_makeNeed 96 = .ok (.return_, 1) := by decide +kernel
theorem dX4_used_0 : decode cX4_used 0 = .ok (.iconst 0, 1) := by decide +kernel
theorem dX4_used_1 : decode cX4_used 1 = .ok (.istore_n 2, 1) := by decide +kernel
theorem dX4_used_2 : decode cX4_used 2 = .ok (.iconst 0, 1) := by decide +kernel
theorem dX4_used_3 : decode cX4_used 3 = .ok (.istore_n 3, 1) := by decide +kernel
theorem dX4_used_4 : decode cX4_used 4 = .ok (.iload_n 3, 1) := by decide +kernel
theorem dX4_used_5 : decode cX4_used 5 = .ok (.bipush 6, 2) := by decide +kernel
theorem dX4_used_7 : decode cX4_used 7 = .ok (.if_icmp .ge 20, 3) := by decide +kernel
theorem dX4_used_10 : decode cX4_used 10 = .ok (.iload_n 2, 1) := by decide +kernel
theorem dX4_used_11 : decode cX4_used 11 = .ok (.aload_n 0, 1) := by decide +kernel
theorem dX4_used_12 : decode cX4_used 12 = .ok (.getfield 11, 3) := by decide +kernel
theorem dX4_used_15 : decode cX4_used 15 = .ok (.iload_n 1, 1) := by decide +kernel
theorem dX4_used_16 : decode cX4_used 16 = .ok (.aaload, 1) := by decide +kernel
theorem dX4_used_17 : decode cX4_used 17 = .ok (.iload_n 3, 1) := by decide +kernel
theorem dX4_used_18 : decode cX4_used 18 = .ok (.iaload, 1) := by decide +kernel
theorem dX4_used_19 : decode cX4_used 19 = .ok (.iadd, 1) := by decide +kernel
theorem dX4_used_20 : decode cX4_used 20 = .ok (.istore_n 2, 1) := by decide +kernel
theorem dX4_used_21 : decode cX4_used 21 = .ok (.iinc 3 1, 3) := by decide +kernel
theorem dX4_used_24 : decode cX4_used 24 = .ok (.goto (-20), 3) := by decide +kernel
theorem dX4_used_27 : decode cX4_used 27 = .ok (.iload_n 2, 1) := by decide +kernel
theorem dX4_used_28 : decode cX4_used 28 = .ok (.ireturn, 1) := by decide +kernel
theorem dX4_needed_0 : decode cX4_needed 0 = .ok (.aload_n 1, 1) := by decide +kernel
theorem dX4_needed_1 : decode cX4_needed 1 = .ok (.getfield 63, 3) := by decide +kernel
theorem dX4_needed_4 : decode cX4_needed 4 = .ok (.iload_n 2, 1) := by decide +kernel
theorem dX4_needed_5 : decode cX4_needed 5 = .ok (.aaload, 1) := by decide +kernel
theorem dX4_needed_6 : decode cX4_needed 6 = .ok (.getfield 67, 3) := by decide +kernel
theorem dX4_needed_9 : decode cX4_needed 9 = .ok (.istore 5, 2) := by decide +kernel
theorem dX4_needed_11 : decode cX4_needed 11 = .ok (.iload 5, 2) := by decide +kernel
theorem dX4_needed_13 : decode cX4_needed 13 = .ok (.istore 6, 2) := by decide +kernel
theorem dX4_needed_15 : decode cX4_needed 15 = .ok (.iload 6, 2) := by decide +kernel
theorem dX4_needed_17 : decode cX4_needed 17 = .ok (.iload 4, 2) := by decide +kernel
theorem dX4_needed_19 : decode cX4_needed 19 = .ok (.if_icmp .gt 49, 3) := by decide +kernel
theorem dX4_needed_22 : decode cX4_needed 22 = .ok (.aload_n 0, 1) := by decide +kernel
theorem dX4_needed_23 : decode cX4_needed 23 = .ok (.aload_n 0, 1) := by decide +kernel
theorem dX4_needed_24 : decode cX4_needed 24 = .ok (.getfield 23, 3) := by decide +kernel
theorem dX4_needed_27 : decode cX4_needed 27 = .ok (.aload_n 1, 1) := by decide +kernel
theorem dX4_needed_28 : decode cX4_needed 28 = .ok (.iload_n 3, 1) := by decide +kernel
theorem dX4_needed_29 : decode cX4_needed 29 = .ok (.invokevirtual 80, 3) := by decide +kernel
theorem dX4_needed_32 : decode cX4_needed 32 = .ok (.aload_n 0, 1) := by decide +kernel
theorem dX4_needed_33 : decode cX4_needed 33 = .ok (.getfield 23, 3) := by decide +kernel
theorem dX4_needed_36 : decode cX4_needed 36 = .ok (.iload_n 2, 1) := by decide +kernel
theorem dX4_needed_37 : decode cX4_needed 37 = .ok (.aload_n 1, 1) := by decide +kernel
theorem dX4_needed_38 : decode cX4_needed 38 = .ok (.getfield 63, 3) := by decide +kernel
theorem dX4_needed_41 : decode cX4_needed 41 = .ok (.iload_n 2, 1) := by decide +kernel
theorem dX4_needed_42 : decode cX4_needed 42 = .ok (.aaload, 1) := by decide +kernel
theorem dX4_needed_43 : decode cX4_needed 43 = .ok (.iload 6, 2) := by decide +kernel
theorem dX4_needed_45 : decode cX4_needed 45 = .ok (.iconst 0, 1) := by decide +kernel
theorem dX4_needed_46 : decode cX4_needed 46 = .ok (.invokevirtual 84, 3) := by decide +kernel
theorem dX4_needed_49 : decode cX4_needed 49 = .ok (.aload_n 0, 1) := by decide +kernel
theorem dX4_needed_50 : decode cX4_needed 50 = .ok (.getfield 23, 3) := by decide +kernel
theorem dX4_needed_53 : decode cX4_needed 53 = .ok (.invokevirtual 88, 3) := by decide +kernel
theorem dX4_needed_56 : decode cX4_needed 56 = .ok (.ifCond .eq 6, 3) := by decide +kernel
theorem dX4_needed_59 : decode cX4_needed 59 = .ok (.iload 6, 2) := by decide +kernel
theorem dX4_needed_61 : decode cX4_needed 61 = .ok (.ireturn, 1) := by decide +kernel
theorem dX4_needed_62 : decode cX4_needed 62 = .ok (.iinc 6 1, 3) := by decide +kernel
theorem dX4_needed_65 : decode cX4_needed 65 = .ok (.goto (-50), 3) := by decide +kernel
theorem dX4_needed_68 : decode cX4_needed 68 = .ok (.iload 4, 2) := by decide +kernel
theorem dX4_needed_70 : decode cX4_needed 70 = .ok (.iload 5, 2) := by decide +kernel
theorem dX4_needed_72 : decode cX4_needed 72 = .ok (.if_icmp .lt 20, 3) := by decide +kernel
theorem dX4_needed_75 : decode cX4_needed 75 = .ok (.aload_n 0, 1) := by decide +kernel
theorem dX4_needed_76 : decode cX4_needed 76 = .ok (.aload_n 1, 1) := by decide +kernel
theorem dX4_needed_77 : decode cX4_needed 77 = .ok (.iload_n 2, 1) := by decide +kernel
theorem dX4_needed_78 : decode cX4_needed 78 = .ok (.iload_n 3, 1) := by decide +kernel
theorem dX4_needed_79 : decode cX4_needed 79 = .ok (.iload 4, 2) := by decide +kernel
theorem dX4_needed_81 : decode cX4_needed 81 = .ok (.invokevirtual 59, 3) := by decide +kernel
theorem dX4_needed_84 : decode cX4_needed 84 = .ok (.ifCond .eq 8, 3) := by decide +kernel
theorem dX4_needed_87 : decode cX4_needed 87 = .ok (.iload 4, 2) := by decide +kernel
theorem dX4_needed_89 : decode cX4_needed 89 = .ok (.goto 4, 3) := by decide +kernel
theorem dX4_needed_92 : decode cX4_needed 92 = .ok (.iconst 0, 1) := by decide +kernel
theorem dX4_needed_93 : decode cX4_needed 93 = .ok (.ireturn, 1) := by decide +kernel
theorem dX4_gather_0 : decode cX4_gather 0 = .ok (.aload_n 1, 1) := by decide +kernel
theorem dX4_gather_1 : decode cX4_gather 1 = .ok (.aload_n 2, 1) := by decide +kernel
theorem dX4_gather_2 : decode cX4_gather 2 = .ok (.getfield 47, 3) := by decide +kernel
theorem dX4_gather_5 : decode cX4_gather 5 = .ok (.iload_n 3, 1) := by decide +kernel
theorem dX4_gather_6 : decode cX4_gather 6 = .ok (.aaload, 1) := by decide +kernel
theorem dX4_gather_7 : decode cX4_gather 7 = .ok (.invokevirtual 91, 3) := by decide +kernel
theorem dX4_gather_10 : decode cX4_gather 10 = .ok (.iconst 0, 1) := by decide +kernel
theorem dX4_gather_11 : decode cX4_gather 11 = .ok (.istore 4, 2) := by decide +kernel
theorem dX4_gather_13 : decode cX4_gather 13 = .ok (.iload 4, 2) := by decide +kernel
theorem dX4_gather_15 : decode cX4_gather 15 = .ok (.aload_n 2, 1) := by decide +kernel
theorem dX4_gather_16 : decode cX4_gather 16 = .ok (.getfield 56, 3) := by decide +kernel
theorem dX4_gather_19 : decode cX4_gather 19 = .ok (.if_icmp .ge 44, 3) := by decide +kernel
theorem dX4_gather_22 : decode cX4_gather 22 = .ok (.aload_n 0, 1) := by decide +kernel
theorem dX4_gather_23 : decode cX4_gather 23 = .ok (.getfield 11, 3) := by decide +kernel
theorem dX4_gather_26 : decode cX4_gather 26 = .ok (.iload 4, 2) := by decide +kernel
theorem dX4_gather_28 : decode cX4_gather 28 = .ok (.aaload, 1) := by decide +kernel
theorem dX4_gather_29 : decode cX4_gather 29 = .ok (.iload_n 3, 1) := by decide +kernel
theorem dX4_gather_30 : decode cX4_gather 30 = .ok (.iaload, 1) := by decide +kernel
theorem dX4_gather_31 : decode cX4_gather 31 = .ok (.ifCond .le 26, 3) := by decide +kernel
theorem dX4_gather_34 : decode cX4_gather 34 = .ok (.aload_n 1, 1) := by decide +kernel
theorem dX4_gather_35 : decode cX4_gather 35 = .ok (.iload 4, 2) := by decide +kernel
theorem dX4_gather_37 : decode cX4_gather 37 = .ok (.aload_n 2, 1) := by decide +kernel
theorem dX4_gather_38 : decode cX4_gather 38 = .ok (.getfield 63, 3) := by decide +kernel
theorem dX4_gather_41 : decode cX4_gather 41 = .ok (.iload 4, 2) := by decide +kernel
theorem dX4_gather_43 : decode cX4_gather 43 = .ok (.aaload, 1) := by decide +kernel
theorem dX4_gather_44 : decode cX4_gather 44 = .ok (.aload_n 0, 1) := by decide +kernel
theorem dX4_gather_45 : decode cX4_gather 45 = .ok (.getfield 11, 3) := by decide +kernel
theorem dX4_gather_48 : decode cX4_gather 48 = .ok (.iload 4, 2) := by decide +kernel
theorem dX4_gather_50 : decode cX4_gather 50 = .ok (.aaload, 1) := by decide +kernel
theorem dX4_gather_51 : decode cX4_gather 51 = .ok (.iload_n 3, 1) := by decide +kernel
theorem dX4_gather_52 : decode cX4_gather 52 = .ok (.iaload, 1) := by decide +kernel
theorem dX4_gather_53 : decode cX4_gather 53 = .ok (.iconst 0, 1) := by decide +kernel
theorem dX4_gather_54 : decode cX4_gather 54 = .ok (.invokevirtual 84, 3) := by decide +kernel
theorem dX4_gather_57 : decode cX4_gather 57 = .ok (.iinc 4 1, 3) := by decide +kernel
theorem dX4_gather_60 : decode cX4_gather 60 = .ok (.goto (-47), 3) := by decide +kernel
theorem dX4_gather_63 : decode cX4_gather 63 = .ok (.return_, 1) := by decide +kernel
theorem dX4_isDone_0 : decode cX4_isDone 0 = .ok (.aload_n 0, 1) := by decide +kernel
theorem dX4_isDone_1 : decode cX4_isDone 1 = .ok (.aload_n 0, 1) := by decide +kernel
theorem dX4_isDone_2 : decode cX4_isDone 2 = .ok (.getfield 19, 3) := by decide +kernel
theorem dX4_isDone_5 : decode cX4_isDone 5 = .ok (.aload_n 1, 1) := by decide +kernel
theorem dX4_isDone_6 : decode cX4_isDone 6 = .ok (.iload_n 2, 1) := by decide +kernel
theorem dX4_isDone_7 : decode cX4_isDone 7 = .ok (.invokevirtual 80, 3) := by decide +kernel
theorem dX4_isDone_10 : decode cX4_isDone 10 = .ok (.aload_n 0, 1) := by decide +kernel
theorem dX4_isDone_11 : decode cX4_isDone 11 = .ok (.getfield 19, 3) := by decide +kernel
theorem dX4_isDone_14 : decode cX4_isDone 14 = .ok (.invokevirtual 88, 3) := by decide +kernel
theorem dX4_isDone_17 : decode cX4_isDone 17 = .ok (.ireturn, 1) := by decide +kernel
theorem dX4_helps_0 : decode cX4_helps 0 = .ok (.aload_n 0, 1) := by decide +kernel
theorem dX4_helps_1 : decode cX4_helps 1 = .ok (.aload_n 0, 1) := by decide +kernel
theorem dX4_helps_2 : decode cX4_helps 2 = .ok (.getfield 19, 3) := by decide +kernel
theorem dX4_helps_5 : decode cX4_helps 5 = .ok (.aload_n 1, 1) := by decide +kernel
theorem dX4_helps_6 : decode cX4_helps 6 = .ok (.iload_n 3, 1) := by decide +kernel
theorem dX4_helps_7 : decode cX4_helps 7 = .ok (.invokevirtual 80, 3) := by decide +kernel
theorem dX4_helps_10 : decode cX4_helps 10 = .ok (.aload_n 0, 1) := by decide +kernel
theorem dX4_helps_11 : decode cX4_helps 11 = .ok (.aload_n 0, 1) := by decide +kernel
theorem dX4_helps_12 : decode cX4_helps 12 = .ok (.getfield 23, 3) := by decide +kernel
theorem dX4_helps_15 : decode cX4_helps 15 = .ok (.aload_n 1, 1) := by decide +kernel
theorem dX4_helps_16 : decode cX4_helps 16 = .ok (.iload_n 3, 1) := by decide +kernel
theorem dX4_helps_17 : decode cX4_helps 17 = .ok (.invokevirtual 80, 3) := by decide +kernel
theorem dX4_helps_20 : decode cX4_helps 20 = .ok (.aload_n 0, 1) := by decide +kernel
theorem dX4_helps_21 : decode cX4_helps 21 = .ok (.getfield 23, 3) := by decide +kernel
theorem dX4_helps_24 : decode cX4_helps 24 = .ok (.iload_n 2, 1) := by decide +kernel
theorem dX4_helps_25 : decode cX4_helps 25 = .ok (.aload_n 1, 1) := by decide +kernel
theorem dX4_helps_26 : decode cX4_helps 26 = .ok (.getfield 63, 3) := by decide +kernel
theorem dX4_helps_29 : decode cX4_helps 29 = .ok (.iload_n 2, 1) := by decide +kernel
theorem dX4_helps_30 : decode cX4_helps 30 = .ok (.aaload, 1) := by decide +kernel
theorem dX4_helps_31 : decode cX4_helps 31 = .ok (.iload 4, 2) := by decide +kernel
theorem dX4_helps_33 : decode cX4_helps 33 = .ok (.iconst 0, 1) := by decide +kernel
theorem dX4_helps_34 : decode cX4_helps 34 = .ok (.invokevirtual 84, 3) := by decide +kernel
theorem dX4_helps_37 : decode cX4_helps 37 = .ok (.iconst 0, 1) := by decide +kernel
theorem dX4_helps_38 : decode cX4_helps 38 = .ok (.istore 5, 2) := by decide +kernel
theorem dX4_helps_40 : decode cX4_helps 40 = .ok (.iload 5, 2) := by decide +kernel
theorem dX4_helps_42 : decode cX4_helps 42 = .ok (.iconst 3, 1) := by decide +kernel
theorem dX4_helps_43 : decode cX4_helps 43 = .ok (.if_icmp .ge 45, 3) := by decide +kernel
theorem dX4_helps_46 : decode cX4_helps 46 = .ok (.aload_n 0, 1) := by decide +kernel
theorem dX4_helps_47 : decode cX4_helps 47 = .ok (.getfield 19, 3) := by decide +kernel
theorem dX4_helps_50 : decode cX4_helps 50 = .ok (.getfield 95, 3) := by decide +kernel
theorem dX4_helps_53 : decode cX4_helps 53 = .ok (.iload 5, 2) := by decide +kernel
theorem dX4_helps_55 : decode cX4_helps 55 = .ok (.iaload, 1) := by decide +kernel
theorem dX4_helps_56 : decode cX4_helps 56 = .ok (.ifCond .le 26, 3) := by decide +kernel
theorem dX4_helps_59 : decode cX4_helps 59 = .ok (.aload_n 0, 1) := by decide +kernel
theorem dX4_helps_60 : decode cX4_helps 60 = .ok (.getfield 23, 3) := by decide +kernel
theorem dX4_helps_63 : decode cX4_helps 63 = .ok (.iload 5, 2) := by decide +kernel
theorem dX4_helps_65 : decode cX4_helps 65 = .ok (.invokevirtual 99, 3) := by decide +kernel
theorem dX4_helps_68 : decode cX4_helps 68 = .ok (.aload_n 0, 1) := by decide +kernel
theorem dX4_helps_69 : decode cX4_helps 69 = .ok (.getfield 19, 3) := by decide +kernel
theorem dX4_helps_72 : decode cX4_helps 72 = .ok (.iload 5, 2) := by decide +kernel
theorem dX4_helps_74 : decode cX4_helps 74 = .ok (.invokevirtual 99, 3) := by decide +kernel
theorem dX4_helps_77 : decode cX4_helps 77 = .ok (.if_icmp .le 5, 3) := by decide +kernel
theorem dX4_helps_80 : decode cX4_helps 80 = .ok (.iconst 1, 1) := by decide +kernel
theorem dX4_helps_81 : decode cX4_helps 81 = .ok (.ireturn, 1) := by decide +kernel
theorem dX4_helps_82 : decode cX4_helps 82 = .ok (.iinc 5 1, 3) := by decide +kernel
theorem dX4_helps_85 : decode cX4_helps 85 = .ok (.goto (-45), 3) := by decide +kernel
theorem dX4_helps_88 : decode cX4_helps 88 = .ok (.iconst 0, 1) := by decide +kernel
theorem dX4_helps_89 : decode cX4_helps 89 = .ok (.ireturn, 1) := by decide +kernel
theorem dX5_init_0 : decode cX5_init 0 = .ok (.aload_n 0, 1) := by decide +kernel
theorem dX5_init_1 : decode cX5_init 1 = .ok (.invokespecial 1, 3) := by decide +kernel
theorem dX5_init_4 : decode cX5_init 4 = .ok (.aload_n 0, 1) := by decide +kernel
theorem dX5_init_5 : decode cX5_init 5 = .ok (.bipush 35, 2) := by decide +kernel
theorem dX5_init_7 : decode cX5_init 7 = .ok (.iconst 3, 1) := by decide +kernel
theorem dX5_init_8 : decode cX5_init 8 = .ok (.multianewarray 9 2, 4) := by decide +kernel
theorem dX5_init_12 : decode cX5_init 12 = .ok (.putfield 11, 3) := by decide +kernel
theorem dX5_init_15 : decode cX5_init 15 = .ok (.aload_n 0, 1) := by decide +kernel
theorem dX5_init_16 : decode cX5_init 16 = .ok (.iconst 3, 1) := by decide +kernel
theorem dX5_init_17 : decode cX5_init 17 = .ok (.bipush 125, 2) := by decide +kernel
theorem dX5_init_19 : decode cX5_init 19 = .ok (.multianewarray 9 2, 4) := by decide +kernel
theorem dX5_init_23 : decode cX5_init 23 = .ok (.putfield 14, 3) := by decide +kernel
theorem dX5_init_26 : decode cX5_init 26 = .ok (.aload_n 0, 1) := by decide +kernel
theorem dX5_init_27 : decode cX5_init 27 = .ok (.iconst 3, 1) := by decide +kernel
theorem dX5_init_28 : decode cX5_init 28 = .ok (.newarray .int, 2) := by decide +kernel
theorem dX5_init_30 : decode cX5_init 30 = .ok (.putfield 17, 3) := by decide +kernel
theorem dX5_init_33 : decode cX5_init 33 = .ok (.aload_n 0, 1) := by decide +kernel
theorem dX5_init_34 : decode cX5_init 34 = .ok (.new 21, 3) := by decide +kernel
theorem dX5_init_37 : decode cX5_init 37 = .ok (.dup, 1) := by decide +kernel
theorem dX5_init_38 : decode cX5_init 38 = .ok (.invokespecial 23, 3) := by decide +kernel
theorem dX5_init_41 : decode cX5_init 41 = .ok (.putfield 24, 3) := by decide +kernel
theorem dX5_init_44 : decode cX5_init 44 = .ok (.return_, 1) := by decide +kernel
theorem dX5_fits_0 : decode cX5_fits 0 = .ok (.aload_n 0, 1) := by decide +kernel
theorem dX5_fits_1 : decode cX5_fits 1 = .ok (.getfield 28, 3) := by decide +kernel
theorem dX5_fits_4 : decode cX5_fits 4 = .ok (.iconst 3, 1) := by decide +kernel
theorem dX5_fits_5 : decode cX5_fits 5 = .ok (.if_icmp .gt 15, 3) := by decide +kernel
theorem dX5_fits_8 : decode cX5_fits 8 = .ok (.aload_n 0, 1) := by decide +kernel
theorem dX5_fits_9 : decode cX5_fits 9 = .ok (.getfield 34, 3) := by decide +kernel
theorem dX5_fits_12 : decode cX5_fits 12 = .ok (.iconst 3, 1) := by decide +kernel
theorem dX5_fits_13 : decode cX5_fits 13 = .ok (.if_icmp .gt 7, 3) := by decide +kernel
theorem dX5_fits_16 : decode cX5_fits 16 = .ok (.iconst 1, 1) := by decide +kernel
theorem dX5_fits_17 : decode cX5_fits 17 = .ok (.goto 4, 3) := by decide +kernel
theorem dX5_fits_20 : decode cX5_fits 20 = .ok (.iconst 0, 1) := by decide +kernel
theorem dX5_fits_21 : decode cX5_fits 21 = .ok (.ireturn, 1) := by decide +kernel
theorem dX5_forget_0 : decode cX5_forget 0 = .ok (.aload_n 0, 1) := by decide +kernel
theorem dX5_forget_1 : decode cX5_forget 1 = .ok (.iconst 0, 1) := by decide +kernel
theorem dX5_forget_2 : decode cX5_forget 2 = .ok (.putfield 37, 3) := by decide +kernel
theorem dX5_forget_5 : decode cX5_forget 5 = .ok (.return_, 1) := by decide +kernel
theorem dX5_quartersAt_0 : decode cX5_quartersAt 0 = .ok (.iload_n 1, 1) := by decide +kernel
theorem dX5_quartersAt_1 : decode cX5_quartersAt 1 = .ok (.ifCond .lt 17, 3) := by decide +kernel
theorem dX5_quartersAt_4 : decode cX5_quartersAt 4 = .ok (.iload_n 1, 1) := by decide +kernel
theorem dX5_quartersAt_5 : decode cX5_quartersAt 5 = .ok (.iconst 3, 1) := by decide +kernel
theorem dX5_quartersAt_6 : decode cX5_quartersAt 6 = .ok (.if_icmp .ge 12, 3) := by decide +kernel
theorem dX5_quartersAt_9 : decode cX5_quartersAt 9 = .ok (.iload_n 2, 1) := by decide +kernel
theorem dX5_quartersAt_10 : decode cX5_quartersAt 10 = .ok (.ifCond .lt 8, 3) := by decide +kernel
theorem dX5_quartersAt_13 : decode cX5_quartersAt 13 = .ok (.iload_n 2, 1) := by decide +kernel
theorem dX5_quartersAt_14 : decode cX5_quartersAt 14 = .ok (.iconst 3, 1) := by decide +kernel
theorem dX5_quartersAt_15 : decode cX5_quartersAt 15 = .ok (.if_icmp .lt 5, 3) := by decide +kernel
theorem dX5_quartersAt_18 : decode cX5_quartersAt 18 = .ok (.iconst 0, 1) := by decide +kernel
theorem dX5_quartersAt_19 : decode cX5_quartersAt 19 = .ok (.ireturn, 1) := by decide +kernel
theorem dX5_quartersAt_20 : decode cX5_quartersAt 20 = .ok (.aload_n 0, 1) := by decide +kernel
theorem dX5_quartersAt_21 : decode cX5_quartersAt 21 = .ok (.getfield 11, 3) := by decide +kernel
theorem dX5_quartersAt_24 : decode cX5_quartersAt 24 = .ok (.aload_n 0, 1) := by decide +kernel
theorem dX5_quartersAt_25 : decode cX5_quartersAt 25 = .ok (.getfield 17, 3) := by decide +kernel
theorem dX5_quartersAt_28 : decode cX5_quartersAt 28 = .ok (.iload_n 1, 1) := by decide +kernel
theorem dX5_quartersAt_29 : decode cX5_quartersAt 29 = .ok (.iaload, 1) := by decide +kernel
theorem dX5_quartersAt_30 : decode cX5_quartersAt 30 = .ok (.aaload, 1) := by decide +kernel
theorem dX5_quartersAt_31 : decode cX5_quartersAt 31 = .ok (.iload_n 2, 1) := by decide +kernel
theorem dX5_quartersAt_32 : decode cX5_quartersAt 32 = .ok (.iaload, 1) := by decide +kernel
theorem dX5_quartersAt_33 : decode cX5_quartersAt 33 = .ok (.ireturn, 1) := by decide +kernel
theorem dX5_find_0 : decode cX5_find 0 = .ok (.aload_n 0, 1) := by decide +kernel
theorem dX5_find_1 : decode cX5_find 1 = .ok (.getfield 37, 3) := by decide +kernel
theorem dX5_find_4 : decode cX5_find 4 = .ok (.ifCond .ne 10, 3) := by decide +kernel
theorem dX5_find_7 : decode cX5_find 7 = .ok (.aload_n 1, 1) := by decide +kernel
theorem dX5_find_8 : decode cX5_find 8 = .ok (.invokestatic 41, 3) := by decide +kernel
theorem dX5_find_11 : decode cX5_find 11 = .ok (.ifCond .ne 4, 3) := by decide +kernel
theorem dX5_find_14 : decode cX5_find 14 = .ok (.return_, 1) := by decide +kernel
theorem dX5_find_15 : decode cX5_find 15 = .ok (.aload_n 0, 1) := by decide +kernel
theorem dX5_find_16 : decode cX5_find 16 = .ok (.aload_n 1, 1) := by decide +kernel
theorem dX5_find_17 : decode cX5_find 17 = .ok (.getfield 34, 3) := by decide +kernel
theorem dX5_find_20 : decode cX5_find 20 = .ok (.invokevirtual 45, 3) := by decide +kernel
theorem dX5_find_23 : decode cX5_find 23 = .ok (.iconst 0, 1) := by decide +kernel
theorem dX5_find_24 : decode cX5_find 24 = .ok (.istore_n 2, 1) := by decide +kernel
theorem dX5_find_25 : decode cX5_find 25 = .ok (.iconst 0, 1) := by decide +kernel
theorem dX5_find_26 : decode cX5_find 26 = .ok (.istore_n 3, 1) := by decide +kernel
theorem dX5_find_27 : decode cX5_find 27 = .ok (.iload_n 3, 1) := by decide +kernel
theorem dX5_find_28 : decode cX5_find 28 = .ok (.iconst 3, 1) := by decide +kernel
theorem dX5_find_29 : decode cX5_find 29 = .ok (.if_icmp .ge 18, 3) := by decide +kernel
theorem dX5_find_32 : decode cX5_find 32 = .ok (.iload_n 2, 1) := by decide +kernel
theorem dX5_find_33 : decode cX5_find 33 = .ok (.aload_n 0, 1) := by decide +kernel
theorem dX5_find_34 : decode cX5_find 34 = .ok (.aload_n 1, 1) := by decide +kernel
theorem dX5_find_35 : decode cX5_find 35 = .ok (.iload_n 3, 1) := by decide +kernel
theorem dX5_find_36 : decode cX5_find 36 = .ok (.invokevirtual 49, 3) := by decide +kernel
theorem dX5_find_39 : decode cX5_find 39 = .ok (.iadd, 1) := by decide +kernel
theorem dX5_find_40 : decode cX5_find 40 = .ok (.istore_n 2, 1) := by decide +kernel
theorem dX5_find_41 : decode cX5_find 41 = .ok (.iinc 3 1, 3) := by decide +kernel
theorem dX5_find_44 : decode cX5_find 44 = .ok (.goto (-17), 3) := by decide +kernel
theorem dX5_find_47 : decode cX5_find 47 = .ok (.aload_n 0, 1) := by decide +kernel
theorem dX5_find_48 : decode cX5_find 48 = .ok (.aload_n 1, 1) := by decide +kernel
theorem dX5_find_49 : decode cX5_find 49 = .ok (.getfield 28, 3) := by decide +kernel
theorem dX5_find_52 : decode cX5_find 52 = .ok (.iload_n 2, 1) := by decide +kernel
theorem dX5_find_53 : decode cX5_find 53 = .ok (.invokevirtual 53, 3) := by decide +kernel
theorem dX5_find_56 : decode cX5_find 56 = .ok (.aload_n 0, 1) := by decide +kernel
theorem dX5_find_57 : decode cX5_find 57 = .ok (.iconst 1, 1) := by decide +kernel
theorem dX5_find_58 : decode cX5_find 58 = .ok (.putfield 37, 3) := by decide +kernel
theorem dX5_find_61 : decode cX5_find 61 = .ok (.return_, 1) := by decide +kernel
theorem dX5_listHows_0 : decode cX5_listHows 0 = .ok (.aload_n 0, 1) := by decide +kernel
theorem dX5_listHows_1 : decode cX5_listHows 1 = .ok (.iconst 0, 1) := by decide +kernel
theorem dX5_listHows_2 : decode cX5_listHows 2 = .ok (.putfield 57, 3) := by decide +kernel
theorem dX5_listHows_5 : decode cX5_listHows 5 = .ok (.iconst 0, 1) := by decide +kernel
theorem dX5_listHows_6 : decode cX5_listHows 6 = .ok (.istore_n 2, 1) := by decide +kernel
theorem dX5_listHows_7 : decode cX5_listHows 7 = .ok (.iload_n 2, 1) := by decide +kernel
theorem dX5_listHows_8 : decode cX5_listHows 8 = .ok (.iload_n 1, 1) := by decide +kernel
theorem dX5_listHows_9 : decode cX5_listHows 9 = .ok (.ifCond .le 7, 3) := by decide +kernel
theorem dX5_listHows_12 : decode cX5_listHows 12 = .ok (.iconst 4, 1) := by decide +kernel
theorem dX5_listHows_13 : decode cX5_listHows 13 = .ok (.goto 4, 3) := by decide +kernel
theorem dX5_listHows_16 : decode cX5_listHows 16 = .ok (.iconst 0, 1) := by decide +kernel
theorem dX5_listHows_17 : decode cX5_listHows 17 = .ok (.if_icmp .gt 117, 3) := by decide +kernel
theorem dX5_listHows_20 : decode cX5_listHows 20 = .ok (.iconst 0, 1) := by decide +kernel
theorem dX5_listHows_21 : decode cX5_listHows 21 = .ok (.istore_n 3, 1) := by decide +kernel
theorem dX5_listHows_22 : decode cX5_listHows 22 = .ok (.iload_n 3, 1) := by decide +kernel
theorem dX5_listHows_23 : decode cX5_listHows 23 = .ok (.iload_n 1, 1) := by decide +kernel
theorem dX5_listHows_24 : decode cX5_listHows 24 = .ok (.iconst 1, 1) := by decide +kernel
theorem dX5_listHows_25 : decode cX5_listHows 25 = .ok (.if_icmp .le 9, 3) := by decide +kernel
theorem dX5_listHows_28 : decode cX5_listHows 28 = .ok (.iconst 4, 1) := by decide +kernel
theorem dX5_listHows_29 : decode cX5_listHows 29 = .ok (.iload_n 2, 1) := by decide +kernel
theorem dX5_listHows_30 : decode cX5_listHows 30 = .ok (.isub, 1) := by decide +kernel
theorem dX5_listHows_31 : decode cX5_listHows 31 = .ok (.goto 4, 3) := by decide +kernel
theorem dX5_listHows_34 : decode cX5_listHows 34 = .ok (.iconst 0, 1) := by decide +kernel
theorem dX5_listHows_35 : decode cX5_listHows 35 = .ok (.if_icmp .gt 93, 3) := by decide +kernel
theorem dX5_listHows_38 : decode cX5_listHows 38 = .ok (.iconst 0, 1) := by decide +kernel
theorem dX5_listHows_39 : decode cX5_listHows 39 = .ok (.istore 4, 2) := by decide +kernel
theorem dX5_listHows_41 : decode cX5_listHows 41 = .ok (.iload 4, 2) := by decide +kernel
theorem dX5_listHows_43 : decode cX5_listHows 43 = .ok (.iload_n 1, 1) := by decide +kernel
theorem dX5_listHows_44 : decode cX5_listHows 44 = .ok (.iconst 2, 1) := by decide +kernel
theorem dX5_listHows_45 : decode cX5_listHows 45 = .ok (.if_icmp .le 11, 3) := by decide +kernel
theorem dX5_listHows_48 : decode cX5_listHows 48 = .ok (.iconst 4, 1) := by decide +kernel
theorem dX5_listHows_49 : decode cX5_listHows 49 = .ok (.iload_n 2, 1) := by decide +kernel
theorem dX5_listHows_50 : decode cX5_listHows 50 = .ok (.isub, 1) := by decide +kernel
theorem dX5_listHows_51 : decode cX5_listHows 51 = .ok (.iload_n 3, 1) := by decide +kernel
theorem dX5_listHows_52 : decode cX5_listHows 52 = .ok (.isub, 1) := by decide +kernel
theorem dX5_listHows_53 : decode cX5_listHows 53 = .ok (.goto 4, 3) := by decide +kernel
theorem dX5_listHows_56 : decode cX5_listHows 56 = .ok (.iconst 0, 1) := by decide +kernel
theorem dX5_listHows_57 : decode cX5_listHows 57 = .ok (.if_icmp .gt 65, 3) := by decide +kernel
theorem dX5_listHows_60 : decode cX5_listHows 60 = .ok (.aload_n 0, 1) := by decide +kernel
theorem dX5_listHows_61 : decode cX5_listHows 61 = .ok (.getfield 57, 3) := by decide +kernel
theorem dX5_listHows_64 : decode cX5_listHows 64 = .ok (.bipush 35, 2) := by decide +kernel
theorem dX5_listHows_66 : decode cX5_listHows 66 = .ok (.if_icmp .ge 50, 3) := by decide +kernel
theorem dX5_listHows_69 : decode cX5_listHows 69 = .ok (.aload_n 0, 1) := by decide +kernel
theorem dX5_listHows_70 : decode cX5_listHows 70 = .ok (.getfield 11, 3) := by decide +kernel
theorem dX5_listHows_73 : decode cX5_listHows 73 = .ok (.aload_n 0, 1) := by decide +kernel
theorem dX5_listHows_74 : decode cX5_listHows 74 = .ok (.getfield 57, 3) := by decide +kernel
theorem dX5_listHows_77 : decode cX5_listHows 77 = .ok (.aaload, 1) := by decide +kernel
theorem dX5_listHows_78 : decode cX5_listHows 78 = .ok (.iconst 0, 1) := by decide +kernel
theorem dX5_listHows_79 : decode cX5_listHows 79 = .ok (.iload_n 2, 1) := by decide +kernel
theorem dX5_listHows_80 : decode cX5_listHows 80 = .ok (.iastore, 1) := by decide +kernel
theorem dX5_listHows_81 : decode cX5_listHows 81 = .ok (.aload_n 0, 1) := by decide +kernel
theorem dX5_listHows_82 : decode cX5_listHows 82 = .ok (.getfield 11, 3) := by decide +kernel
theorem dX5_listHows_85 : decode cX5_listHows 85 = .ok (.aload_n 0, 1) := by decide +kernel
theorem dX5_listHows_86 : decode cX5_listHows 86 = .ok (.getfield 57, 3) := by decide +kernel
theorem dX5_listHows_89 : decode cX5_listHows 89 = .ok (.aaload, 1) := by decide +kernel
theorem dX5_listHows_90 : decode cX5_listHows 90 = .ok (.iconst 1, 1) := by decide +kernel
theorem dX5_listHows_91 : decode cX5_listHows 91 = .ok (.iload_n 3, 1) := by decide +kernel
theorem dX5_listHows_92 : decode cX5_listHows 92 = .ok (.iastore, 1) := by decide +kernel
theorem dX5_listHows_93 : decode cX5_listHows 93 = .ok (.aload_n 0, 1) := by decide +kernel
theorem dX5_listHows_94 : decode cX5_listHows 94 = .ok (.getfield 11, 3) := by decide +kernel
theorem dX5_listHows_97 : decode cX5_listHows 97 = .ok (.aload_n 0, 1) := by decide +kernel
theorem dX5_listHows_98 : decode cX5_listHows 98 = .ok (.getfield 57, 3) := by decide +kernel
theorem dX5_listHows_101 : decode cX5_listHows 101 = .ok (.aaload, 1) := by decide +kernel
theorem dX5_listHows_102 : decode cX5_listHows 102 = .ok (.iconst 2, 1) := by decide +kernel
theorem dX5_listHows_103 : decode cX5_listHows 103 = .ok (.iload 4, 2) := by decide +kernel
theorem dX5_listHows_105 : decode cX5_listHows 105 = .ok (.iastore, 1) := by decide +kernel
theorem dX5_listHows_106 : decode cX5_listHows 106 = .ok (.aload_n 0, 1) := by decide +kernel
theorem dX5_listHows_107 : decode cX5_listHows 107 = .ok (.dup, 1) := by decide +kernel
theorem dX5_listHows_108 : decode cX5_listHows 108 = .ok (.getfield 57, 3) := by decide +kernel
theorem dX5_listHows_111 : decode cX5_listHows 111 = .ok (.iconst 1, 1) := by decide +kernel
theorem dX5_listHows_112 : decode cX5_listHows 112 = .ok (.iadd, 1) := by decide +kernel
theorem dX5_listHows_113 : decode cX5_listHows 113 = .ok (.putfield 57, 3) := by decide +kernel
theorem dX5_listHows_116 : decode cX5_listHows 116 = .ok (.iinc 4 1, 3) := by decide +kernel
theorem dX5_listHows_119 : decode cX5_listHows 119 = .ok (.goto (-78), 3) := by decide +kernel
theorem dX5_listHows_122 : decode cX5_listHows 122 = .ok (.iinc 3 1, 3) := by decide +kernel
theorem dX5_listHows_125 : decode cX5_listHows 125 = .ok (.goto (-103), 3) := by decide +kernel
theorem dX5_listHows_128 : decode cX5_listHows 128 = .ok (.iinc 2 1, 3) := by decide +kernel
theorem dX5_listHows_131 : decode cX5_listHows 131 = .ok (.goto (-124), 3) := by decide +kernel
theorem dX5_listHows_134 : decode cX5_listHows 134 = .ok (.return_, 1) := by decide +kernel
theorem dX5_fillGains_0 : decode cX5_fillGains 0 = .ok (.iconst 0, 1) := by decide +kernel
theorem dX5_fillGains_1 : decode cX5_fillGains 1 = .ok (.istore_n 3, 1) := by decide +kernel
theorem dX5_fillGains_2 : decode cX5_fillGains 2 = .ok (.iconst 0, 1) := by decide +kernel
theorem dX5_fillGains_3 : decode cX5_fillGains 3 = .ok (.istore 4, 2) := by decide +kernel
theorem dX5_fillGains_5 : decode cX5_fillGains 5 = .ok (.iload 4, 2) := by decide +kernel
theorem dX5_fillGains_7 : decode cX5_fillGains 7 = .ok (.bipush 125, 2) := by decide +kernel
theorem dX5_fillGains_9 : decode cX5_fillGains 9 = .ok (.if_icmp .ge 52, 3) := by decide +kernel
theorem dX5_fillGains_12 : decode cX5_fillGains 12 = .ok (.aload_n 0, 1) := by decide +kernel
theorem dX5_fillGains_13 : decode cX5_fillGains 13 = .ok (.getfield 14, 3) := by decide +kernel
theorem dX5_fillGains_16 : decode cX5_fillGains 16 = .ok (.iload_n 2, 1) := by decide +kernel
theorem dX5_fillGains_17 : decode cX5_fillGains 17 = .ok (.aaload, 1) := by decide +kernel
theorem dX5_fillGains_18 : decode cX5_fillGains 18 = .ok (.iload 4, 2) := by decide +kernel
theorem dX5_fillGains_20 : decode cX5_fillGains 20 = .ok (.iload_n 2, 1) := by decide +kernel
theorem dX5_fillGains_21 : decode cX5_fillGains 21 = .ok (.aload_n 1, 1) := by decide +kernel
theorem dX5_fillGains_22 : decode cX5_fillGains 22 = .ok (.getfield 34, 3) := by decide +kernel
theorem dX5_fillGains_25 : decode cX5_fillGains 25 = .ok (.if_icmp .ge 14, 3) := by decide +kernel
theorem dX5_fillGains_28 : decode cX5_fillGains 28 = .ok (.aload_n 0, 1) := by decide +kernel
theorem dX5_fillGains_29 : decode cX5_fillGains 29 = .ok (.aload_n 1, 1) := by decide +kernel
theorem dX5_fillGains_30 : decode cX5_fillGains 30 = .ok (.iload_n 2, 1) := by decide +kernel
theorem dX5_fillGains_31 : decode cX5_fillGains 31 = .ok (.iload 4, 2) := by decide +kernel
theorem dX5_fillGains_33 : decode cX5_fillGains 33 = .ok (.invokevirtual 60, 3) := by decide +kernel
theorem dX5_fillGains_36 : decode cX5_fillGains 36 = .ok (.goto 4, 3) := by decide +kernel
theorem dX5_fillGains_39 : decode cX5_fillGains 39 = .ok (.iconst 0, 1) := by decide +kernel
theorem dX5_fillGains_40 : decode cX5_fillGains 40 = .ok (.iastore, 1) := by decide +kernel
theorem dX5_fillGains_41 : decode cX5_fillGains 41 = .ok (.iload_n 3, 1) := by decide +kernel
theorem dX5_fillGains_42 : decode cX5_fillGains 42 = .ok (.aload_n 0, 1) := by decide +kernel
theorem dX5_fillGains_43 : decode cX5_fillGains 43 = .ok (.getfield 14, 3) := by decide +kernel
theorem dX5_fillGains_46 : decode cX5_fillGains 46 = .ok (.iload_n 2, 1) := by decide +kernel
theorem dX5_fillGains_47 : decode cX5_fillGains 47 = .ok (.aaload, 1) := by decide +kernel
theorem dX5_fillGains_48 : decode cX5_fillGains 48 = .ok (.iload 4, 2) := by decide +kernel
theorem dX5_fillGains_50 : decode cX5_fillGains 50 = .ok (.iaload, 1) := by decide +kernel
theorem dX5_fillGains_51 : decode cX5_fillGains 51 = .ok (.invokestatic 64, 3) := by decide +kernel
theorem dX5_fillGains_54 : decode cX5_fillGains 54 = .ok (.istore_n 3, 1) := by decide +kernel
theorem dX5_fillGains_55 : decode cX5_fillGains 55 = .ok (.iinc 4 1, 3) := by decide +kernel
theorem dX5_fillGains_58 : decode cX5_fillGains 58 = .ok (.goto (-53), 3) := by decide +kernel
theorem dX5_fillGains_61 : decode cX5_fillGains 61 = .ok (.iload_n 3, 1) := by decide +kernel
theorem dX5_fillGains_62 : decode cX5_fillGains 62 = .ok (.ireturn, 1) := by decide +kernel
theorem dX5_gain_0 : decode cX5_gain 0 = .ok (.aload_n 0, 1) := by decide +kernel
theorem dX5_gain_1 : decode cX5_gain 1 = .ok (.getfield 24, 3) := by decide +kernel
theorem dX5_gain_4 : decode cX5_gain 4 = .ok (.aload_n 1, 1) := by decide +kernel
theorem dX5_gain_5 : decode cX5_gain 5 = .ok (.getfield 70, 3) := by decide +kernel
theorem dX5_gain_8 : decode cX5_gain 8 = .ok (.iload_n 2, 1) := by decide +kernel
theorem dX5_gain_9 : decode cX5_gain 9 = .ok (.aaload, 1) := by decide +kernel
theorem dX5_gain_10 : decode cX5_gain 10 = .ok (.invokevirtual 74, 3) := by decide +kernel
theorem dX5_gain_13 : decode cX5_gain 13 = .ok (.iload_n 3, 1) := by decide +kernel
theorem dX5_gain_14 : decode cX5_gain 14 = .ok (.istore 4, 2) := by decide +kernel
theorem dX5_gain_16 : decode cX5_gain 16 = .ok (.iconst 2, 1) := by decide +kernel
theorem dX5_gain_17 : decode cX5_gain 17 = .ok (.istore 5, 2) := by decide +kernel
theorem dX5_gain_19 : decode cX5_gain 19 = .ok (.iload 5, 2) := by decide +kernel
theorem dX5_gain_21 : decode cX5_gain 21 = .ok (.ifCond .lt 44, 3) := by decide +kernel
theorem dX5_gain_24 : decode cX5_gain 24 = .ok (.iload 4, 2) := by decide +kernel
theorem dX5_gain_26 : decode cX5_gain 26 = .ok (.iconst 5, 1) := by decide +kernel
theorem dX5_gain_27 : decode cX5_gain 27 = .ok (.irem, 1) := by decide +kernel
theorem dX5_gain_28 : decode cX5_gain 28 = .ok (.istore 6, 2) := by decide +kernel
theorem dX5_gain_30 : decode cX5_gain 30 = .ok (.iload 4, 2) := by decide +kernel
theorem dX5_gain_32 : decode cX5_gain 32 = .ok (.iconst 5, 1) := by decide +kernel
theorem dX5_gain_33 : decode cX5_gain 33 = .ok (.idiv, 1) := by decide +kernel
theorem dX5_gain_34 : decode cX5_gain 34 = .ok (.istore 4, 2) := by decide +kernel
theorem dX5_gain_36 : decode cX5_gain 36 = .ok (.iload 6, 2) := by decide +kernel
theorem dX5_gain_38 : decode cX5_gain 38 = .ok (.ifCond .le 21, 3) := by decide +kernel
theorem dX5_gain_41 : decode cX5_gain 41 = .ok (.iload 5, 2) := by decide +kernel
theorem dX5_gain_43 : decode cX5_gain 43 = .ok (.aload_n 1, 1) := by decide +kernel
theorem dX5_gain_44 : decode cX5_gain 44 = .ok (.getfield 28, 3) := by decide +kernel
theorem dX5_gain_47 : decode cX5_gain 47 = .ok (.if_icmp .ge 12, 3) := by decide +kernel
theorem dX5_gain_50 : decode cX5_gain 50 = .ok (.aload_n 0, 1) := by decide +kernel
theorem dX5_gain_51 : decode cX5_gain 51 = .ok (.aload_n 1, 1) := by decide +kernel
theorem dX5_gain_52 : decode cX5_gain 52 = .ok (.iload 5, 2) := by decide +kernel
theorem dX5_gain_54 : decode cX5_gain 54 = .ok (.iload 6, 2) := by decide +kernel
theorem dX5_gain_56 : decode cX5_gain 56 = .ok (.invokevirtual 78, 3) := by decide +kernel
theorem dX5_gain_59 : decode cX5_gain 59 = .ok (.iinc 5 (-1), 3) := by decide +kernel
theorem dX5_gain_62 : decode cX5_gain 62 = .ok (.goto (-43), 3) := by decide +kernel
theorem dX5_gain_65 : decode cX5_gain 65 = .ok (.aload_n 0, 1) := by decide +kernel
theorem dX5_gain_66 : decode cX5_gain 66 = .ok (.getfield 24, 3) := by decide +kernel
theorem dX5_gain_69 : decode cX5_gain 69 = .ok (.invokevirtual 82, 3) := by decide +kernel
theorem dX5_gain_72 : decode cX5_gain 72 = .ok (.ifCond .eq 15, 3) := by decide +kernel
theorem dX5_gain_75 : decode cX5_gain 75 = .ok (.aload_n 1, 1) := by decide +kernel
theorem dX5_gain_76 : decode cX5_gain 76 = .ok (.getfield 70, 3) := by decide +kernel
theorem dX5_gain_79 : decode cX5_gain 79 = .ok (.iload_n 2, 1) := by decide +kernel
theorem dX5_gain_80 : decode cX5_gain 80 = .ok (.aaload, 1) := by decide +kernel
theorem dX5_gain_81 : decode cX5_gain 81 = .ok (.getfield 86, 3) := by decide +kernel
theorem dX5_gain_84 : decode cX5_gain 84 = .ok (.goto 4, 3) := by decide +kernel
theorem dX5_gain_87 : decode cX5_gain 87 = .ok (.iconst 0, 1) := by decide +kernel
theorem dX5_gain_88 : decode cX5_gain 88 = .ok (.ireturn, 1) := by decide +kernel
theorem dX5_addQuarters_0 : decode cX5_addQuarters 0 = .ok (.iload_n 3, 1) := by decide +kernel
theorem dX5_addQuarters_1 : decode cX5_addQuarters 1 = .ok (.iconst 3, 1) := by decide +kernel
theorem dX5_addQuarters_2 : decode cX5_addQuarters 2 = .ok (.imul, 1) := by decide +kernel
theorem dX5_addQuarters_3 : decode cX5_addQuarters 3 = .ok (.istore 4, 2) := by decide +kernel
theorem dX5_addQuarters_5 : decode cX5_addQuarters 5 = .ok (.iload 4, 2) := by decide +kernel
theorem dX5_addQuarters_7 : decode cX5_addQuarters 7 = .ok (.aload_n 1, 1) := by decide +kernel
theorem dX5_addQuarters_8 : decode cX5_addQuarters 8 = .ok (.getfield 91, 3) := by decide +kernel
theorem dX5_addQuarters_11 : decode cX5_addQuarters 11 = .ok (.iload_n 2, 1) := by decide +kernel
theorem dX5_addQuarters_12 : decode cX5_addQuarters 12 = .ok (.aaload, 1) := by decide +kernel
theorem dX5_addQuarters_13 : decode cX5_addQuarters 13 = .ok (.getfield 95, 3) := by decide +kernel
theorem dX5_addQuarters_16 : decode cX5_addQuarters 16 = .ok (.if_icmp .ge 14, 3) := by decide +kernel
theorem dX5_addQuarters_19 : decode cX5_addQuarters 19 = .ok (.aload_n 0, 1) := by decide +kernel
theorem dX5_addQuarters_20 : decode cX5_addQuarters 20 = .ok (.getfield 24, 3) := by decide +kernel
theorem dX5_addQuarters_23 : decode cX5_addQuarters 23 = .ok (.iload_n 2, 1) := by decide +kernel
theorem dX5_addQuarters_24 : decode cX5_addQuarters 24 = .ok (.invokevirtual 100, 3) := by decide +kernel
theorem dX5_addQuarters_27 : decode cX5_addQuarters 27 = .ok (.goto 20, 3) := by decide +kernel
theorem dX5_addQuarters_30 : decode cX5_addQuarters 30 = .ok (.aload_n 0, 1) := by decide +kernel
theorem dX5_addQuarters_31 : decode cX5_addQuarters 31 = .ok (.getfield 24, 3) := by decide +kernel
theorem dX5_addQuarters_34 : decode cX5_addQuarters 34 = .ok (.iload_n 2, 1) := by decide +kernel
theorem dX5_addQuarters_35 : decode cX5_addQuarters 35 = .ok (.aload_n 1, 1) := by decide +kernel
theorem dX5_addQuarters_36 : decode cX5_addQuarters 36 = .ok (.getfield 91, 3) := by decide +kernel
theorem dX5_addQuarters_39 : decode cX5_addQuarters 39 = .ok (.iload_n 2, 1) := by decide +kernel
theorem dX5_addQuarters_40 : decode cX5_addQuarters 40 = .ok (.aaload, 1) := by decide +kernel
theorem dX5_addQuarters_41 : decode cX5_addQuarters 41 = .ok (.iload 4, 2) := by decide +kernel
theorem dX5_addQuarters_43 : decode cX5_addQuarters 43 = .ok (.iconst 0, 1) := by decide +kernel
theorem dX5_addQuarters_44 : decode cX5_addQuarters 44 = .ok (.invokevirtual 103, 3) := by decide +kernel
theorem dX5_addQuarters_47 : decode cX5_addQuarters 47 = .ok (.return_, 1) := by decide +kernel
theorem dX5_search_0 : decode cX5_search 0 = .ok (.aload_n 0, 1) := by decide +kernel
theorem dX5_search_1 : decode cX5_search 1 = .ok (.iconst (-1), 1) := by decide +kernel
theorem dX5_search_2 : decode cX5_search 2 = .ok (.putfield 107, 3) := by decide +kernel
theorem dX5_search_5 : decode cX5_search 5 = .ok (.iload_n 1, 1) := by decide +kernel
theorem dX5_search_6 : decode cX5_search 6 = .ok (.ifCond .le 10, 3) := by decide +kernel
theorem dX5_search_9 : decode cX5_search 9 = .ok (.aload_n 0, 1) := by decide +kernel
theorem dX5_search_10 : decode cX5_search 10 = .ok (.getfield 57, 3) := by decide +kernel
theorem dX5_search_13 : decode cX5_search 13 = .ok (.goto 4, 3) := by decide +kernel
theorem dX5_search_16 : decode cX5_search 16 = .ok (.iconst 1, 1) := by decide +kernel
theorem dX5_search_17 : decode cX5_search 17 = .ok (.istore_n 3, 1) := by decide +kernel
theorem dX5_search_18 : decode cX5_search 18 = .ok (.iload_n 1, 1) := by decide +kernel
theorem dX5_search_19 : decode cX5_search 19 = .ok (.iconst 1, 1) := by decide +kernel
theorem dX5_search_20 : decode cX5_search 20 = .ok (.if_icmp .le 10, 3) := by decide +kernel
theorem dX5_search_23 : decode cX5_search 23 = .ok (.aload_n 0, 1) := by decide +kernel
theorem dX5_search_24 : decode cX5_search 24 = .ok (.getfield 57, 3) := by decide +kernel
theorem dX5_search_27 : decode cX5_search 27 = .ok (.goto 4, 3) := by decide +kernel
theorem dX5_search_30 : decode cX5_search 30 = .ok (.iconst 1, 1) := by decide +kernel
theorem dX5_search_31 : decode cX5_search 31 = .ok (.istore 4, 2) := by decide +kernel
theorem dX5_search_33 : decode cX5_search 33 = .ok (.iload_n 1, 1) := by decide +kernel
theorem dX5_search_34 : decode cX5_search 34 = .ok (.iconst 2, 1) := by decide +kernel
theorem dX5_search_35 : decode cX5_search 35 = .ok (.if_icmp .le 10, 3) := by decide +kernel
theorem dX5_search_38 : decode cX5_search 38 = .ok (.aload_n 0, 1) := by decide +kernel
theorem dX5_search_39 : decode cX5_search 39 = .ok (.getfield 57, 3) := by decide +kernel
theorem dX5_search_42 : decode cX5_search 42 = .ok (.goto 4, 3) := by decide +kernel
theorem dX5_search_45 : decode cX5_search 45 = .ok (.iconst 1, 1) := by decide +kernel
theorem dX5_search_46 : decode cX5_search 46 = .ok (.istore 5, 2) := by decide +kernel
theorem dX5_search_48 : decode cX5_search 48 = .ok (.iconst 0, 1) := by decide +kernel
theorem dX5_search_49 : decode cX5_search 49 = .ok (.istore 6, 2) := by decide +kernel
theorem dX5_search_51 : decode cX5_search 51 = .ok (.iload 6, 2) := by decide +kernel
theorem dX5_search_53 : decode cX5_search 53 = .ok (.iload_n 3, 1) := by decide +kernel
theorem dX5_search_54 : decode cX5_search 54 = .ok (.if_icmp .ge 131, 3) := by decide +kernel
theorem dX5_search_57 : decode cX5_search 57 = .ok (.aload_n 0, 1) := by decide +kernel
theorem dX5_search_58 : decode cX5_search 58 = .ok (.getfield 107, 3) := by decide +kernel
theorem dX5_search_61 : decode cX5_search 61 = .ok (.iload_n 2, 1) := by decide +kernel
theorem dX5_search_62 : decode cX5_search 62 = .ok (.if_icmp .ge 123, 3) := by decide +kernel
theorem dX5_search_65 : decode cX5_search 65 = .ok (.iconst 0, 1) := by decide +kernel
theorem dX5_search_66 : decode cX5_search 66 = .ok (.istore 7, 2) := by decide +kernel
theorem dX5_search_68 : decode cX5_search 68 = .ok (.iload 7, 2) := by decide +kernel
theorem dX5_search_70 : decode cX5_search 70 = .ok (.iload 4, 2) := by decide +kernel
theorem dX5_search_72 : decode cX5_search 72 = .ok (.if_icmp .ge 107, 3) := by decide +kernel
theorem dX5_search_75 : decode cX5_search 75 = .ok (.aload_n 0, 1) := by decide +kernel
theorem dX5_search_76 : decode cX5_search 76 = .ok (.getfield 107, 3) := by decide +kernel
theorem dX5_search_79 : decode cX5_search 79 = .ok (.iload_n 2, 1) := by decide +kernel
theorem dX5_search_80 : decode cX5_search 80 = .ok (.if_icmp .ge 99, 3) := by decide +kernel
theorem dX5_search_83 : decode cX5_search 83 = .ok (.iconst 0, 1) := by decide +kernel
theorem dX5_search_84 : decode cX5_search 84 = .ok (.istore 8, 2) := by decide +kernel
theorem dX5_search_86 : decode cX5_search 86 = .ok (.iload 8, 2) := by decide +kernel
theorem dX5_search_88 : decode cX5_search 88 = .ok (.iload 5, 2) := by decide +kernel
theorem dX5_search_90 : decode cX5_search 90 = .ok (.if_icmp .ge 83, 3) := by decide +kernel
theorem dX5_search_93 : decode cX5_search 93 = .ok (.aload_n 0, 1) := by decide +kernel
theorem dX5_search_94 : decode cX5_search 94 = .ok (.getfield 107, 3) := by decide +kernel
theorem dX5_search_97 : decode cX5_search 97 = .ok (.iload_n 2, 1) := by decide +kernel
theorem dX5_search_98 : decode cX5_search 98 = .ok (.if_icmp .ge 75, 3) := by decide +kernel
theorem dX5_search_101 : decode cX5_search 101 = .ok (.aload_n 0, 1) := by decide +kernel
theorem dX5_search_102 : decode cX5_search 102 = .ok (.aload_n 0, 1) := by decide +kernel
theorem dX5_search_103 : decode cX5_search 103 = .ok (.getfield 11, 3) := by decide +kernel
theorem dX5_search_106 : decode cX5_search 106 = .ok (.iload 6, 2) := by decide +kernel
theorem dX5_search_108 : decode cX5_search 108 = .ok (.aaload, 1) := by decide +kernel
theorem dX5_search_109 : decode cX5_search 109 = .ok (.aload_n 0, 1) := by decide +kernel
theorem dX5_search_110 : decode cX5_search 110 = .ok (.getfield 11, 3) := by decide +kernel
theorem dX5_search_113 : decode cX5_search 113 = .ok (.iload 7, 2) := by decide +kernel
theorem dX5_search_115 : decode cX5_search 115 = .ok (.aaload, 1) := by decide +kernel
theorem dX5_search_116 : decode cX5_search 116 = .ok (.aload_n 0, 1) := by decide +kernel
theorem dX5_search_117 : decode cX5_search 117 = .ok (.getfield 11, 3) := by decide +kernel
theorem dX5_search_120 : decode cX5_search 120 = .ok (.iload 8, 2) := by decide +kernel
theorem dX5_search_122 : decode cX5_search 122 = .ok (.aaload, 1) := by decide +kernel
theorem dX5_search_123 : decode cX5_search 123 = .ok (.invokevirtual 108, 3) := by decide +kernel
theorem dX5_search_126 : decode cX5_search 126 = .ok (.istore 9, 2) := by decide +kernel
theorem dX5_search_128 : decode cX5_search 128 = .ok (.iload 9, 2) := by decide +kernel
theorem dX5_search_130 : decode cX5_search 130 = .ok (.aload_n 0, 1) := by decide +kernel
theorem dX5_search_131 : decode cX5_search 131 = .ok (.getfield 107, 3) := by decide +kernel
theorem dX5_search_134 : decode cX5_search 134 = .ok (.if_icmp .le 33, 3) := by decide +kernel
theorem dX5_search_137 : decode cX5_search 137 = .ok (.aload_n 0, 1) := by decide +kernel
theorem dX5_search_138 : decode cX5_search 138 = .ok (.iload 9, 2) := by decide +kernel
theorem dX5_search_140 : decode cX5_search 140 = .ok (.putfield 107, 3) := by decide +kernel
theorem dX5_search_143 : decode cX5_search 143 = .ok (.aload_n 0, 1) := by decide +kernel
theorem dX5_search_144 : decode cX5_search 144 = .ok (.getfield 17, 3) := by decide +kernel
theorem dX5_search_147 : decode cX5_search 147 = .ok (.iconst 0, 1) := by decide +kernel
theorem dX5_search_148 : decode cX5_search 148 = .ok (.iload 6, 2) := by decide +kernel
theorem dX5_search_150 : decode cX5_search 150 = .ok (.iastore, 1) := by decide +kernel
theorem dX5_search_151 : decode cX5_search 151 = .ok (.aload_n 0, 1) := by decide +kernel
theorem dX5_search_152 : decode cX5_search 152 = .ok (.getfield 17, 3) := by decide +kernel
theorem dX5_search_155 : decode cX5_search 155 = .ok (.iconst 1, 1) := by decide +kernel
theorem dX5_search_156 : decode cX5_search 156 = .ok (.iload 7, 2) := by decide +kernel
theorem dX5_search_158 : decode cX5_search 158 = .ok (.iastore, 1) := by decide +kernel
theorem dX5_search_159 : decode cX5_search 159 = .ok (.aload_n 0, 1) := by decide +kernel
theorem dX5_search_160 : decode cX5_search 160 = .ok (.getfield 17, 3) := by decide +kernel
theorem dX5_search_163 : decode cX5_search 163 = .ok (.iconst 2, 1) := by decide +kernel
theorem dX5_search_164 : decode cX5_search 164 = .ok (.iload 8, 2) := by decide +kernel
theorem dX5_search_166 : decode cX5_search 166 = .ok (.iastore, 1) := by decide +kernel
theorem dX5_search_167 : decode cX5_search 167 = .ok (.iinc 8 1, 3) := by decide +kernel
theorem dX5_search_170 : decode cX5_search 170 = .ok (.goto (-84), 3) := by decide +kernel
theorem dX5_search_173 : decode cX5_search 173 = .ok (.iinc 7 1, 3) := by decide +kernel
theorem dX5_search_176 : decode cX5_search 176 = .ok (.goto (-108), 3) := by decide +kernel
theorem dX5_search_179 : decode cX5_search 179 = .ok (.iinc 6 1, 3) := by decide +kernel
theorem dX5_search_182 : decode cX5_search 182 = .ok (.goto (-131), 3) := by decide +kernel
theorem dX5_search_185 : decode cX5_search 185 = .ok (.return_, 1) := by decide +kernel
theorem dX5_worthOf_0 : decode cX5_worthOf 0 = .ok (.aload_n 0, 1) := by decide +kernel
theorem dX5_worthOf_1 : decode cX5_worthOf 1 = .ok (.getfield 14, 3) := by decide +kernel
theorem dX5_worthOf_4 : decode cX5_worthOf 4 = .ok (.iconst 0, 1) := by decide +kernel
theorem dX5_worthOf_5 : decode cX5_worthOf 5 = .ok (.aaload, 1) := by decide +kernel
theorem dX5_worthOf_6 : decode cX5_worthOf 6 = .ok (.aload_n 1, 1) := by decide +kernel
theorem dX5_worthOf_7 : decode cX5_worthOf 7 = .ok (.iconst 0, 1) := by decide +kernel
theorem dX5_worthOf_8 : decode cX5_worthOf 8 = .ok (.iaload, 1) := by decide +kernel
theorem dX5_worthOf_9 : decode cX5_worthOf 9 = .ok (.aload_n 2, 1) := by decide +kernel
theorem dX5_worthOf_10 : decode cX5_worthOf 10 = .ok (.iconst 0, 1) := by decide +kernel
theorem dX5_worthOf_11 : decode cX5_worthOf 11 = .ok (.iaload, 1) := by decide +kernel
theorem dX5_worthOf_12 : decode cX5_worthOf 12 = .ok (.aload_n 3, 1) := by decide +kernel
theorem dX5_worthOf_13 : decode cX5_worthOf 13 = .ok (.iconst 0, 1) := by decide +kernel
theorem dX5_worthOf_14 : decode cX5_worthOf 14 = .ok (.iaload, 1) := by decide +kernel
theorem dX5_worthOf_15 : decode cX5_worthOf 15 = .ok (.invokestatic 112, 3) := by decide +kernel
theorem dX5_worthOf_18 : decode cX5_worthOf 18 = .ok (.iaload, 1) := by decide +kernel
theorem dX5_worthOf_19 : decode cX5_worthOf 19 = .ok (.aload_n 0, 1) := by decide +kernel
theorem dX5_worthOf_20 : decode cX5_worthOf 20 = .ok (.getfield 14, 3) := by decide +kernel
theorem dX5_worthOf_23 : decode cX5_worthOf 23 = .ok (.iconst 1, 1) := by decide +kernel
theorem dX5_worthOf_24 : decode cX5_worthOf 24 = .ok (.aaload, 1) := by decide +kernel
theorem dX5_worthOf_25 : decode cX5_worthOf 25 = .ok (.aload_n 1, 1) := by decide +kernel
theorem dX5_worthOf_26 : decode cX5_worthOf 26 = .ok (.iconst 1, 1) := by decide +kernel
theorem dX5_worthOf_27 : decode cX5_worthOf 27 = .ok (.iaload, 1) := by decide +kernel
theorem dX5_worthOf_28 : decode cX5_worthOf 28 = .ok (.aload_n 2, 1) := by decide +kernel
theorem dX5_worthOf_29 : decode cX5_worthOf 29 = .ok (.iconst 1, 1) := by decide +kernel
theorem dX5_worthOf_30 : decode cX5_worthOf 30 = .ok (.iaload, 1) := by decide +kernel
theorem dX5_worthOf_31 : decode cX5_worthOf 31 = .ok (.aload_n 3, 1) := by decide +kernel
theorem dX5_worthOf_32 : decode cX5_worthOf 32 = .ok (.iconst 1, 1) := by decide +kernel
theorem dX5_worthOf_33 : decode cX5_worthOf 33 = .ok (.iaload, 1) := by decide +kernel
theorem dX5_worthOf_34 : decode cX5_worthOf 34 = .ok (.invokestatic 112, 3) := by decide +kernel
theorem dX5_worthOf_37 : decode cX5_worthOf 37 = .ok (.iaload, 1) := by decide +kernel
theorem dX5_worthOf_38 : decode cX5_worthOf 38 = .ok (.iadd, 1) := by decide +kernel
theorem dX5_worthOf_39 : decode cX5_worthOf 39 = .ok (.aload_n 0, 1) := by decide +kernel
theorem dX5_worthOf_40 : decode cX5_worthOf 40 = .ok (.getfield 14, 3) := by decide +kernel
theorem dX5_worthOf_43 : decode cX5_worthOf 43 = .ok (.iconst 2, 1) := by decide +kernel
theorem dX5_worthOf_44 : decode cX5_worthOf 44 = .ok (.aaload, 1) := by decide +kernel
theorem dX5_worthOf_45 : decode cX5_worthOf 45 = .ok (.aload_n 1, 1) := by decide +kernel
theorem dX5_worthOf_46 : decode cX5_worthOf 46 = .ok (.iconst 2, 1) := by decide +kernel
theorem dX5_worthOf_47 : decode cX5_worthOf 47 = .ok (.iaload, 1) := by decide +kernel
theorem dX5_worthOf_48 : decode cX5_worthOf 48 = .ok (.aload_n 2, 1) := by decide +kernel
theorem dX5_worthOf_49 : decode cX5_worthOf 49 = .ok (.iconst 2, 1) := by decide +kernel
theorem dX5_worthOf_50 : decode cX5_worthOf 50 = .ok (.iaload, 1) := by decide +kernel
theorem dX5_worthOf_51 : decode cX5_worthOf 51 = .ok (.aload_n 3, 1) := by decide +kernel
theorem dX5_worthOf_52 : decode cX5_worthOf 52 = .ok (.iconst 2, 1) := by decide +kernel
theorem dX5_worthOf_53 : decode cX5_worthOf 53 = .ok (.iaload, 1) := by decide +kernel
theorem dX5_worthOf_54 : decode cX5_worthOf 54 = .ok (.invokestatic 112, 3) := by decide +kernel
theorem dX5_worthOf_57 : decode cX5_worthOf 57 = .ok (.iaload, 1) := by decide +kernel
theorem dX5_worthOf_58 : decode cX5_worthOf 58 = .ok (.iadd, 1) := by decide +kernel
theorem dX5_worthOf_59 : decode cX5_worthOf 59 = .ok (.ireturn, 1) := by decide +kernel
theorem dX5_mix_0 : decode cX5_mix 0 = .ok (.iload_n 0, 1) := by decide +kernel
theorem dX5_mix_1 : decode cX5_mix 1 = .ok (.iconst 5, 1) := by decide +kernel
theorem dX5_mix_2 : decode cX5_mix 2 = .ok (.imul, 1) := by decide +kernel
theorem dX5_mix_3 : decode cX5_mix 3 = .ok (.iload_n 1, 1) := by decide +kernel
theorem dX5_mix_4 : decode cX5_mix 4 = .ok (.iadd, 1) := by decide +kernel
theorem dX5_mix_5 : decode cX5_mix 5 = .ok (.iconst 5, 1) := by decide +kernel
theorem dX5_mix_6 : decode cX5_mix 6 = .ok (.imul, 1) := by decide +kernel
theorem dX5_mix_7 : decode cX5_mix 7 = .ok (.iload_n 2, 1) := by decide +kernel
theorem dX5_mix_8 : decode cX5_mix 8 = .ok (.iadd, 1) := by decide +kernel
theorem dX5_mix_9 : decode cX5_mix 9 = .ok (.ireturn, 1) := by decide +kernel
theorem dX6_init_0 : decode cX6_init 0 = .ok (.aload_n 0, 1) := by decide +kernel
theorem dX6_init_1 : decode cX6_init 1 = .ok (.invokespecial 3, 3) := by decide +kernel
theorem dX6_init_4 : decode cX6_init 4 = .ok (.aload_n 0, 1) := by decide +kernel
theorem dX6_init_5 : decode cX6_init 5 = .ok (.bipush 64, 2) := by decide +kernel
theorem dX6_init_7 : decode cX6_init 7 = .ok (.newarray .int, 2) := by decide +kernel
theorem dX6_init_9 : decode cX6_init 9 = .ok (.putfield 11, 3) := by decide +kernel
theorem dX6_init_12 : decode cX6_init 12 = .ok (.aload_n 0, 1) := by decide +kernel
theorem dX6_init_13 : decode cX6_init 13 = .ok (.bipush 6, 2) := by decide +kernel
theorem dX6_init_15 : decode cX6_init 15 = .ok (.newarray .int, 2) := by decide +kernel
theorem dX6_init_17 : decode cX6_init 17 = .ok (.putfield 15, 3) := by decide +kernel
theorem dX6_init_20 : decode cX6_init 20 = .ok (.return_, 1) := by decide +kernel
theorem dX6_isFull_0 : decode cX6_isFull 0 = .ok (.aload_n 0, 1) := by decide +kernel
theorem dX6_isFull_1 : decode cX6_isFull 1 = .ok (.getfield 18, 3) := by decide +kernel
theorem dX6_isFull_4 : decode cX6_isFull 4 = .ok (.bipush 64, 2) := by decide +kernel
theorem dX6_isFull_6 : decode cX6_isFull 6 = .ok (.if_icmp .lt 7, 3) := by decide +kernel
theorem dX6_isFull_9 : decode cX6_isFull 9 = .ok (.iconst 1, 1) := by decide +kernel
theorem dX6_isFull_10 : decode cX6_isFull 10 = .ok (.goto 4, 3) := by decide +kernel
theorem dX6_isFull_13 : decode cX6_isFull 13 = .ok (.iconst 0, 1) := by decide +kernel
theorem dX6_isFull_14 : decode cX6_isFull 14 = .ok (.ireturn, 1) := by decide +kernel
theorem dX6_take_0 : decode cX6_take 0 = .ok (.aload_n 0, 1) := by decide +kernel
theorem dX6_take_1 : decode cX6_take 1 = .ok (.getfield 18, 3) := by decide +kernel
theorem dX6_take_4 : decode cX6_take 4 = .ok (.bipush 64, 2) := by decide +kernel
theorem dX6_take_6 : decode cX6_take 6 = .ok (.if_icmp .ge 23, 3) := by decide +kernel
theorem dX6_take_9 : decode cX6_take 9 = .ok (.aload_n 0, 1) := by decide +kernel
theorem dX6_take_10 : decode cX6_take 10 = .ok (.getfield 11, 3) := by decide +kernel
theorem dX6_take_13 : decode cX6_take 13 = .ok (.aload_n 0, 1) := by decide +kernel
theorem dX6_take_14 : decode cX6_take 14 = .ok (.getfield 18, 3) := by decide +kernel
theorem dX6_take_17 : decode cX6_take 17 = .ok (.iload_n 1, 1) := by decide +kernel
theorem dX6_take_18 : decode cX6_take 18 = .ok (.iastore, 1) := by decide +kernel
theorem dX6_take_19 : decode cX6_take 19 = .ok (.aload_n 0, 1) := by decide +kernel
theorem dX6_take_20 : decode cX6_take 20 = .ok (.dup, 1) := by decide +kernel
theorem dX6_take_21 : decode cX6_take 21 = .ok (.getfield 18, 3) := by decide +kernel
theorem dX6_take_24 : decode cX6_take 24 = .ok (.iconst 1, 1) := by decide +kernel
theorem dX6_take_25 : decode cX6_take 25 = .ok (.iadd, 1) := by decide +kernel
theorem dX6_take_26 : decode cX6_take 26 = .ok (.putfield 18, 3) := by decide +kernel
theorem dX6_take_29 : decode cX6_take 29 = .ok (.aload_n 0, 1) := by decide +kernel
theorem dX6_take_30 : decode cX6_take 30 = .ok (.getfield 18, 3) := by decide +kernel
theorem dX6_take_33 : decode cX6_take 33 = .ok (.ireturn, 1) := by decide +kernel
theorem dX6_clear_0 : decode cX6_clear 0 = .ok (.aload_n 0, 1) := by decide +kernel
theorem dX6_clear_1 : decode cX6_clear 1 = .ok (.iconst 0, 1) := by decide +kernel
theorem dX6_clear_2 : decode cX6_clear 2 = .ok (.putfield 18, 3) := by decide +kernel
theorem dX6_clear_5 : decode cX6_clear 5 = .ok (.return_, 1) := by decide +kernel
theorem dX6_tellAll_0 : decode cX6_tellAll 0 = .ok (.aload_n 0, 1) := by decide +kernel
theorem dX6_tellAll_1 : decode cX6_tellAll 1 = .ok (.invokevirtual 22, 3) := by decide +kernel
theorem dX6_tellAll_4 : decode cX6_tellAll 4 = .ok (.istore_n 2, 1) := by decide +kernel
theorem dX6_tellAll_5 : decode cX6_tellAll 5 = .ok (.iload_n 2, 1) := by decide +kernel
theorem dX6_tellAll_6 : decode cX6_tellAll 6 = .ok (.ifCond .lt 9, 3) := by decide +kernel
theorem dX6_tellAll_9 : decode cX6_tellAll 9 = .ok (.sipush (-1000), 3) := by decide +kernel
theorem dX6_tellAll_12 : decode cX6_tellAll 12 = .ok (.iload_n 2, 1) := by decide +kernel
theorem dX6_tellAll_13 : decode cX6_tellAll 13 = .ok (.isub, 1) := by decide +kernel
theorem dX6_tellAll_14 : decode cX6_tellAll 14 = .ok (.ireturn, 1) := by decide +kernel
theorem dX6_tellAll_15 : decode cX6_tellAll 15 = .ok (.aload_n 0, 1) := by decide +kernel
theorem dX6_tellAll_16 : decode cX6_tellAll 16 = .ok (.iconst 0, 1) := by decide +kernel
theorem dX6_tellAll_17 : decode cX6_tellAll 17 = .ok (.putfield 26, 3) := by decide +kernel
theorem dX6_tellAll_20 : decode cX6_tellAll 20 = .ok (.iconst 0, 1) := by decide +kernel
theorem dX6_tellAll_21 : decode cX6_tellAll 21 = .ok (.istore_n 3, 1) := by decide +kernel
theorem dX6_tellAll_22 : decode cX6_tellAll 22 = .ok (.iload_n 3, 1) := by decide +kernel
theorem dX6_tellAll_23 : decode cX6_tellAll 23 = .ok (.bipush 64, 2) := by decide +kernel
theorem dX6_tellAll_25 : decode cX6_tellAll 25 = .ok (.if_icmp .ge 56, 3) := by decide +kernel
theorem dX6_tellAll_28 : decode cX6_tellAll 28 = .ok (.aload_n 0, 1) := by decide +kernel
theorem dX6_tellAll_29 : decode cX6_tellAll 29 = .ok (.getfield 26, 3) := by decide +kernel
theorem dX6_tellAll_32 : decode cX6_tellAll 32 = .ok (.aload_n 0, 1) := by decide +kernel
theorem dX6_tellAll_33 : decode cX6_tellAll 33 = .ok (.getfield 18, 3) := by decide +kernel
theorem dX6_tellAll_36 : decode cX6_tellAll 36 = .ok (.if_icmp .ge 45, 3) := by decide +kernel
theorem dX6_tellAll_39 : decode cX6_tellAll 39 = .ok (.aload_n 0, 1) := by decide +kernel
theorem dX6_tellAll_40 : decode cX6_tellAll 40 = .ok (.getfield 26, 3) := by decide +kernel
theorem dX6_tellAll_43 : decode cX6_tellAll 43 = .ok (.istore 4, 2) := by decide +kernel
theorem dX6_tellAll_45 : decode cX6_tellAll 45 = .ok (.aload_n 0, 1) := by decide +kernel
theorem dX6_tellAll_46 : decode cX6_tellAll 46 = .ok (.invokevirtual 29, 3) := by decide +kernel
theorem dX6_tellAll_49 : decode cX6_tellAll 49 = .ok (.pop, 1) := by decide +kernel
theorem dX6_tellAll_50 : decode cX6_tellAll 50 = .ok (.aload_n 1, 1) := by decide +kernel
theorem dX6_tellAll_51 : decode cX6_tellAll 51 = .ok (.aload_n 0, 1) := by decide +kernel
theorem dX6_tellAll_52 : decode cX6_tellAll 52 = .ok (.getfield 11, 3) := by decide +kernel
theorem dX6_tellAll_55 : decode cX6_tellAll 55 = .ok (.iload 4, 2) := by decide +kernel
theorem dX6_tellAll_57 : decode cX6_tellAll 57 = .ok (.iaload, 1) := by decide +kernel
theorem dX6_tellAll_58 : decode cX6_tellAll 58 = .ok (.aload_n 0, 1) := by decide +kernel
theorem dX6_tellAll_59 : decode cX6_tellAll 59 = .ok (.getfield 15, 3) := by decide +kernel
theorem dX6_tellAll_62 : decode cX6_tellAll 62 = .ok (.invokevirtual 33, 3) := by decide +kernel
theorem dX6_tellAll_65 : decode cX6_tellAll 65 = .ok (.ifCond .ne 10, 3) := by decide +kernel
theorem dX6_tellAll_68 : decode cX6_tellAll 68 = .ok (.sipush (-2000), 3) := by decide +kernel
theorem dX6_tellAll_71 : decode cX6_tellAll 71 = .ok (.iload 4, 2) := by decide +kernel
theorem dX6_tellAll_73 : decode cX6_tellAll 73 = .ok (.isub, 1) := by decide +kernel
theorem dX6_tellAll_74 : decode cX6_tellAll 74 = .ok (.ireturn, 1) := by decide +kernel
theorem dX6_tellAll_75 : decode cX6_tellAll 75 = .ok (.iinc 3 1, 3) := by decide +kernel
theorem dX6_tellAll_78 : decode cX6_tellAll 78 = .ok (.goto (-56), 3) := by decide +kernel
theorem dX6_tellAll_81 : decode cX6_tellAll 81 = .ok (.iload_n 3, 1) := by decide +kernel
theorem dX6_tellAll_82 : decode cX6_tellAll 82 = .ok (.ireturn, 1) := by decide +kernel
theorem dX6_wrongLetter_0 : decode cX6_wrongLetter 0 = .ok (.aload_n 0, 1) := by decide +kernel
theorem dX6_wrongLetter_1 : decode cX6_wrongLetter 1 = .ok (.iconst 0, 1) := by decide +kernel
theorem dX6_wrongLetter_2 : decode cX6_wrongLetter 2 = .ok (.putfield 26, 3) := by decide +kernel
theorem dX6_wrongLetter_5 : decode cX6_wrongLetter 5 = .ok (.iconst 0, 1) := by decide +kernel
theorem dX6_wrongLetter_6 : decode cX6_wrongLetter 6 = .ok (.istore_n 1, 1) := by decide +kernel
theorem dX6_wrongLetter_7 : decode cX6_wrongLetter 7 = .ok (.iload_n 1, 1) := by decide +kernel
theorem dX6_wrongLetter_8 : decode cX6_wrongLetter 8 = .ok (.bipush 64, 2) := by decide +kernel
theorem dX6_wrongLetter_10 : decode cX6_wrongLetter 10 = .ok (.if_icmp .ge 36, 3) := by decide +kernel
theorem dX6_wrongLetter_13 : decode cX6_wrongLetter 13 = .ok (.aload_n 0, 1) := by decide +kernel
theorem dX6_wrongLetter_14 : decode cX6_wrongLetter 14 = .ok (.getfield 26, 3) := by decide +kernel
theorem dX6_wrongLetter_17 : decode cX6_wrongLetter 17 = .ok (.aload_n 0, 1) := by decide +kernel
theorem dX6_wrongLetter_18 : decode cX6_wrongLetter 18 = .ok (.getfield 18, 3) := by decide +kernel
theorem dX6_wrongLetter_21 : decode cX6_wrongLetter 21 = .ok (.if_icmp .lt 7, 3) := by decide +kernel
theorem dX6_wrongLetter_24 : decode cX6_wrongLetter 24 = .ok (.iload_n 1, 1) := by decide +kernel
theorem dX6_wrongLetter_25 : decode cX6_wrongLetter 25 = .ok (.ifCond .ne 21, 3) := by decide +kernel
theorem dX6_wrongLetter_28 : decode cX6_wrongLetter 28 = .ok (.aload_n 0, 1) := by decide +kernel
theorem dX6_wrongLetter_29 : decode cX6_wrongLetter 29 = .ok (.invokevirtual 29, 3) := by decide +kernel
theorem dX6_wrongLetter_32 : decode cX6_wrongLetter 32 = .ok (.ifCond .ne 8, 3) := by decide +kernel
theorem dX6_wrongLetter_35 : decode cX6_wrongLetter 35 = .ok (.aload_n 0, 1) := by decide +kernel
theorem dX6_wrongLetter_36 : decode cX6_wrongLetter 36 = .ok (.getfield 26, 3) := by decide +kernel
theorem dX6_wrongLetter_39 : decode cX6_wrongLetter 39 = .ok (.ireturn, 1) := by decide +kernel
theorem dX6_wrongLetter_40 : decode cX6_wrongLetter 40 = .ok (.iinc 1 1, 3) := by decide +kernel
theorem dX6_wrongLetter_43 : decode cX6_wrongLetter 43 = .ok (.goto (-36), 3) := by decide +kernel
theorem dX6_wrongLetter_46 : decode cX6_wrongLetter 46 = .ok (.iconst (-1), 1) := by decide +kernel
theorem dX6_wrongLetter_47 : decode cX6_wrongLetter 47 = .ok (.ireturn, 1) := by decide +kernel
theorem dX6_readStatement_0 : decode cX6_readStatement 0 = .ok (.aload_n 0, 1) := by decide +kernel
theorem dX6_readStatement_1 : decode cX6_readStatement 1 = .ok (.iconst 0, 1) := by decide +kernel
theorem dX6_readStatement_2 : decode cX6_readStatement 2 = .ok (.putfield 39, 3) := by decide +kernel
theorem dX6_readStatement_5 : decode cX6_readStatement 5 = .ok (.aload_n 0, 1) := by decide +kernel
theorem dX6_readStatement_6 : decode cX6_readStatement 6 = .ok (.invokevirtual 42, 3) := by decide +kernel
theorem dX6_readStatement_9 : decode cX6_readStatement 9 = .ok (.istore_n 1, 1) := by decide +kernel
theorem dX6_readStatement_10 : decode cX6_readStatement 10 = .ok (.iload_n 1, 1) := by decide +kernel
theorem dX6_readStatement_11 : decode cX6_readStatement 11 = .ok (.lookupswitch 229 #[(107, 173), (110, 41), (112, 132), (119, 74)], 41) := by decide +kernel
theorem dX6_readStatement_52 : decode cX6_readStatement 52 = .ok (.aload_n 0, 1) := by decide +kernel
theorem dX6_readStatement_53 : decode cX6_readStatement 53 = .ok (.dup, 1) := by decide +kernel
theorem dX6_readStatement_54 : decode cX6_readStatement 54 = .ok (.getfield 26, 3) := by decide +kernel
theorem dX6_readStatement_57 : decode cX6_readStatement 57 = .ok (.iconst 1, 1) := by decide +kernel
theorem dX6_readStatement_58 : decode cX6_readStatement 58 = .ok (.iadd, 1) := by decide +kernel
theorem dX6_readStatement_59 : decode cX6_readStatement 59 = .ok (.putfield 26, 3) := by decide +kernel
theorem dX6_readStatement_62 : decode cX6_readStatement 62 = .ok (.aload_n 0, 1) := by decide +kernel
theorem dX6_readStatement_63 : decode cX6_readStatement 63 = .ok (.iconst 1, 1) := by decide +kernel
theorem dX6_readStatement_64 : decode cX6_readStatement 64 = .ok (.invokevirtual 45, 3) := by decide +kernel
theorem dX6_readStatement_67 : decode cX6_readStatement 67 = .ok (.ifCond .eq 16, 3) := by decide +kernel
theorem dX6_readStatement_70 : decode cX6_readStatement 70 = .ok (.aload_n 0, 1) := by decide +kernel
theorem dX6_readStatement_71 : decode cX6_readStatement 71 = .ok (.bipush 59, 2) := by decide +kernel
theorem dX6_readStatement_73 : decode cX6_readStatement 73 = .ok (.invokevirtual 49, 3) := by decide +kernel
theorem dX6_readStatement_76 : decode cX6_readStatement 76 = .ok (.ifCond .eq 7, 3) := by decide +kernel
theorem dX6_readStatement_79 : decode cX6_readStatement 79 = .ok (.iconst 1, 1) := by decide +kernel
theorem dX6_readStatement_80 : decode cX6_readStatement 80 = .ok (.goto 4, 3) := by decide +kernel
theorem dX6_readStatement_83 : decode cX6_readStatement 83 = .ok (.iconst 0, 1) := by decide +kernel
theorem dX6_readStatement_84 : decode cX6_readStatement 84 = .ok (.ireturn, 1) := by decide +kernel
theorem dX6_readStatement_85 : decode cX6_readStatement 85 = .ok (.aload_n 0, 1) := by decide +kernel
theorem dX6_readStatement_86 : decode cX6_readStatement 86 = .ok (.dup, 1) := by decide +kernel
theorem dX6_readStatement_87 : decode cX6_readStatement 87 = .ok (.getfield 26, 3) := by decide +kernel
theorem dX6_readStatement_90 : decode cX6_readStatement 90 = .ok (.iconst 1, 1) := by decide +kernel
theorem dX6_readStatement_91 : decode cX6_readStatement 91 = .ok (.iadd, 1) := by decide +kernel
theorem dX6_readStatement_92 : decode cX6_readStatement 92 = .ok (.putfield 26, 3) := by decide +kernel
theorem dX6_readStatement_95 : decode cX6_readStatement 95 = .ok (.aload_n 0, 1) := by decide +kernel
theorem dX6_readStatement_96 : decode cX6_readStatement 96 = .ok (.iconst 1, 1) := by decide +kernel
theorem dX6_readStatement_97 : decode cX6_readStatement 97 = .ok (.invokevirtual 45, 3) := by decide +kernel
theorem dX6_readStatement_100 : decode cX6_readStatement 100 = .ok (.ifCond .eq 41, 3) := by decide +kernel
theorem dX6_readStatement_103 : decode cX6_readStatement 103 = .ok (.aload_n 0, 1) := by decide +kernel
theorem dX6_readStatement_104 : decode cX6_readStatement 104 = .ok (.iconst 1, 1) := by decide +kernel
theorem dX6_readStatement_105 : decode cX6_readStatement 105 = .ok (.invokevirtual 45, 3) := by decide +kernel
theorem dX6_readStatement_108 : decode cX6_readStatement 108 = .ok (.ifCond .eq 33, 3) := by decide +kernel
theorem dX6_readStatement_111 : decode cX6_readStatement 111 = .ok (.aload_n 0, 1) := by decide +kernel
theorem dX6_readStatement_112 : decode cX6_readStatement 112 = .ok (.bipush 44, 2) := by decide +kernel
theorem dX6_readStatement_114 : decode cX6_readStatement 114 = .ok (.invokevirtual 49, 3) := by decide +kernel
theorem dX6_readStatement_117 : decode cX6_readStatement 117 = .ok (.ifCond .eq 24, 3) := by decide +kernel
theorem dX6_readStatement_120 : decode cX6_readStatement 120 = .ok (.aload_n 0, 1) := by decide +kernel
theorem dX6_readStatement_121 : decode cX6_readStatement 121 = .ok (.iconst 2, 1) := by decide +kernel
theorem dX6_readStatement_122 : decode cX6_readStatement 122 = .ok (.invokevirtual 45, 3) := by decide +kernel
theorem dX6_readStatement_125 : decode cX6_readStatement 125 = .ok (.ifCond .eq 16, 3) := by decide +kernel
theorem dX6_readStatement_128 : decode cX6_readStatement 128 = .ok (.aload_n 0, 1) := by decide +kernel
theorem dX6_readStatement_129 : decode cX6_readStatement 129 = .ok (.bipush 59, 2) := by decide +kernel
theorem dX6_readStatement_131 : decode cX6_readStatement 131 = .ok (.invokevirtual 49, 3) := by decide +kernel
theorem dX6_readStatement_134 : decode cX6_readStatement 134 = .ok (.ifCond .eq 7, 3) := by decide +kernel
theorem dX6_readStatement_137 : decode cX6_readStatement 137 = .ok (.iconst 1, 1) := by decide +kernel
theorem dX6_readStatement_138 : decode cX6_readStatement 138 = .ok (.goto 4, 3) := by decide +kernel
theorem dX6_readStatement_141 : decode cX6_readStatement 141 = .ok (.iconst 0, 1) := by decide +kernel
theorem dX6_readStatement_142 : decode cX6_readStatement 142 = .ok (.ireturn, 1) := by decide +kernel
theorem dX6_readStatement_143 : decode cX6_readStatement 143 = .ok (.aload_n 0, 1) := by decide +kernel
theorem dX6_readStatement_144 : decode cX6_readStatement 144 = .ok (.dup, 1) := by decide +kernel
theorem dX6_readStatement_145 : decode cX6_readStatement 145 = .ok (.getfield 26, 3) := by decide +kernel
theorem dX6_readStatement_148 : decode cX6_readStatement 148 = .ok (.iconst 1, 1) := by decide +kernel
theorem dX6_readStatement_149 : decode cX6_readStatement 149 = .ok (.iadd, 1) := by decide +kernel
theorem dX6_readStatement_150 : decode cX6_readStatement 150 = .ok (.putfield 26, 3) := by decide +kernel
theorem dX6_readStatement_153 : decode cX6_readStatement 153 = .ok (.aload_n 0, 1) := by decide +kernel
theorem dX6_readStatement_154 : decode cX6_readStatement 154 = .ok (.iconst 2, 1) := by decide +kernel
theorem dX6_readStatement_155 : decode cX6_readStatement 155 = .ok (.invokevirtual 52, 3) := by decide +kernel
theorem dX6_readStatement_158 : decode cX6_readStatement 158 = .ok (.ifCond .eq 24, 3) := by decide +kernel
theorem dX6_readStatement_161 : decode cX6_readStatement 161 = .ok (.aload_n 0, 1) := by decide +kernel
theorem dX6_readStatement_162 : decode cX6_readStatement 162 = .ok (.iconst 2, 1) := by decide +kernel
theorem dX6_readStatement_163 : decode cX6_readStatement 163 = .ok (.invokevirtual 45, 3) := by decide +kernel
theorem dX6_readStatement_166 : decode cX6_readStatement 166 = .ok (.ifCond .eq 16, 3) := by decide +kernel
theorem dX6_readStatement_169 : decode cX6_readStatement 169 = .ok (.aload_n 0, 1) := by decide +kernel
theorem dX6_readStatement_170 : decode cX6_readStatement 170 = .ok (.bipush 59, 2) := by decide +kernel
theorem dX6_readStatement_172 : decode cX6_readStatement 172 = .ok (.invokevirtual 49, 3) := by decide +kernel
theorem dX6_readStatement_175 : decode cX6_readStatement 175 = .ok (.ifCond .eq 7, 3) := by decide +kernel
theorem dX6_readStatement_178 : decode cX6_readStatement 178 = .ok (.iconst 1, 1) := by decide +kernel
theorem dX6_readStatement_179 : decode cX6_readStatement 179 = .ok (.goto 4, 3) := by decide +kernel
theorem dX6_readStatement_182 : decode cX6_readStatement 182 = .ok (.iconst 0, 1) := by decide +kernel
theorem dX6_readStatement_183 : decode cX6_readStatement 183 = .ok (.ireturn, 1) := by decide +kernel
theorem dX6_readStatement_184 : decode cX6_readStatement 184 = .ok (.aload_n 0, 1) := by decide +kernel
theorem dX6_readStatement_185 : decode cX6_readStatement 185 = .ok (.dup, 1) := by decide +kernel
theorem dX6_readStatement_186 : decode cX6_readStatement 186 = .ok (.getfield 26, 3) := by decide +kernel
theorem dX6_readStatement_189 : decode cX6_readStatement 189 = .ok (.iconst 1, 1) := by decide +kernel
theorem dX6_readStatement_190 : decode cX6_readStatement 190 = .ok (.iadd, 1) := by decide +kernel
theorem dX6_readStatement_191 : decode cX6_readStatement 191 = .ok (.putfield 26, 3) := by decide +kernel
theorem dX6_readStatement_194 : decode cX6_readStatement 194 = .ok (.aload_n 0, 1) := by decide +kernel
theorem dX6_readStatement_195 : decode cX6_readStatement 195 = .ok (.invokevirtual 55, 3) := by decide +kernel
theorem dX6_readStatement_198 : decode cX6_readStatement 198 = .ok (.ifCond .eq 40, 3) := by decide +kernel
theorem dX6_readStatement_201 : decode cX6_readStatement 201 = .ok (.aload_n 0, 1) := by decide +kernel
theorem dX6_readStatement_202 : decode cX6_readStatement 202 = .ok (.iconst 1, 1) := by decide +kernel
theorem dX6_readStatement_203 : decode cX6_readStatement 203 = .ok (.invokevirtual 45, 3) := by decide +kernel
theorem dX6_readStatement_206 : decode cX6_readStatement 206 = .ok (.ifCond .eq 32, 3) := by decide +kernel
theorem dX6_readStatement_209 : decode cX6_readStatement 209 = .ok (.aload_n 0, 1) := by decide +kernel
theorem dX6_readStatement_210 : decode cX6_readStatement 210 = .ok (.iconst 3, 1) := by decide +kernel
theorem dX6_readStatement_211 : decode cX6_readStatement 211 = .ok (.invokevirtual 52, 3) := by decide +kernel
theorem dX6_readStatement_214 : decode cX6_readStatement 214 = .ok (.ifCond .eq 24, 3) := by decide +kernel
theorem dX6_readStatement_217 : decode cX6_readStatement 217 = .ok (.aload_n 0, 1) := by decide +kernel
theorem dX6_readStatement_218 : decode cX6_readStatement 218 = .ok (.iconst 2, 1) := by decide +kernel
theorem dX6_readStatement_219 : decode cX6_readStatement 219 = .ok (.invokevirtual 45, 3) := by decide +kernel
theorem dX6_readStatement_222 : decode cX6_readStatement 222 = .ok (.ifCond .eq 16, 3) := by decide +kernel
theorem dX6_readStatement_225 : decode cX6_readStatement 225 = .ok (.aload_n 0, 1) := by decide +kernel
theorem dX6_readStatement_226 : decode cX6_readStatement 226 = .ok (.bipush 59, 2) := by decide +kernel
theorem dX6_readStatement_228 : decode cX6_readStatement 228 = .ok (.invokevirtual 49, 3) := by decide +kernel
theorem dX6_readStatement_231 : decode cX6_readStatement 231 = .ok (.ifCond .eq 7, 3) := by decide +kernel
theorem dX6_readStatement_234 : decode cX6_readStatement 234 = .ok (.iconst 1, 1) := by decide +kernel
theorem dX6_readStatement_235 : decode cX6_readStatement 235 = .ok (.goto 4, 3) := by decide +kernel
theorem dX6_readStatement_238 : decode cX6_readStatement 238 = .ok (.iconst 0, 1) := by decide +kernel
theorem dX6_readStatement_239 : decode cX6_readStatement 239 = .ok (.ireturn, 1) := by decide +kernel
theorem dX6_readStatement_240 : decode cX6_readStatement 240 = .ok (.iconst 0, 1) := by decide +kernel
theorem dX6_readStatement_241 : decode cX6_readStatement 241 = .ok (.ireturn, 1) := by decide +kernel
theorem dX6_letter_0 : decode cX6_letter 0 = .ok (.aload_n 0, 1) := by decide +kernel
theorem dX6_letter_1 : decode cX6_letter 1 = .ok (.getfield 26, 3) := by decide +kernel
theorem dX6_letter_4 : decode cX6_letter 4 = .ok (.ifCond .lt 26, 3) := by decide +kernel
theorem dX6_letter_7 : decode cX6_letter 7 = .ok (.aload_n 0, 1) := by decide +kernel
theorem dX6_letter_8 : decode cX6_letter 8 = .ok (.getfield 26, 3) := by decide +kernel
theorem dX6_letter_11 : decode cX6_letter 11 = .ok (.aload_n 0, 1) := by decide +kernel
theorem dX6_letter_12 : decode cX6_letter 12 = .ok (.getfield 18, 3) := by decide +kernel
theorem dX6_letter_15 : decode cX6_letter 15 = .ok (.if_icmp .ge 15, 3) := by decide +kernel
theorem dX6_letter_18 : decode cX6_letter 18 = .ok (.aload_n 0, 1) := by decide +kernel
theorem dX6_letter_19 : decode cX6_letter 19 = .ok (.getfield 11, 3) := by decide +kernel
theorem dX6_letter_22 : decode cX6_letter 22 = .ok (.aload_n 0, 1) := by decide +kernel
theorem dX6_letter_23 : decode cX6_letter 23 = .ok (.getfield 26, 3) := by decide +kernel
theorem dX6_letter_26 : decode cX6_letter 26 = .ok (.iaload, 1) := by decide +kernel
theorem dX6_letter_27 : decode cX6_letter 27 = .ok (.goto 4, 3) := by decide +kernel
theorem dX6_letter_30 : decode cX6_letter 30 = .ok (.iconst (-1), 1) := by decide +kernel
theorem dX6_letter_31 : decode cX6_letter 31 = .ok (.ireturn, 1) := by decide +kernel
theorem dX6_say_0 : decode cX6_say 0 = .ok (.aload_n 0, 1) := by decide +kernel
theorem dX6_say_1 : decode cX6_say 1 = .ok (.getfield 39, 3) := by decide +kernel
theorem dX6_say_4 : decode cX6_say 4 = .ok (.aload_n 0, 1) := by decide +kernel
theorem dX6_say_5 : decode cX6_say 5 = .ok (.getfield 15, 3) := by decide +kernel
theorem dX6_say_8 : decode cX6_say 8 = .ok (.arraylength, 1) := by decide +kernel
theorem dX6_say_9 : decode cX6_say 9 = .ok (.if_icmp .ge 23, 3) := by decide +kernel
theorem dX6_say_12 : decode cX6_say 12 = .ok (.aload_n 0, 1) := by decide +kernel
theorem dX6_say_13 : decode cX6_say 13 = .ok (.getfield 15, 3) := by decide +kernel
theorem dX6_say_16 : decode cX6_say 16 = .ok (.aload_n 0, 1) := by decide +kernel
theorem dX6_say_17 : decode cX6_say 17 = .ok (.getfield 39, 3) := by decide +kernel
theorem dX6_say_20 : decode cX6_say 20 = .ok (.iload_n 1, 1) := by decide +kernel
theorem dX6_say_21 : decode cX6_say 21 = .ok (.iastore, 1) := by decide +kernel
theorem dX6_say_22 : decode cX6_say 22 = .ok (.aload_n 0, 1) := by decide +kernel
theorem dX6_say_23 : decode cX6_say 23 = .ok (.dup, 1) := by decide +kernel
theorem dX6_say_24 : decode cX6_say 24 = .ok (.getfield 39, 3) := by decide +kernel
theorem dX6_say_27 : decode cX6_say 27 = .ok (.iconst 1, 1) := by decide +kernel
theorem dX6_say_28 : decode cX6_say 28 = .ok (.iadd, 1) := by decide +kernel
theorem dX6_say_29 : decode cX6_say 29 = .ok (.putfield 39, 3) := by decide +kernel
theorem dX6_say_32 : decode cX6_say 32 = .ok (.return_, 1) := by decide +kernel
theorem dX6_readSign_0 : decode cX6_readSign 0 = .ok (.aload_n 0, 1) := by decide +kernel
theorem dX6_readSign_1 : decode cX6_readSign 1 = .ok (.invokevirtual 42, 3) := by decide +kernel
theorem dX6_readSign_4 : decode cX6_readSign 4 = .ok (.iload_n 1, 1) := by decide +kernel
theorem dX6_readSign_5 : decode cX6_readSign 5 = .ok (.if_icmp .eq 5, 3) := by decide +kernel
theorem dX6_readSign_8 : decode cX6_readSign 8 = .ok (.iconst 0, 1) := by decide +kernel
theorem dX6_readSign_9 : decode cX6_readSign 9 = .ok (.ireturn, 1) := by decide +kernel
theorem dX6_readSign_10 : decode cX6_readSign 10 = .ok (.aload_n 0, 1) := by decide +kernel
theorem dX6_readSign_11 : decode cX6_readSign 11 = .ok (.dup, 1) := by decide +kernel
theorem dX6_readSign_12 : decode cX6_readSign 12 = .ok (.getfield 26, 3) := by decide +kernel
theorem dX6_readSign_15 : decode cX6_readSign 15 = .ok (.iconst 1, 1) := by decide +kernel
theorem dX6_readSign_16 : decode cX6_readSign 16 = .ok (.iadd, 1) := by decide +kernel
theorem dX6_readSign_17 : decode cX6_readSign 17 = .ok (.putfield 26, 3) := by decide +kernel
theorem dX6_readSign_20 : decode cX6_readSign 20 = .ok (.iconst 1, 1) := by decide +kernel
theorem dX6_readSign_21 : decode cX6_readSign 21 = .ok (.ireturn, 1) := by decide +kernel
theorem dX6_isAtDigit_0 : decode cX6_isAtDigit 0 = .ok (.aload_n 0, 1) := by decide +kernel
theorem dX6_isAtDigit_1 : decode cX6_isAtDigit 1 = .ok (.getfield 26, 3) := by decide +kernel
theorem dX6_isAtDigit_4 : decode cX6_isAtDigit 4 = .ok (.ifCond .lt 46, 3) := by decide +kernel
theorem dX6_isAtDigit_7 : decode cX6_isAtDigit 7 = .ok (.aload_n 0, 1) := by decide +kernel
theorem dX6_isAtDigit_8 : decode cX6_isAtDigit 8 = .ok (.getfield 26, 3) := by decide +kernel
theorem dX6_isAtDigit_11 : decode cX6_isAtDigit 11 = .ok (.aload_n 0, 1) := by decide +kernel
theorem dX6_isAtDigit_12 : decode cX6_isAtDigit 12 = .ok (.getfield 18, 3) := by decide +kernel
theorem dX6_isAtDigit_15 : decode cX6_isAtDigit 15 = .ok (.if_icmp .ge 35, 3) := by decide +kernel
theorem dX6_isAtDigit_18 : decode cX6_isAtDigit 18 = .ok (.aload_n 0, 1) := by decide +kernel
theorem dX6_isAtDigit_19 : decode cX6_isAtDigit 19 = .ok (.getfield 11, 3) := by decide +kernel
theorem dX6_isAtDigit_22 : decode cX6_isAtDigit 22 = .ok (.aload_n 0, 1) := by decide +kernel
theorem dX6_isAtDigit_23 : decode cX6_isAtDigit 23 = .ok (.getfield 26, 3) := by decide +kernel
theorem dX6_isAtDigit_26 : decode cX6_isAtDigit 26 = .ok (.iaload, 1) := by decide +kernel
theorem dX6_isAtDigit_27 : decode cX6_isAtDigit 27 = .ok (.bipush 48, 2) := by decide +kernel
theorem dX6_isAtDigit_29 : decode cX6_isAtDigit 29 = .ok (.if_icmp .lt 21, 3) := by decide +kernel
theorem dX6_isAtDigit_32 : decode cX6_isAtDigit 32 = .ok (.aload_n 0, 1) := by decide +kernel
theorem dX6_isAtDigit_33 : decode cX6_isAtDigit 33 = .ok (.getfield 11, 3) := by decide +kernel
theorem dX6_isAtDigit_36 : decode cX6_isAtDigit 36 = .ok (.aload_n 0, 1) := by decide +kernel
theorem dX6_isAtDigit_37 : decode cX6_isAtDigit 37 = .ok (.getfield 26, 3) := by decide +kernel
theorem dX6_isAtDigit_40 : decode cX6_isAtDigit 40 = .ok (.iaload, 1) := by decide +kernel
theorem dX6_isAtDigit_41 : decode cX6_isAtDigit 41 = .ok (.bipush 57, 2) := by decide +kernel
theorem dX6_isAtDigit_43 : decode cX6_isAtDigit 43 = .ok (.if_icmp .gt 7, 3) := by decide +kernel
theorem dX6_isAtDigit_46 : decode cX6_isAtDigit 46 = .ok (.iconst 1, 1) := by decide +kernel
theorem dX6_isAtDigit_47 : decode cX6_isAtDigit 47 = .ok (.goto 4, 3) := by decide +kernel
theorem dX6_isAtDigit_50 : decode cX6_isAtDigit 50 = .ok (.iconst 0, 1) := by decide +kernel
theorem dX6_isAtDigit_51 : decode cX6_isAtDigit 51 = .ok (.ireturn, 1) := by decide +kernel
theorem dX6_readNumber_0 : decode cX6_readNumber 0 = .ok (.aload_n 0, 1) := by decide +kernel
theorem dX6_readNumber_1 : decode cX6_readNumber 1 = .ok (.invokevirtual 58, 3) := by decide +kernel
theorem dX6_readNumber_4 : decode cX6_readNumber 4 = .ok (.ifCond .ne 5, 3) := by decide +kernel
theorem dX6_readNumber_7 : decode cX6_readNumber 7 = .ok (.iconst 0, 1) := by decide +kernel
theorem dX6_readNumber_8 : decode cX6_readNumber 8 = .ok (.ireturn, 1) := by decide +kernel
theorem dX6_readNumber_9 : decode cX6_readNumber 9 = .ok (.iconst 0, 1) := by decide +kernel
theorem dX6_readNumber_10 : decode cX6_readNumber 10 = .ok (.istore_n 2, 1) := by decide +kernel
theorem dX6_readNumber_11 : decode cX6_readNumber 11 = .ok (.iconst 0, 1) := by decide +kernel
theorem dX6_readNumber_12 : decode cX6_readNumber 12 = .ok (.istore_n 3, 1) := by decide +kernel
theorem dX6_readNumber_13 : decode cX6_readNumber 13 = .ok (.iload_n 3, 1) := by decide +kernel
theorem dX6_readNumber_14 : decode cX6_readNumber 14 = .ok (.iload_n 1, 1) := by decide +kernel
theorem dX6_readNumber_15 : decode cX6_readNumber 15 = .ok (.if_icmp .ge 39, 3) := by decide +kernel
theorem dX6_readNumber_18 : decode cX6_readNumber 18 = .ok (.aload_n 0, 1) := by decide +kernel
theorem dX6_readNumber_19 : decode cX6_readNumber 19 = .ok (.invokevirtual 58, 3) := by decide +kernel
theorem dX6_readNumber_22 : decode cX6_readNumber 22 = .ok (.ifCond .eq 32, 3) := by decide +kernel
theorem dX6_readNumber_25 : decode cX6_readNumber 25 = .ok (.bipush 10, 2) := by decide +kernel
theorem dX6_readNumber_27 : decode cX6_readNumber 27 = .ok (.iload_n 2, 1) := by decide +kernel
theorem dX6_readNumber_28 : decode cX6_readNumber 28 = .ok (.imul, 1) := by decide +kernel
theorem dX6_readNumber_29 : decode cX6_readNumber 29 = .ok (.aload_n 0, 1) := by decide +kernel
theorem dX6_readNumber_30 : decode cX6_readNumber 30 = .ok (.invokevirtual 42, 3) := by decide +kernel
theorem dX6_readNumber_33 : decode cX6_readNumber 33 = .ok (.iadd, 1) := by decide +kernel
theorem dX6_readNumber_34 : decode cX6_readNumber 34 = .ok (.bipush 48, 2) := by decide +kernel
theorem dX6_readNumber_36 : decode cX6_readNumber 36 = .ok (.isub, 1) := by decide +kernel
theorem dX6_readNumber_37 : decode cX6_readNumber 37 = .ok (.istore_n 2, 1) := by decide +kernel
theorem dX6_readNumber_38 : decode cX6_readNumber 38 = .ok (.aload_n 0, 1) := by decide +kernel
theorem dX6_readNumber_39 : decode cX6_readNumber 39 = .ok (.dup, 1) := by decide +kernel
theorem dX6_readNumber_40 : decode cX6_readNumber 40 = .ok (.getfield 26, 3) := by decide +kernel
theorem dX6_readNumber_43 : decode cX6_readNumber 43 = .ok (.iconst 1, 1) := by decide +kernel
theorem dX6_readNumber_44 : decode cX6_readNumber 44 = .ok (.iadd, 1) := by decide +kernel
theorem dX6_readNumber_45 : decode cX6_readNumber 45 = .ok (.putfield 26, 3) := by decide +kernel
theorem dX6_readNumber_48 : decode cX6_readNumber 48 = .ok (.iinc 3 1, 3) := by decide +kernel
theorem dX6_readNumber_51 : decode cX6_readNumber 51 = .ok (.goto (-38), 3) := by decide +kernel
theorem dX6_readNumber_54 : decode cX6_readNumber 54 = .ok (.aload_n 0, 1) := by decide +kernel
theorem dX6_readNumber_55 : decode cX6_readNumber 55 = .ok (.iload_n 2, 1) := by decide +kernel
theorem dX6_readNumber_56 : decode cX6_readNumber 56 = .ok (.invokevirtual 61, 3) := by decide +kernel
theorem dX6_readNumber_59 : decode cX6_readNumber 59 = .ok (.iconst 1, 1) := by decide +kernel
theorem dX6_readNumber_60 : decode cX6_readNumber 60 = .ok (.ireturn, 1) := by decide +kernel
theorem dX6_readThree_0 : decode cX6_readThree 0 = .ok (.iconst 0, 1) := by decide +kernel
theorem dX6_readThree_1 : decode cX6_readThree 1 = .ok (.istore_n 2, 1) := by decide +kernel
theorem dX6_readThree_2 : decode cX6_readThree 2 = .ok (.iload_n 2, 1) := by decide +kernel
theorem dX6_readThree_3 : decode cX6_readThree 3 = .ok (.iconst 3, 1) := by decide +kernel
theorem dX6_readThree_4 : decode cX6_readThree 4 = .ok (.if_icmp .ge 28, 3) := by decide +kernel
theorem dX6_readThree_7 : decode cX6_readThree 7 = .ok (.aload_n 0, 1) := by decide +kernel
theorem dX6_readThree_8 : decode cX6_readThree 8 = .ok (.iload_n 1, 1) := by decide +kernel
theorem dX6_readThree_9 : decode cX6_readThree 9 = .ok (.invokevirtual 45, 3) := by decide +kernel
theorem dX6_readThree_12 : decode cX6_readThree 12 = .ok (.ifCond .eq 12, 3) := by decide +kernel
theorem dX6_readThree_15 : decode cX6_readThree 15 = .ok (.aload_n 0, 1) := by decide +kernel
theorem dX6_readThree_16 : decode cX6_readThree 16 = .ok (.bipush 44, 2) := by decide +kernel
theorem dX6_readThree_18 : decode cX6_readThree 18 = .ok (.invokevirtual 49, 3) := by decide +kernel
theorem dX6_readThree_21 : decode cX6_readThree 21 = .ok (.ifCond .ne 5, 3) := by decide +kernel
theorem dX6_readThree_24 : decode cX6_readThree 24 = .ok (.iconst 0, 1) := by decide +kernel
theorem dX6_readThree_25 : decode cX6_readThree 25 = .ok (.ireturn, 1) := by decide +kernel
theorem dX6_readThree_26 : decode cX6_readThree 26 = .ok (.iinc 2 1, 3) := by decide +kernel
theorem dX6_readThree_29 : decode cX6_readThree 29 = .ok (.goto (-27), 3) := by decide +kernel
theorem dX6_readThree_32 : decode cX6_readThree 32 = .ok (.iconst 1, 1) := by decide +kernel
theorem dX6_readThree_33 : decode cX6_readThree 33 = .ok (.ireturn, 1) := by decide +kernel
theorem dX6_readKind_0 : decode cX6_readKind 0 = .ok (.aload_n 0, 1) := by decide +kernel
theorem dX6_readKind_1 : decode cX6_readKind 1 = .ok (.invokevirtual 42, 3) := by decide +kernel
theorem dX6_readKind_4 : decode cX6_readKind 4 = .ok (.istore_n 1, 1) := by decide +kernel
theorem dX6_readKind_5 : decode cX6_readKind 5 = .ok (.iconst 0, 1) := by decide +kernel
theorem dX6_readKind_6 : decode cX6_readKind 6 = .ok (.istore_n 2, 1) := by decide +kernel
theorem dX6_readKind_7 : decode cX6_readKind 7 = .ok (.iload_n 2, 1) := by decide +kernel
theorem dX6_readKind_8 : decode cX6_readKind 8 = .ok (.getstatic 65, 3) := by decide +kernel
theorem dX6_readKind_11 : decode cX6_readKind 11 = .ok (.arraylength, 1) := by decide +kernel
theorem dX6_readKind_12 : decode cX6_readKind 12 = .ok (.if_icmp .ge 35, 3) := by decide +kernel
theorem dX6_readKind_15 : decode cX6_readKind 15 = .ok (.getstatic 65, 3) := by decide +kernel
theorem dX6_readKind_18 : decode cX6_readKind 18 = .ok (.iload_n 2, 1) := by decide +kernel
theorem dX6_readKind_19 : decode cX6_readKind 19 = .ok (.caload, 1) := by decide +kernel
theorem dX6_readKind_20 : decode cX6_readKind 20 = .ok (.iload_n 1, 1) := by decide +kernel
theorem dX6_readKind_21 : decode cX6_readKind 21 = .ok (.if_icmp .ne 20, 3) := by decide +kernel
theorem dX6_readKind_24 : decode cX6_readKind 24 = .ok (.aload_n 0, 1) := by decide +kernel
theorem dX6_readKind_25 : decode cX6_readKind 25 = .ok (.dup, 1) := by decide +kernel
theorem dX6_readKind_26 : decode cX6_readKind 26 = .ok (.getfield 26, 3) := by decide +kernel
theorem dX6_readKind_29 : decode cX6_readKind 29 = .ok (.iconst 1, 1) := by decide +kernel
theorem dX6_readKind_30 : decode cX6_readKind 30 = .ok (.iadd, 1) := by decide +kernel
theorem dX6_readKind_31 : decode cX6_readKind 31 = .ok (.putfield 26, 3) := by decide +kernel
theorem dX6_readKind_34 : decode cX6_readKind 34 = .ok (.aload_n 0, 1) := by decide +kernel
theorem dX6_readKind_35 : decode cX6_readKind 35 = .ok (.iload_n 2, 1) := by decide +kernel
theorem dX6_readKind_36 : decode cX6_readKind 36 = .ok (.invokevirtual 61, 3) := by decide +kernel
theorem dX6_readKind_39 : decode cX6_readKind 39 = .ok (.iconst 1, 1) := by decide +kernel
theorem dX6_readKind_40 : decode cX6_readKind 40 = .ok (.ireturn, 1) := by decide +kernel
theorem dX6_readKind_41 : decode cX6_readKind 41 = .ok (.iinc 2 1, 3) := by decide +kernel
theorem dX6_readKind_44 : decode cX6_readKind 44 = .ok (.goto (-37), 3) := by decide +kernel
theorem dX6_readKind_47 : decode cX6_readKind 47 = .ok (.iconst 0, 1) := by decide +kernel
theorem dX6_readKind_48 : decode cX6_readKind 48 = .ok (.ireturn, 1) := by decide +kernel
theorem dX7_init_0 : decode cX7_init 0 = .ok (.aload_n 0, 1) := by decide +kernel
theorem dX7_init_1 : decode cX7_init 1 = .ok (.invokespecial 3, 3) := by decide +kernel
theorem dX7_init_4 : decode cX7_init 4 = .ok (.aload_n 0, 1) := by decide +kernel
theorem dX7_init_5 : decode cX7_init 5 = .ok (.iconst 3, 1) := by decide +kernel
theorem dX7_init_6 : decode cX7_init 6 = .ok (.putfield 9, 3) := by decide +kernel
theorem dX7_init_9 : decode cX7_init 9 = .ok (.aload_n 0, 1) := by decide +kernel
theorem dX7_init_10 : decode cX7_init 10 = .ok (.bipush 6, 2) := by decide +kernel
theorem dX7_init_12 : decode cX7_init 12 = .ok (.bipush 6, 2) := by decide +kernel
theorem dX7_init_14 : decode cX7_init 14 = .ok (.multianewarray 15 2, 4) := by decide +kernel
theorem dX7_init_18 : decode cX7_init 18 = .ok (.putfield 17, 3) := by decide +kernel
theorem dX7_init_21 : decode cX7_init 21 = .ok (.aload_n 0, 1) := by decide +kernel
theorem dX7_init_22 : decode cX7_init 22 = .ok (.bipush 6, 2) := by decide +kernel
theorem dX7_init_24 : decode cX7_init 24 = .ok (.bipush 6, 2) := by decide +kernel
theorem dX7_init_26 : decode cX7_init 26 = .ok (.multianewarray 15 2, 4) := by decide +kernel
theorem dX7_init_30 : decode cX7_init 30 = .ok (.putfield 20, 3) := by decide +kernel
theorem dX7_init_33 : decode cX7_init 33 = .ok (.aload_n 0, 1) := by decide +kernel
theorem dX7_init_34 : decode cX7_init 34 = .ok (.bipush 6, 2) := by decide +kernel
theorem dX7_init_36 : decode cX7_init 36 = .ok (.anewarray 23, 3) := by decide +kernel
theorem dX7_init_39 : decode cX7_init 39 = .ok (.putfield 25, 3) := by decide +kernel
theorem dX7_init_42 : decode cX7_init 42 = .ok (.aload_n 0, 1) := by decide +kernel
theorem dX7_init_43 : decode cX7_init 43 = .ok (.bipush 6, 2) := by decide +kernel
theorem dX7_init_45 : decode cX7_init 45 = .ok (.anewarray 29, 3) := by decide +kernel
theorem dX7_init_48 : decode cX7_init 48 = .ok (.putfield 31, 3) := by decide +kernel
theorem dX7_init_51 : decode cX7_init 51 = .ok (.aload_n 0, 1) := by decide +kernel
theorem dX7_init_52 : decode cX7_init 52 = .ok (.bipush 24, 2) := by decide +kernel
theorem dX7_init_54 : decode cX7_init 54 = .ok (.anewarray 35, 3) := by decide +kernel
theorem dX7_init_57 : decode cX7_init 57 = .ok (.putfield 37, 3) := by decide +kernel
theorem dX7_init_60 : decode cX7_init 60 = .ok (.iconst 0, 1) := by decide +kernel
theorem dX7_init_61 : decode cX7_init 61 = .ok (.istore_n 1, 1) := by decide +kernel
theorem dX7_init_62 : decode cX7_init 62 = .ok (.iload_n 1, 1) := by decide +kernel
theorem dX7_init_63 : decode cX7_init 63 = .ok (.bipush 6, 2) := by decide +kernel
theorem dX7_init_65 : decode cX7_init 65 = .ok (.if_icmp .ge 22, 3) := by decide +kernel
theorem dX7_init_68 : decode cX7_init 68 = .ok (.aload_n 0, 1) := by decide +kernel
theorem dX7_init_69 : decode cX7_init 69 = .ok (.getfield 25, 3) := by decide +kernel
theorem dX7_init_72 : decode cX7_init 72 = .ok (.iload_n 1, 1) := by decide +kernel
theorem dX7_init_73 : decode cX7_init 73 = .ok (.new 23, 3) := by decide +kernel
theorem dX7_init_76 : decode cX7_init 76 = .ok (.dup, 1) := by decide +kernel
theorem dX7_init_77 : decode cX7_init 77 = .ok (.invokespecial 41, 3) := by decide +kernel
theorem dX7_init_80 : decode cX7_init 80 = .ok (.aastore, 1) := by decide +kernel
theorem dX7_init_81 : decode cX7_init 81 = .ok (.iinc 1 1, 3) := by decide +kernel
theorem dX7_init_84 : decode cX7_init 84 = .ok (.goto (-22), 3) := by decide +kernel
theorem dX7_init_87 : decode cX7_init 87 = .ok (.iconst 0, 1) := by decide +kernel
theorem dX7_init_88 : decode cX7_init 88 = .ok (.istore_n 1, 1) := by decide +kernel
theorem dX7_init_89 : decode cX7_init 89 = .ok (.iload_n 1, 1) := by decide +kernel
theorem dX7_init_90 : decode cX7_init 90 = .ok (.bipush 6, 2) := by decide +kernel
theorem dX7_init_92 : decode cX7_init 92 = .ok (.if_icmp .ge 22, 3) := by decide +kernel
theorem dX7_init_95 : decode cX7_init 95 = .ok (.aload_n 0, 1) := by decide +kernel
theorem dX7_init_96 : decode cX7_init 96 = .ok (.getfield 31, 3) := by decide +kernel
theorem dX7_init_99 : decode cX7_init 99 = .ok (.iload_n 1, 1) := by decide +kernel
theorem dX7_init_100 : decode cX7_init 100 = .ok (.new 29, 3) := by decide +kernel
theorem dX7_init_103 : decode cX7_init 103 = .ok (.dup, 1) := by decide +kernel
theorem dX7_init_104 : decode cX7_init 104 = .ok (.invokespecial 42, 3) := by decide +kernel
theorem dX7_init_107 : decode cX7_init 107 = .ok (.aastore, 1) := by decide +kernel
theorem dX7_init_108 : decode cX7_init 108 = .ok (.iinc 1 1, 3) := by decide +kernel
theorem dX7_init_111 : decode cX7_init 111 = .ok (.goto (-22), 3) := by decide +kernel
theorem dX7_init_114 : decode cX7_init 114 = .ok (.iconst 0, 1) := by decide +kernel
theorem dX7_init_115 : decode cX7_init 115 = .ok (.istore_n 1, 1) := by decide +kernel
theorem dX7_init_116 : decode cX7_init 116 = .ok (.iload_n 1, 1) := by decide +kernel
theorem dX7_init_117 : decode cX7_init 117 = .ok (.bipush 24, 2) := by decide +kernel
theorem dX7_init_119 : decode cX7_init 119 = .ok (.if_icmp .ge 22, 3) := by decide +kernel
theorem dX7_init_122 : decode cX7_init 122 = .ok (.aload_n 0, 1) := by decide +kernel
theorem dX7_init_123 : decode cX7_init 123 = .ok (.getfield 37, 3) := by decide +kernel
theorem dX7_init_126 : decode cX7_init 126 = .ok (.iload_n 1, 1) := by decide +kernel
theorem dX7_init_127 : decode cX7_init 127 = .ok (.new 35, 3) := by decide +kernel
theorem dX7_init_130 : decode cX7_init 130 = .ok (.dup, 1) := by decide +kernel
theorem dX7_init_131 : decode cX7_init 131 = .ok (.invokespecial 43, 3) := by decide +kernel
theorem dX7_init_134 : decode cX7_init 134 = .ok (.aastore, 1) := by decide +kernel
theorem dX7_init_135 : decode cX7_init 135 = .ok (.iinc 1 1, 3) := by decide +kernel
theorem dX7_init_138 : decode cX7_init 138 = .ok (.goto (-22), 3) := by decide +kernel
theorem dX7_init_141 : decode cX7_init 141 = .ok (.return_, 1) := by decide +kernel
theorem dX7_become_0 : decode cX7_become 0 = .ok (.aload_n 0, 1) := by decide +kernel
theorem dX7_become_1 : decode cX7_become 1 = .ok (.aload_n 1, 1) := by decide +kernel
theorem dX7_become_2 : decode cX7_become 2 = .ok (.getfield 9, 3) := by decide +kernel
theorem dX7_become_5 : decode cX7_become 5 = .ok (.putfield 9, 3) := by decide +kernel
theorem dX7_become_8 : decode cX7_become 8 = .ok (.aload_n 0, 1) := by decide +kernel
theorem dX7_become_9 : decode cX7_become 9 = .ok (.aload_n 1, 1) := by decide +kernel
theorem dX7_become_10 : decode cX7_become 10 = .ok (.getfield 44, 3) := by decide +kernel
theorem dX7_become_13 : decode cX7_become 13 = .ok (.putfield 44, 3) := by decide +kernel
theorem dX7_become_16 : decode cX7_become 16 = .ok (.aload_n 0, 1) := by decide +kernel
theorem dX7_become_17 : decode cX7_become 17 = .ok (.aload_n 1, 1) := by decide +kernel
theorem dX7_become_18 : decode cX7_become 18 = .ok (.getfield 47, 3) := by decide +kernel
theorem dX7_become_21 : decode cX7_become 21 = .ok (.putfield 47, 3) := by decide +kernel
theorem dX7_become_24 : decode cX7_become 24 = .ok (.iconst 0, 1) := by decide +kernel
theorem dX7_become_25 : decode cX7_become 25 = .ok (.istore_n 2, 1) := by decide +kernel
theorem dX7_become_26 : decode cX7_become 26 = .ok (.iload_n 2, 1) := by decide +kernel
theorem dX7_become_27 : decode cX7_become 27 = .ok (.bipush 6, 2) := by decide +kernel
theorem dX7_become_29 : decode cX7_become 29 = .ok (.if_icmp .ge 28, 3) := by decide +kernel
theorem dX7_become_32 : decode cX7_become 32 = .ok (.aload_n 1, 1) := by decide +kernel
theorem dX7_become_33 : decode cX7_become 33 = .ok (.getfield 17, 3) := by decide +kernel
theorem dX7_become_36 : decode cX7_become 36 = .ok (.iload_n 2, 1) := by decide +kernel
theorem dX7_become_37 : decode cX7_become 37 = .ok (.aaload, 1) := by decide +kernel
theorem dX7_become_38 : decode cX7_become 38 = .ok (.iconst 0, 1) := by decide +kernel
theorem dX7_become_39 : decode cX7_become 39 = .ok (.aload_n 0, 1) := by decide +kernel
theorem dX7_become_40 : decode cX7_become 40 = .ok (.getfield 17, 3) := by decide +kernel
theorem dX7_become_43 : decode cX7_become 43 = .ok (.iload_n 2, 1) := by decide +kernel
theorem dX7_become_44 : decode cX7_become 44 = .ok (.aaload, 1) := by decide +kernel
theorem dX7_become_45 : decode cX7_become 45 = .ok (.iconst 0, 1) := by decide +kernel
theorem dX7_become_46 : decode cX7_become 46 = .ok (.bipush 6, 2) := by decide +kernel
theorem dX7_become_48 : decode cX7_become 48 = .ok (.invokestatic 50, 3) := by decide +kernel
theorem dX7_become_51 : decode cX7_become 51 = .ok (.iinc 2 1, 3) := by decide +kernel
theorem dX7_become_54 : decode cX7_become 54 = .ok (.goto (-28), 3) := by decide +kernel
theorem dX7_become_57 : decode cX7_become 57 = .ok (.iconst 0, 1) := by decide +kernel
theorem dX7_become_58 : decode cX7_become 58 = .ok (.istore_n 2, 1) := by decide +kernel
theorem dX7_become_59 : decode cX7_become 59 = .ok (.iload_n 2, 1) := by decide +kernel
theorem dX7_become_60 : decode cX7_become 60 = .ok (.bipush 6, 2) := by decide +kernel
theorem dX7_become_62 : decode cX7_become 62 = .ok (.if_icmp .ge 24, 3) := by decide +kernel
theorem dX7_become_65 : decode cX7_become 65 = .ok (.aload_n 0, 1) := by decide +kernel
theorem dX7_become_66 : decode cX7_become 66 = .ok (.getfield 25, 3) := by decide +kernel
theorem dX7_become_69 : decode cX7_become 69 = .ok (.iload_n 2, 1) := by decide +kernel
theorem dX7_become_70 : decode cX7_become 70 = .ok (.aaload, 1) := by decide +kernel
theorem dX7_become_71 : decode cX7_become 71 = .ok (.aload_n 1, 1) := by decide +kernel
theorem dX7_become_72 : decode cX7_become 72 = .ok (.getfield 25, 3) := by decide +kernel
theorem dX7_become_75 : decode cX7_become 75 = .ok (.iload_n 2, 1) := by decide +kernel
theorem dX7_become_76 : decode cX7_become 76 = .ok (.aaload, 1) := by decide +kernel
theorem dX7_become_77 : decode cX7_become 77 = .ok (.invokevirtual 56, 3) := by decide +kernel
theorem dX7_become_80 : decode cX7_become 80 = .ok (.iinc 2 1, 3) := by decide +kernel
theorem dX7_become_83 : decode cX7_become 83 = .ok (.goto (-24), 3) := by decide +kernel
theorem dX7_become_86 : decode cX7_become 86 = .ok (.iconst 0, 1) := by decide +kernel
theorem dX7_become_87 : decode cX7_become 87 = .ok (.istore_n 2, 1) := by decide +kernel
theorem dX7_become_88 : decode cX7_become 88 = .ok (.iload_n 2, 1) := by decide +kernel
theorem dX7_become_89 : decode cX7_become 89 = .ok (.bipush 6, 2) := by decide +kernel
theorem dX7_become_91 : decode cX7_become 91 = .ok (.if_icmp .ge 24, 3) := by decide +kernel
theorem dX7_become_94 : decode cX7_become 94 = .ok (.aload_n 0, 1) := by decide +kernel
theorem dX7_become_95 : decode cX7_become 95 = .ok (.getfield 31, 3) := by decide +kernel
theorem dX7_become_98 : decode cX7_become 98 = .ok (.iload_n 2, 1) := by decide +kernel
theorem dX7_become_99 : decode cX7_become 99 = .ok (.aaload, 1) := by decide +kernel
theorem dX7_become_100 : decode cX7_become 100 = .ok (.aload_n 1, 1) := by decide +kernel
theorem dX7_become_101 : decode cX7_become 101 = .ok (.getfield 31, 3) := by decide +kernel
theorem dX7_become_104 : decode cX7_become 104 = .ok (.iload_n 2, 1) := by decide +kernel
theorem dX7_become_105 : decode cX7_become 105 = .ok (.aaload, 1) := by decide +kernel
theorem dX7_become_106 : decode cX7_become 106 = .ok (.invokevirtual 60, 3) := by decide +kernel
theorem dX7_become_109 : decode cX7_become 109 = .ok (.iinc 2 1, 3) := by decide +kernel
theorem dX7_become_112 : decode cX7_become 112 = .ok (.goto (-24), 3) := by decide +kernel
theorem dX7_become_115 : decode cX7_become 115 = .ok (.iconst 0, 1) := by decide +kernel
theorem dX7_become_116 : decode cX7_become 116 = .ok (.istore_n 2, 1) := by decide +kernel
theorem dX7_become_117 : decode cX7_become 117 = .ok (.iload_n 2, 1) := by decide +kernel
theorem dX7_become_118 : decode cX7_become 118 = .ok (.bipush 24, 2) := by decide +kernel
theorem dX7_become_120 : decode cX7_become 120 = .ok (.if_icmp .ge 24, 3) := by decide +kernel
theorem dX7_become_123 : decode cX7_become 123 = .ok (.aload_n 0, 1) := by decide +kernel
theorem dX7_become_124 : decode cX7_become 124 = .ok (.getfield 37, 3) := by decide +kernel
theorem dX7_become_127 : decode cX7_become 127 = .ok (.iload_n 2, 1) := by decide +kernel
theorem dX7_become_128 : decode cX7_become 128 = .ok (.aaload, 1) := by decide +kernel
theorem dX7_become_129 : decode cX7_become 129 = .ok (.aload_n 1, 1) := by decide +kernel
theorem dX7_become_130 : decode cX7_become 130 = .ok (.getfield 37, 3) := by decide +kernel
theorem dX7_become_133 : decode cX7_become 133 = .ok (.iload_n 2, 1) := by decide +kernel
theorem dX7_become_134 : decode cX7_become 134 = .ok (.aaload, 1) := by decide +kernel
theorem dX7_become_135 : decode cX7_become 135 = .ok (.invokevirtual 63, 3) := by decide +kernel
theorem dX7_become_138 : decode cX7_become 138 = .ok (.iinc 2 1, 3) := by decide +kernel
theorem dX7_become_141 : decode cX7_become 141 = .ok (.goto (-24), 3) := by decide +kernel
theorem dX7_become_144 : decode cX7_become 144 = .ok (.return_, 1) := by decide +kernel
theorem dX7_hasPlace_0 : decode cX7_hasPlace 0 = .ok (.iload_n 1, 1) := by decide +kernel
theorem dX7_hasPlace_1 : decode cX7_hasPlace 1 = .ok (.ifCond .lt 15, 3) := by decide +kernel
theorem dX7_hasPlace_4 : decode cX7_hasPlace 4 = .ok (.iload_n 1, 1) := by decide +kernel
theorem dX7_hasPlace_5 : decode cX7_hasPlace 5 = .ok (.aload_n 0, 1) := by decide +kernel
theorem dX7_hasPlace_6 : decode cX7_hasPlace 6 = .ok (.getfield 9, 3) := by decide +kernel
theorem dX7_hasPlace_9 : decode cX7_hasPlace 9 = .ok (.if_icmp .ge 7, 3) := by decide +kernel
theorem dX7_hasPlace_12 : decode cX7_hasPlace 12 = .ok (.iconst 1, 1) := by decide +kernel
theorem dX7_hasPlace_13 : decode cX7_hasPlace 13 = .ok (.goto 4, 3) := by decide +kernel
theorem dX7_hasPlace_16 : decode cX7_hasPlace 16 = .ok (.iconst 0, 1) := by decide +kernel
theorem dX7_hasPlace_17 : decode cX7_hasPlace 17 = .ok (.ireturn, 1) := by decide +kernel
theorem dX7_hasPerson_0 : decode cX7_hasPerson 0 = .ok (.iload_n 1, 1) := by decide +kernel
theorem dX7_hasPerson_1 : decode cX7_hasPerson 1 = .ok (.ifCond .lt 15, 3) := by decide +kernel
theorem dX7_hasPerson_4 : decode cX7_hasPerson 4 = .ok (.iload_n 1, 1) := by decide +kernel
theorem dX7_hasPerson_5 : decode cX7_hasPerson 5 = .ok (.aload_n 0, 1) := by decide +kernel
theorem dX7_hasPerson_6 : decode cX7_hasPerson 6 = .ok (.getfield 44, 3) := by decide +kernel
theorem dX7_hasPerson_9 : decode cX7_hasPerson 9 = .ok (.if_icmp .ge 7, 3) := by decide +kernel
theorem dX7_hasPerson_12 : decode cX7_hasPerson 12 = .ok (.iconst 1, 1) := by decide +kernel
theorem dX7_hasPerson_13 : decode cX7_hasPerson 13 = .ok (.goto 4, 3) := by decide +kernel
theorem dX7_hasPerson_16 : decode cX7_hasPerson 16 = .ok (.iconst 0, 1) := by decide +kernel
theorem dX7_hasPerson_17 : decode cX7_hasPerson 17 = .ok (.ireturn, 1) := by decide +kernel
theorem dX7_hasWork_0 : decode cX7_hasWork 0 = .ok (.iload_n 1, 1) := by decide +kernel
theorem dX7_hasWork_1 : decode cX7_hasWork 1 = .ok (.ifCond .lt 15, 3) := by decide +kernel
theorem dX7_hasWork_4 : decode cX7_hasWork 4 = .ok (.iload_n 1, 1) := by decide +kernel
theorem dX7_hasWork_5 : decode cX7_hasWork 5 = .ok (.aload_n 0, 1) := by decide +kernel
theorem dX7_hasWork_6 : decode cX7_hasWork 6 = .ok (.getfield 47, 3) := by decide +kernel
theorem dX7_hasWork_9 : decode cX7_hasWork 9 = .ok (.if_icmp .ge 7, 3) := by decide +kernel
theorem dX7_hasWork_12 : decode cX7_hasWork 12 = .ok (.iconst 1, 1) := by decide +kernel
theorem dX7_hasWork_13 : decode cX7_hasWork 13 = .ok (.goto 4, 3) := by decide +kernel
theorem dX7_hasWork_16 : decode cX7_hasWork 16 = .ok (.iconst 0, 1) := by decide +kernel
theorem dX7_hasWork_17 : decode cX7_hasWork 17 = .ok (.ireturn, 1) := by decide +kernel
theorem dX7_hasPart_0 : decode cX7_hasPart 0 = .ok (.iload_n 1, 1) := by decide +kernel
theorem dX7_hasPart_1 : decode cX7_hasPart 1 = .ok (.ifCond .lt 25, 3) := by decide +kernel
theorem dX7_hasPart_4 : decode cX7_hasPart 4 = .ok (.iload_n 1, 1) := by decide +kernel
theorem dX7_hasPart_5 : decode cX7_hasPart 5 = .ok (.bipush 24, 2) := by decide +kernel
theorem dX7_hasPart_7 : decode cX7_hasPart 7 = .ok (.if_icmp .ge 19, 3) := by decide +kernel
theorem dX7_hasPart_10 : decode cX7_hasPart 10 = .ok (.aload_n 0, 1) := by decide +kernel
theorem dX7_hasPart_11 : decode cX7_hasPart 11 = .ok (.getfield 37, 3) := by decide +kernel
theorem dX7_hasPart_14 : decode cX7_hasPart 14 = .ok (.iload_n 1, 1) := by decide +kernel
theorem dX7_hasPart_15 : decode cX7_hasPart 15 = .ok (.aaload, 1) := by decide +kernel
theorem dX7_hasPart_16 : decode cX7_hasPart 16 = .ok (.getfield 66, 3) := by decide +kernel
theorem dX7_hasPart_19 : decode cX7_hasPart 19 = .ok (.ifCond .le 7, 3) := by decide +kernel
theorem dX7_hasPart_22 : decode cX7_hasPart 22 = .ok (.iconst 1, 1) := by decide +kernel
theorem dX7_hasPart_23 : decode cX7_hasPart 23 = .ok (.goto 4, 3) := by decide +kernel
theorem dX7_hasPart_26 : decode cX7_hasPart 26 = .ok (.iconst 0, 1) := by decide +kernel
theorem dX7_hasPart_27 : decode cX7_hasPart 27 = .ok (.ireturn, 1) := by decide +kernel
theorem dX7_isPartOf_0 : decode cX7_isPartOf 0 = .ok (.aload_n 0, 1) := by decide +kernel
theorem dX7_isPartOf_1 : decode cX7_isPartOf 1 = .ok (.iload_n 1, 1) := by decide +kernel
theorem dX7_isPartOf_2 : decode cX7_isPartOf 2 = .ok (.invokevirtual 69, 3) := by decide +kernel
theorem dX7_isPartOf_5 : decode cX7_isPartOf 5 = .ok (.ifCond .eq 20, 3) := by decide +kernel
theorem dX7_isPartOf_8 : decode cX7_isPartOf 8 = .ok (.aload_n 0, 1) := by decide +kernel
theorem dX7_isPartOf_9 : decode cX7_isPartOf 9 = .ok (.getfield 37, 3) := by decide +kernel
theorem dX7_isPartOf_12 : decode cX7_isPartOf 12 = .ok (.iload_n 1, 1) := by decide +kernel
theorem dX7_isPartOf_13 : decode cX7_isPartOf 13 = .ok (.aaload, 1) := by decide +kernel
theorem dX7_isPartOf_14 : decode cX7_isPartOf 14 = .ok (.getfield 73, 3) := by decide +kernel
theorem dX7_isPartOf_17 : decode cX7_isPartOf 17 = .ok (.iload_n 2, 1) := by decide +kernel
theorem dX7_isPartOf_18 : decode cX7_isPartOf 18 = .ok (.if_icmp .ne 7, 3) := by decide +kernel
theorem dX7_isPartOf_21 : decode cX7_isPartOf 21 = .ok (.iconst 1, 1) := by decide +kernel
theorem dX7_isPartOf_22 : decode cX7_isPartOf 22 = .ok (.goto 4, 3) := by decide +kernel
theorem dX7_isPartOf_25 : decode cX7_isPartOf 25 = .ok (.iconst 0, 1) := by decide +kernel
theorem dX7_isPartOf_26 : decode cX7_isPartOf 26 = .ok (.ireturn, 1) := by decide +kernel
theorem dX7_freePart_0 : decode cX7_freePart 0 = .ok (.iconst 0, 1) := by decide +kernel
theorem dX7_freePart_1 : decode cX7_freePart 1 = .ok (.istore_n 1, 1) := by decide +kernel
theorem dX7_freePart_2 : decode cX7_freePart 2 = .ok (.iload_n 1, 1) := by decide +kernel
theorem dX7_freePart_3 : decode cX7_freePart 3 = .ok (.bipush 24, 2) := by decide +kernel
theorem dX7_freePart_5 : decode cX7_freePart 5 = .ok (.if_icmp .ge 19, 3) := by decide +kernel
theorem dX7_freePart_8 : decode cX7_freePart 8 = .ok (.aload_n 0, 1) := by decide +kernel
theorem dX7_freePart_9 : decode cX7_freePart 9 = .ok (.iload_n 1, 1) := by decide +kernel
theorem dX7_freePart_10 : decode cX7_freePart 10 = .ok (.invokevirtual 69, 3) := by decide +kernel
theorem dX7_freePart_13 : decode cX7_freePart 13 = .ok (.ifCond .ne 5, 3) := by decide +kernel
theorem dX7_freePart_16 : decode cX7_freePart 16 = .ok (.iload_n 1, 1) := by decide +kernel
theorem dX7_freePart_17 : decode cX7_freePart 17 = .ok (.ireturn, 1) := by decide +kernel
theorem dX7_freePart_18 : decode cX7_freePart 18 = .ok (.iinc 1 1, 3) := by decide +kernel
theorem dX7_freePart_21 : decode cX7_freePart 21 = .ok (.goto (-19), 3) := by decide +kernel
theorem dX7_freePart_24 : decode cX7_freePart 24 = .ok (.iconst (-1), 1) := by decide +kernel
theorem dX7_freePart_25 : decode cX7_freePart 25 = .ok (.ireturn, 1) := by decide +kernel
theorem dX7_partCount_0 : decode cX7_partCount 0 = .ok (.iconst 0, 1) := by decide +kernel
theorem dX7_partCount_1 : decode cX7_partCount 1 = .ok (.istore_n 1, 1) := by decide +kernel
theorem dX7_partCount_2 : decode cX7_partCount 2 = .ok (.iconst 0, 1) := by decide +kernel
theorem dX7_partCount_3 : decode cX7_partCount 3 = .ok (.istore_n 2, 1) := by decide +kernel
theorem dX7_partCount_4 : decode cX7_partCount 4 = .ok (.iload_n 2, 1) := by decide +kernel
theorem dX7_partCount_5 : decode cX7_partCount 5 = .ok (.bipush 24, 2) := by decide +kernel
theorem dX7_partCount_7 : decode cX7_partCount 7 = .ok (.if_icmp .ge 20, 3) := by decide +kernel
theorem dX7_partCount_10 : decode cX7_partCount 10 = .ok (.aload_n 0, 1) := by decide +kernel
theorem dX7_partCount_11 : decode cX7_partCount 11 = .ok (.iload_n 2, 1) := by decide +kernel
theorem dX7_partCount_12 : decode cX7_partCount 12 = .ok (.invokevirtual 69, 3) := by decide +kernel
theorem dX7_partCount_15 : decode cX7_partCount 15 = .ok (.ifCond .eq 6, 3) := by decide +kernel
theorem dX7_partCount_18 : decode cX7_partCount 18 = .ok (.iinc 1 1, 3) := by decide +kernel
theorem dX7_partCount_21 : decode cX7_partCount 21 = .ok (.iinc 2 1, 3) := by decide +kernel
theorem dX7_partCount_24 : decode cX7_partCount 24 = .ok (.goto (-20), 3) := by decide +kernel
theorem dX7_partCount_27 : decode cX7_partCount 27 = .ok (.iload_n 1, 1) := by decide +kernel
theorem dX7_partCount_28 : decode cX7_partCount 28 = .ok (.ireturn, 1) := by decide +kernel
theorem dX7_partsOf_0 : decode cX7_partsOf 0 = .ok (.iconst 0, 1) := by decide +kernel
theorem dX7_partsOf_1 : decode cX7_partsOf 1 = .ok (.istore_n 2, 1) := by decide +kernel
theorem dX7_partsOf_2 : decode cX7_partsOf 2 = .ok (.iconst 0, 1) := by decide +kernel
theorem dX7_partsOf_3 : decode cX7_partsOf 3 = .ok (.istore_n 3, 1) := by decide +kernel
theorem dX7_partsOf_4 : decode cX7_partsOf 4 = .ok (.iload_n 3, 1) := by decide +kernel
theorem dX7_partsOf_5 : decode cX7_partsOf 5 = .ok (.bipush 24, 2) := by decide +kernel
theorem dX7_partsOf_7 : decode cX7_partsOf 7 = .ok (.if_icmp .ge 21, 3) := by decide +kernel
theorem dX7_partsOf_10 : decode cX7_partsOf 10 = .ok (.aload_n 0, 1) := by decide +kernel
theorem dX7_partsOf_11 : decode cX7_partsOf 11 = .ok (.iload_n 3, 1) := by decide +kernel
theorem dX7_partsOf_12 : decode cX7_partsOf 12 = .ok (.iload_n 1, 1) := by decide +kernel
theorem dX7_partsOf_13 : decode cX7_partsOf 13 = .ok (.invokevirtual 76, 3) := by decide +kernel
theorem dX7_partsOf_16 : decode cX7_partsOf 16 = .ok (.ifCond .eq 6, 3) := by decide +kernel
theorem dX7_partsOf_19 : decode cX7_partsOf 19 = .ok (.iinc 2 1, 3) := by decide +kernel
theorem dX7_partsOf_22 : decode cX7_partsOf 22 = .ok (.iinc 3 1, 3) := by decide +kernel
theorem dX7_partsOf_25 : decode cX7_partsOf 25 = .ok (.goto (-21), 3) := by decide +kernel
theorem dX7_partsOf_28 : decode cX7_partsOf 28 = .ok (.iload_n 2, 1) := by decide +kernel
theorem dX7_partsOf_29 : decode cX7_partsOf 29 = .ok (.ireturn, 1) := by decide +kernel
theorem dX7_twelfthsOf_0 : decode cX7_twelfthsOf 0 = .ok (.iconst 0, 1) := by decide +kernel
theorem dX7_twelfthsOf_1 : decode cX7_twelfthsOf 1 = .ok (.istore_n 2, 1) := by decide +kernel
theorem dX7_twelfthsOf_2 : decode cX7_twelfthsOf 2 = .ok (.iconst 0, 1) := by decide +kernel
theorem dX7_twelfthsOf_3 : decode cX7_twelfthsOf 3 = .ok (.istore_n 3, 1) := by decide +kernel
theorem dX7_twelfthsOf_4 : decode cX7_twelfthsOf 4 = .ok (.iload_n 3, 1) := by decide +kernel
theorem dX7_twelfthsOf_5 : decode cX7_twelfthsOf 5 = .ok (.bipush 24, 2) := by decide +kernel
theorem dX7_twelfthsOf_7 : decode cX7_twelfthsOf 7 = .ok (.if_icmp .ge 30, 3) := by decide +kernel
theorem dX7_twelfthsOf_10 : decode cX7_twelfthsOf 10 = .ok (.aload_n 0, 1) := by decide +kernel
theorem dX7_twelfthsOf_11 : decode cX7_twelfthsOf 11 = .ok (.iload_n 3, 1) := by decide +kernel
theorem dX7_twelfthsOf_12 : decode cX7_twelfthsOf 12 = .ok (.iload_n 1, 1) := by decide +kernel
theorem dX7_twelfthsOf_13 : decode cX7_twelfthsOf 13 = .ok (.invokevirtual 76, 3) := by decide +kernel
theorem dX7_twelfthsOf_16 : decode cX7_twelfthsOf 16 = .ok (.ifCond .eq 15, 3) := by decide +kernel
theorem dX7_twelfthsOf_19 : decode cX7_twelfthsOf 19 = .ok (.iload_n 2, 1) := by decide +kernel
theorem dX7_twelfthsOf_20 : decode cX7_twelfthsOf 20 = .ok (.aload_n 0, 1) := by decide +kernel
theorem dX7_twelfthsOf_21 : decode cX7_twelfthsOf 21 = .ok (.getfield 37, 3) := by decide +kernel
theorem dX7_twelfthsOf_24 : decode cX7_twelfthsOf 24 = .ok (.iload_n 3, 1) := by decide +kernel
theorem dX7_twelfthsOf_25 : decode cX7_twelfthsOf 25 = .ok (.aaload, 1) := by decide +kernel
theorem dX7_twelfthsOf_26 : decode cX7_twelfthsOf 26 = .ok (.getfield 66, 3) := by decide +kernel
theorem dX7_twelfthsOf_29 : decode cX7_twelfthsOf 29 = .ok (.iadd, 1) := by decide +kernel
theorem dX7_twelfthsOf_30 : decode cX7_twelfthsOf 30 = .ok (.istore_n 2, 1) := by decide +kernel
theorem dX7_twelfthsOf_31 : decode cX7_twelfthsOf 31 = .ok (.iinc 3 1, 3) := by decide +kernel
theorem dX7_twelfthsOf_34 : decode cX7_twelfthsOf 34 = .ok (.goto (-30), 3) := by decide +kernel
theorem dX7_twelfthsOf_37 : decode cX7_twelfthsOf 37 = .ok (.iload_n 2, 1) := by decide +kernel
theorem dX7_twelfthsOf_38 : decode cX7_twelfthsOf 38 = .ok (.ireturn, 1) := by decide +kernel
theorem dX7_partsAway_0 : decode cX7_partsAway 0 = .ok (.iconst 0, 1) := by decide +kernel
theorem dX7_partsAway_1 : decode cX7_partsAway 1 = .ok (.istore_n 2, 1) := by decide +kernel
theorem dX7_partsAway_2 : decode cX7_partsAway 2 = .ok (.iconst 0, 1) := by decide +kernel
theorem dX7_partsAway_3 : decode cX7_partsAway 3 = .ok (.istore_n 3, 1) := by decide +kernel
theorem dX7_partsAway_4 : decode cX7_partsAway 4 = .ok (.iload_n 3, 1) := by decide +kernel
theorem dX7_partsAway_5 : decode cX7_partsAway 5 = .ok (.bipush 24, 2) := by decide +kernel
theorem dX7_partsAway_7 : decode cX7_partsAway 7 = .ok (.if_icmp .ge 33, 3) := by decide +kernel
theorem dX7_partsAway_10 : decode cX7_partsAway 10 = .ok (.aload_n 0, 1) := by decide +kernel
theorem dX7_partsAway_11 : decode cX7_partsAway 11 = .ok (.iload_n 3, 1) := by decide +kernel
theorem dX7_partsAway_12 : decode cX7_partsAway 12 = .ok (.iload_n 1, 1) := by decide +kernel
theorem dX7_partsAway_13 : decode cX7_partsAway 13 = .ok (.invokevirtual 76, 3) := by decide +kernel
theorem dX7_partsAway_16 : decode cX7_partsAway 16 = .ok (.ifCond .eq 18, 3) := by decide +kernel
theorem dX7_partsAway_19 : decode cX7_partsAway 19 = .ok (.aload_n 0, 1) := by decide +kernel
theorem dX7_partsAway_20 : decode cX7_partsAway 20 = .ok (.getfield 37, 3) := by decide +kernel
theorem dX7_partsAway_23 : decode cX7_partsAway 23 = .ok (.iload_n 3, 1) := by decide +kernel
theorem dX7_partsAway_24 : decode cX7_partsAway 24 = .ok (.aaload, 1) := by decide +kernel
theorem dX7_partsAway_25 : decode cX7_partsAway 25 = .ok (.getfield 80, 3) := by decide +kernel
theorem dX7_partsAway_28 : decode cX7_partsAway 28 = .ok (.ifCond .eq 6, 3) := by decide +kernel
theorem dX7_partsAway_31 : decode cX7_partsAway 31 = .ok (.iinc 2 1, 3) := by decide +kernel
theorem dX7_partsAway_34 : decode cX7_partsAway 34 = .ok (.iinc 3 1, 3) := by decide +kernel
theorem dX7_partsAway_37 : decode cX7_partsAway 37 = .ok (.goto (-33), 3) := by decide +kernel
theorem dX7_partsAway_40 : decode cX7_partsAway 40 = .ok (.iload_n 2, 1) := by decide +kernel
theorem dX7_partsAway_41 : decode cX7_partsAway 41 = .ok (.ireturn, 1) := by decide +kernel
theorem dX7_twelfthsAway_0 : decode cX7_twelfthsAway 0 = .ok (.iconst 0, 1) := by decide +kernel
theorem dX7_twelfthsAway_1 : decode cX7_twelfthsAway 1 = .ok (.istore_n 2, 1) := by decide +kernel
theorem dX7_twelfthsAway_2 : decode cX7_twelfthsAway 2 = .ok (.iconst 0, 1) := by decide +kernel
theorem dX7_twelfthsAway_3 : decode cX7_twelfthsAway 3 = .ok (.istore_n 3, 1) := by decide +kernel
theorem dX7_twelfthsAway_4 : decode cX7_twelfthsAway 4 = .ok (.iload_n 3, 1) := by decide +kernel
theorem dX7_twelfthsAway_5 : decode cX7_twelfthsAway 5 = .ok (.bipush 24, 2) := by decide +kernel
theorem dX7_twelfthsAway_7 : decode cX7_twelfthsAway 7 = .ok (.if_icmp .ge 42, 3) := by decide +kernel
theorem dX7_twelfthsAway_10 : decode cX7_twelfthsAway 10 = .ok (.aload_n 0, 1) := by decide +kernel
theorem dX7_twelfthsAway_11 : decode cX7_twelfthsAway 11 = .ok (.iload_n 3, 1) := by decide +kernel
theorem dX7_twelfthsAway_12 : decode cX7_twelfthsAway 12 = .ok (.iload_n 1, 1) := by decide +kernel
theorem dX7_twelfthsAway_13 : decode cX7_twelfthsAway 13 = .ok (.invokevirtual 76, 3) := by decide +kernel
theorem dX7_twelfthsAway_16 : decode cX7_twelfthsAway 16 = .ok (.ifCond .eq 27, 3) := by decide +kernel
theorem dX7_twelfthsAway_19 : decode cX7_twelfthsAway 19 = .ok (.aload_n 0, 1) := by decide +kernel
theorem dX7_twelfthsAway_20 : decode cX7_twelfthsAway 20 = .ok (.getfield 37, 3) := by decide +kernel
theorem dX7_twelfthsAway_23 : decode cX7_twelfthsAway 23 = .ok (.iload_n 3, 1) := by decide +kernel
theorem dX7_twelfthsAway_24 : decode cX7_twelfthsAway 24 = .ok (.aaload, 1) := by decide +kernel
theorem dX7_twelfthsAway_25 : decode cX7_twelfthsAway 25 = .ok (.getfield 80, 3) := by decide +kernel
theorem dX7_twelfthsAway_28 : decode cX7_twelfthsAway 28 = .ok (.ifCond .eq 15, 3) := by decide +kernel
theorem dX7_twelfthsAway_31 : decode cX7_twelfthsAway 31 = .ok (.iload_n 2, 1) := by decide +kernel
theorem dX7_twelfthsAway_32 : decode cX7_twelfthsAway 32 = .ok (.aload_n 0, 1) := by decide +kernel
theorem dX7_twelfthsAway_33 : decode cX7_twelfthsAway 33 = .ok (.getfield 37, 3) := by decide +kernel
theorem dX7_twelfthsAway_36 : decode cX7_twelfthsAway 36 = .ok (.iload_n 3, 1) := by decide +kernel
theorem dX7_twelfthsAway_37 : decode cX7_twelfthsAway 37 = .ok (.aaload, 1) := by decide +kernel
theorem dX7_twelfthsAway_38 : decode cX7_twelfthsAway 38 = .ok (.getfield 66, 3) := by decide +kernel
theorem dX7_twelfthsAway_41 : decode cX7_twelfthsAway 41 = .ok (.iadd, 1) := by decide +kernel
theorem dX7_twelfthsAway_42 : decode cX7_twelfthsAway 42 = .ok (.istore_n 2, 1) := by decide +kernel
theorem dX7_twelfthsAway_43 : decode cX7_twelfthsAway 43 = .ok (.iinc 3 1, 3) := by decide +kernel
theorem dX7_twelfthsAway_46 : decode cX7_twelfthsAway 46 = .ok (.goto (-42), 3) := by decide +kernel
theorem dX7_twelfthsAway_49 : decode cX7_twelfthsAway 49 = .ok (.iload_n 2, 1) := by decide +kernel
theorem dX7_twelfthsAway_50 : decode cX7_twelfthsAway 50 = .ok (.ireturn, 1) := by decide +kernel
theorem dX7_takesStatement_0 : decode cX7_takesStatement 0 = .ok (.iload_n 1, 1) := by decide +kernel
theorem dX7_takesStatement_1 : decode cX7_takesStatement 1 = .ok (.lookupswitch 77 #[(107, 71), (110, 43), (112, 65), (119, 51)], 43) := by decide +kernel
theorem dX7_takesStatement_44 : decode cX7_takesStatement 44 = .ok (.aload_n 0, 1) := by decide +kernel
theorem dX7_takesStatement_45 : decode cX7_takesStatement 45 = .ok (.aload_n 2, 1) := by decide +kernel
theorem dX7_takesStatement_46 : decode cX7_takesStatement 46 = .ok (.iconst 0, 1) := by decide +kernel
theorem dX7_takesStatement_47 : decode cX7_takesStatement 47 = .ok (.iaload, 1) := by decide +kernel
theorem dX7_takesStatement_48 : decode cX7_takesStatement 48 = .ok (.invokevirtual 83, 3) := by decide +kernel
theorem dX7_takesStatement_51 : decode cX7_takesStatement 51 = .ok (.ireturn, 1) := by decide +kernel
theorem dX7_takesStatement_52 : decode cX7_takesStatement 52 = .ok (.aload_n 0, 1) := by decide +kernel
theorem dX7_takesStatement_53 : decode cX7_takesStatement 53 = .ok (.aload_n 2, 1) := by decide +kernel
theorem dX7_takesStatement_54 : decode cX7_takesStatement 54 = .ok (.iconst 0, 1) := by decide +kernel
theorem dX7_takesStatement_55 : decode cX7_takesStatement 55 = .ok (.iaload, 1) := by decide +kernel
theorem dX7_takesStatement_56 : decode cX7_takesStatement 56 = .ok (.aload_n 2, 1) := by decide +kernel
theorem dX7_takesStatement_57 : decode cX7_takesStatement 57 = .ok (.iconst 1, 1) := by decide +kernel
theorem dX7_takesStatement_58 : decode cX7_takesStatement 58 = .ok (.iaload, 1) := by decide +kernel
theorem dX7_takesStatement_59 : decode cX7_takesStatement 59 = .ok (.aload_n 2, 1) := by decide +kernel
theorem dX7_takesStatement_60 : decode cX7_takesStatement 60 = .ok (.iconst 2, 1) := by decide +kernel
theorem dX7_takesStatement_61 : decode cX7_takesStatement 61 = .ok (.iaload, 1) := by decide +kernel
theorem dX7_takesStatement_62 : decode cX7_takesStatement 62 = .ok (.invokevirtual 86, 3) := by decide +kernel
theorem dX7_takesStatement_65 : decode cX7_takesStatement 65 = .ok (.ireturn, 1) := by decide +kernel
theorem dX7_takesStatement_66 : decode cX7_takesStatement 66 = .ok (.aload_n 0, 1) := by decide +kernel
theorem dX7_takesStatement_67 : decode cX7_takesStatement 67 = .ok (.aload_n 2, 1) := by decide +kernel
theorem dX7_takesStatement_68 : decode cX7_takesStatement 68 = .ok (.invokevirtual 90, 3) := by decide +kernel
theorem dX7_takesStatement_71 : decode cX7_takesStatement 71 = .ok (.ireturn, 1) := by decide +kernel
theorem dX7_takesStatement_72 : decode cX7_takesStatement 72 = .ok (.aload_n 0, 1) := by decide +kernel
theorem dX7_takesStatement_73 : decode cX7_takesStatement 73 = .ok (.aload_n 2, 1) := by decide +kernel
theorem dX7_takesStatement_74 : decode cX7_takesStatement 74 = .ok (.invokevirtual 94, 3) := by decide +kernel
theorem dX7_takesStatement_77 : decode cX7_takesStatement 77 = .ok (.ireturn, 1) := by decide +kernel
theorem dX7_takesStatement_78 : decode cX7_takesStatement 78 = .ok (.iconst 0, 1) := by decide +kernel
theorem dX7_takesStatement_79 : decode cX7_takesStatement 79 = .ok (.ireturn, 1) := by decide +kernel
theorem dX7_takesPlaces_0 : decode cX7_takesPlaces 0 = .ok (.iload_n 1, 1) := by decide +kernel
theorem dX7_takesPlaces_1 : decode cX7_takesPlaces 1 = .ok (.iconst 1, 1) := by decide +kernel
theorem dX7_takesPlaces_2 : decode cX7_takesPlaces 2 = .ok (.if_icmp .lt 17, 3) := by decide +kernel
theorem dX7_takesPlaces_5 : decode cX7_takesPlaces 5 = .ok (.iload_n 1, 1) := by decide +kernel
theorem dX7_takesPlaces_6 : decode cX7_takesPlaces 6 = .ok (.bipush 6, 2) := by decide +kernel
theorem dX7_takesPlaces_8 : decode cX7_takesPlaces 8 = .ok (.if_icmp .gt 11, 3) := by decide +kernel
theorem dX7_takesPlaces_11 : decode cX7_takesPlaces 11 = .ok (.iload_n 1, 1) := by decide +kernel
theorem dX7_takesPlaces_12 : decode cX7_takesPlaces 12 = .ok (.aload_n 0, 1) := by decide +kernel
theorem dX7_takesPlaces_13 : decode cX7_takesPlaces 13 = .ok (.invokevirtual 97, 3) := by decide +kernel
theorem dX7_takesPlaces_16 : decode cX7_takesPlaces 16 = .ok (.if_icmp .ge 5, 3) := by decide +kernel
theorem dX7_takesPlaces_19 : decode cX7_takesPlaces 19 = .ok (.iconst 0, 1) := by decide +kernel
theorem dX7_takesPlaces_20 : decode cX7_takesPlaces 20 = .ok (.ireturn, 1) := by decide +kernel
theorem dX7_takesPlaces_21 : decode cX7_takesPlaces 21 = .ok (.aload_n 0, 1) := by decide +kernel
theorem dX7_takesPlaces_22 : decode cX7_takesPlaces 22 = .ok (.iload_n 1, 1) := by decide +kernel
theorem dX7_takesPlaces_23 : decode cX7_takesPlaces 23 = .ok (.putfield 9, 3) := by decide +kernel
theorem dX7_takesPlaces_26 : decode cX7_takesPlaces 26 = .ok (.iconst 1, 1) := by decide +kernel
theorem dX7_takesPlaces_27 : decode cX7_takesPlaces 27 = .ok (.ireturn, 1) := by decide +kernel
theorem dX7_placesInUse_0 : decode cX7_placesInUse 0 = .ok (.iconst (-1), 1) := by decide +kernel
theorem dX7_placesInUse_1 : decode cX7_placesInUse 1 = .ok (.istore_n 1, 1) := by decide +kernel
theorem dX7_placesInUse_2 : decode cX7_placesInUse 2 = .ok (.iconst 0, 1) := by decide +kernel
theorem dX7_placesInUse_3 : decode cX7_placesInUse 3 = .ok (.istore_n 2, 1) := by decide +kernel
theorem dX7_placesInUse_4 : decode cX7_placesInUse 4 = .ok (.iload_n 2, 1) := by decide +kernel
theorem dX7_placesInUse_5 : decode cX7_placesInUse 5 = .ok (.bipush 6, 2) := by decide +kernel
theorem dX7_placesInUse_7 : decode cX7_placesInUse 7 = .ok (.if_icmp .ge 40, 3) := by decide +kernel
theorem dX7_placesInUse_10 : decode cX7_placesInUse 10 = .ok (.iconst 0, 1) := by decide +kernel
theorem dX7_placesInUse_11 : decode cX7_placesInUse 11 = .ok (.istore_n 3, 1) := by decide +kernel
theorem dX7_placesInUse_12 : decode cX7_placesInUse 12 = .ok (.iload_n 3, 1) := by decide +kernel
theorem dX7_placesInUse_13 : decode cX7_placesInUse 13 = .ok (.bipush 6, 2) := by decide +kernel
theorem dX7_placesInUse_15 : decode cX7_placesInUse 15 = .ok (.if_icmp .ge 26, 3) := by decide +kernel
theorem dX7_placesInUse_18 : decode cX7_placesInUse 18 = .ok (.aload_n 0, 1) := by decide +kernel
theorem dX7_placesInUse_19 : decode cX7_placesInUse 19 = .ok (.getfield 17, 3) := by decide +kernel
theorem dX7_placesInUse_22 : decode cX7_placesInUse 22 = .ok (.iload_n 2, 1) := by decide +kernel
theorem dX7_placesInUse_23 : decode cX7_placesInUse 23 = .ok (.aaload, 1) := by decide +kernel
theorem dX7_placesInUse_24 : decode cX7_placesInUse 24 = .ok (.iload_n 3, 1) := by decide +kernel
theorem dX7_placesInUse_25 : decode cX7_placesInUse 25 = .ok (.iaload, 1) := by decide +kernel
theorem dX7_placesInUse_26 : decode cX7_placesInUse 26 = .ok (.ifCond .le 9, 3) := by decide +kernel
theorem dX7_placesInUse_29 : decode cX7_placesInUse 29 = .ok (.iload_n 1, 1) := by decide +kernel
theorem dX7_placesInUse_30 : decode cX7_placesInUse 30 = .ok (.iload_n 2, 1) := by decide +kernel
theorem dX7_placesInUse_31 : decode cX7_placesInUse 31 = .ok (.invokestatic 101, 3) := by decide +kernel
theorem dX7_placesInUse_34 : decode cX7_placesInUse 34 = .ok (.istore_n 1, 1) := by decide +kernel
theorem dX7_placesInUse_35 : decode cX7_placesInUse 35 = .ok (.iinc 3 1, 3) := by decide +kernel
theorem dX7_placesInUse_38 : decode cX7_placesInUse 38 = .ok (.goto (-26), 3) := by decide +kernel
theorem dX7_placesInUse_41 : decode cX7_placesInUse 41 = .ok (.iinc 2 1, 3) := by decide +kernel
theorem dX7_placesInUse_44 : decode cX7_placesInUse 44 = .ok (.goto (-40), 3) := by decide +kernel
theorem dX7_placesInUse_47 : decode cX7_placesInUse 47 = .ok (.iconst 0, 1) := by decide +kernel
theorem dX7_placesInUse_48 : decode cX7_placesInUse 48 = .ok (.istore_n 2, 1) := by decide +kernel
theorem dX7_placesInUse_49 : decode cX7_placesInUse 49 = .ok (.iload_n 2, 1) := by decide +kernel
theorem dX7_placesInUse_50 : decode cX7_placesInUse 50 = .ok (.aload_n 0, 1) := by decide +kernel
theorem dX7_placesInUse_51 : decode cX7_placesInUse 51 = .ok (.getfield 47, 3) := by decide +kernel
theorem dX7_placesInUse_54 : decode cX7_placesInUse 54 = .ok (.if_icmp .ge 23, 3) := by decide +kernel
theorem dX7_placesInUse_57 : decode cX7_placesInUse 57 = .ok (.iload_n 1, 1) := by decide +kernel
theorem dX7_placesInUse_58 : decode cX7_placesInUse 58 = .ok (.aload_n 0, 1) := by decide +kernel
theorem dX7_placesInUse_59 : decode cX7_placesInUse 59 = .ok (.getfield 31, 3) := by decide +kernel
theorem dX7_placesInUse_62 : decode cX7_placesInUse 62 = .ok (.iload_n 2, 1) := by decide +kernel
theorem dX7_placesInUse_63 : decode cX7_placesInUse 63 = .ok (.aaload, 1) := by decide +kernel
theorem dX7_placesInUse_64 : decode cX7_placesInUse 64 = .ok (.getfield 107, 3) := by decide +kernel
theorem dX7_placesInUse_67 : decode cX7_placesInUse 67 = .ok (.invokestatic 101, 3) := by decide +kernel
theorem dX7_placesInUse_70 : decode cX7_placesInUse 70 = .ok (.istore_n 1, 1) := by decide +kernel
theorem dX7_placesInUse_71 : decode cX7_placesInUse 71 = .ok (.iinc 2 1, 3) := by decide +kernel
theorem dX7_placesInUse_74 : decode cX7_placesInUse 74 = .ok (.goto (-25), 3) := by decide +kernel
theorem dX7_placesInUse_77 : decode cX7_placesInUse 77 = .ok (.iconst 0, 1) := by decide +kernel
theorem dX7_placesInUse_78 : decode cX7_placesInUse 78 = .ok (.istore_n 2, 1) := by decide +kernel
theorem dX7_placesInUse_79 : decode cX7_placesInUse 79 = .ok (.iload_n 2, 1) := by decide +kernel
theorem dX7_placesInUse_80 : decode cX7_placesInUse 80 = .ok (.bipush 24, 2) := by decide +kernel
theorem dX7_placesInUse_82 : decode cX7_placesInUse 82 = .ok (.if_icmp .ge 31, 3) := by decide +kernel
theorem dX7_placesInUse_85 : decode cX7_placesInUse 85 = .ok (.aload_n 0, 1) := by decide +kernel
theorem dX7_placesInUse_86 : decode cX7_placesInUse 86 = .ok (.iload_n 2, 1) := by decide +kernel
theorem dX7_placesInUse_87 : decode cX7_placesInUse 87 = .ok (.invokevirtual 69, 3) := by decide +kernel
theorem dX7_placesInUse_90 : decode cX7_placesInUse 90 = .ok (.ifCond .eq 17, 3) := by decide +kernel
theorem dX7_placesInUse_93 : decode cX7_placesInUse 93 = .ok (.iload_n 1, 1) := by decide +kernel
theorem dX7_placesInUse_94 : decode cX7_placesInUse 94 = .ok (.aload_n 0, 1) := by decide +kernel
theorem dX7_placesInUse_95 : decode cX7_placesInUse 95 = .ok (.getfield 37, 3) := by decide +kernel
theorem dX7_placesInUse_98 : decode cX7_placesInUse 98 = .ok (.iload_n 2, 1) := by decide +kernel
theorem dX7_placesInUse_99 : decode cX7_placesInUse 99 = .ok (.aaload, 1) := by decide +kernel
theorem dX7_placesInUse_100 : decode cX7_placesInUse 100 = .ok (.getfield 80, 3) := by decide +kernel
theorem dX7_placesInUse_103 : decode cX7_placesInUse 103 = .ok (.invokestatic 101, 3) := by decide +kernel
theorem dX7_placesInUse_106 : decode cX7_placesInUse 106 = .ok (.istore_n 1, 1) := by decide +kernel
theorem dX7_placesInUse_107 : decode cX7_placesInUse 107 = .ok (.iinc 2 1, 3) := by decide +kernel
theorem dX7_placesInUse_110 : decode cX7_placesInUse 110 = .ok (.goto (-31), 3) := by decide +kernel
theorem dX7_placesInUse_113 : decode cX7_placesInUse 113 = .ok (.iload_n 1, 1) := by decide +kernel
theorem dX7_placesInUse_114 : decode cX7_placesInUse 114 = .ok (.iconst 1, 1) := by decide +kernel
theorem dX7_placesInUse_115 : decode cX7_placesInUse 115 = .ok (.iadd, 1) := by decide +kernel
theorem dX7_placesInUse_116 : decode cX7_placesInUse 116 = .ok (.ireturn, 1) := by decide +kernel
theorem dX7_takesWay_0 : decode cX7_takesWay 0 = .ok (.aload_n 0, 1) := by decide +kernel
theorem dX7_takesWay_1 : decode cX7_takesWay 1 = .ok (.iload_n 1, 1) := by decide +kernel
theorem dX7_takesWay_2 : decode cX7_takesWay 2 = .ok (.invokevirtual 108, 3) := by decide +kernel
theorem dX7_takesWay_5 : decode cX7_takesWay 5 = .ok (.ifCond .eq 27, 3) := by decide +kernel
theorem dX7_takesWay_8 : decode cX7_takesWay 8 = .ok (.aload_n 0, 1) := by decide +kernel
theorem dX7_takesWay_9 : decode cX7_takesWay 9 = .ok (.iload_n 2, 1) := by decide +kernel
theorem dX7_takesWay_10 : decode cX7_takesWay 10 = .ok (.invokevirtual 108, 3) := by decide +kernel
theorem dX7_takesWay_13 : decode cX7_takesWay 13 = .ok (.ifCond .eq 19, 3) := by decide +kernel
theorem dX7_takesWay_16 : decode cX7_takesWay 16 = .ok (.iload_n 1, 1) := by decide +kernel
theorem dX7_takesWay_17 : decode cX7_takesWay 17 = .ok (.iload_n 2, 1) := by decide +kernel
theorem dX7_takesWay_18 : decode cX7_takesWay 18 = .ok (.if_icmp .eq 14, 3) := by decide +kernel
theorem dX7_takesWay_21 : decode cX7_takesWay 21 = .ok (.iload_n 3, 1) := by decide +kernel
theorem dX7_takesWay_22 : decode cX7_takesWay 22 = .ok (.iconst 1, 1) := by decide +kernel
theorem dX7_takesWay_23 : decode cX7_takesWay 23 = .ok (.if_icmp .lt 9, 3) := by decide +kernel
theorem dX7_takesWay_26 : decode cX7_takesWay 26 = .ok (.iload_n 3, 1) := by decide +kernel
theorem dX7_takesWay_27 : decode cX7_takesWay 27 = .ok (.bipush 60, 2) := by decide +kernel
theorem dX7_takesWay_29 : decode cX7_takesWay 29 = .ok (.if_icmp .le 5, 3) := by decide +kernel
theorem dX7_takesWay_32 : decode cX7_takesWay 32 = .ok (.iconst 0, 1) := by decide +kernel
theorem dX7_takesWay_33 : decode cX7_takesWay 33 = .ok (.ireturn, 1) := by decide +kernel
theorem dX7_takesWay_34 : decode cX7_takesWay 34 = .ok (.aload_n 0, 1) := by decide +kernel
theorem dX7_takesWay_35 : decode cX7_takesWay 35 = .ok (.getfield 17, 3) := by decide +kernel
theorem dX7_takesWay_38 : decode cX7_takesWay 38 = .ok (.iload_n 1, 1) := by decide +kernel
theorem dX7_takesWay_39 : decode cX7_takesWay 39 = .ok (.aaload, 1) := by decide +kernel
theorem dX7_takesWay_40 : decode cX7_takesWay 40 = .ok (.iload_n 2, 1) := by decide +kernel
theorem dX7_takesWay_41 : decode cX7_takesWay 41 = .ok (.iload_n 3, 1) := by decide +kernel
theorem dX7_takesWay_42 : decode cX7_takesWay 42 = .ok (.iastore, 1) := by decide +kernel
theorem dX7_takesWay_43 : decode cX7_takesWay 43 = .ok (.aload_n 0, 1) := by decide +kernel
theorem dX7_takesWay_44 : decode cX7_takesWay 44 = .ok (.getfield 17, 3) := by decide +kernel
theorem dX7_takesWay_47 : decode cX7_takesWay 47 = .ok (.iload_n 2, 1) := by decide +kernel
theorem dX7_takesWay_48 : decode cX7_takesWay 48 = .ok (.aaload, 1) := by decide +kernel
theorem dX7_takesWay_49 : decode cX7_takesWay 49 = .ok (.iload_n 1, 1) := by decide +kernel
theorem dX7_takesWay_50 : decode cX7_takesWay 50 = .ok (.iload_n 3, 1) := by decide +kernel
theorem dX7_takesWay_51 : decode cX7_takesWay 51 = .ok (.iastore, 1) := by decide +kernel
theorem dX7_takesWay_52 : decode cX7_takesWay 52 = .ok (.iconst 1, 1) := by decide +kernel
theorem dX7_takesWay_53 : decode cX7_takesWay 53 = .ok (.ireturn, 1) := by decide +kernel
theorem dX7_takesPerson_0 : decode cX7_takesPerson 0 = .ok (.aload_n 0, 1) := by decide +kernel
theorem dX7_takesPerson_1 : decode cX7_takesPerson 1 = .ok (.invokevirtual 111, 3) := by decide +kernel
theorem dX7_takesPerson_4 : decode cX7_takesPerson 4 = .ok (.istore_n 2, 1) := by decide +kernel
theorem dX7_takesPerson_5 : decode cX7_takesPerson 5 = .ok (.aload_n 0, 1) := by decide +kernel
theorem dX7_takesPerson_6 : decode cX7_takesPerson 6 = .ok (.getfield 44, 3) := by decide +kernel
theorem dX7_takesPerson_9 : decode cX7_takesPerson 9 = .ok (.bipush 6, 2) := by decide +kernel
theorem dX7_takesPerson_11 : decode cX7_takesPerson 11 = .ok (.if_icmp .ge 7, 3) := by decide +kernel
theorem dX7_takesPerson_14 : decode cX7_takesPerson 14 = .ok (.iload_n 2, 1) := by decide +kernel
theorem dX7_takesPerson_15 : decode cX7_takesPerson 15 = .ok (.ifCond .ge 5, 3) := by decide +kernel
theorem dX7_takesPerson_18 : decode cX7_takesPerson 18 = .ok (.iconst 0, 1) := by decide +kernel
theorem dX7_takesPerson_19 : decode cX7_takesPerson 19 = .ok (.ireturn, 1) := by decide +kernel
theorem dX7_takesPerson_20 : decode cX7_takesPerson 20 = .ok (.aload_n 1, 1) := by decide +kernel
theorem dX7_takesPerson_21 : decode cX7_takesPerson 21 = .ok (.iconst 3, 1) := by decide +kernel
theorem dX7_takesPerson_22 : decode cX7_takesPerson 22 = .ok (.iaload, 1) := by decide +kernel
theorem dX7_takesPerson_23 : decode cX7_takesPerson 23 = .ok (.istore_n 3, 1) := by decide +kernel
theorem dX7_takesPerson_24 : decode cX7_takesPerson 24 = .ok (.iload_n 3, 1) := by decide +kernel
theorem dX7_takesPerson_25 : decode cX7_takesPerson 25 = .ok (.iconst 1, 1) := by decide +kernel
theorem dX7_takesPerson_26 : decode cX7_takesPerson 26 = .ok (.if_icmp .lt 9, 3) := by decide +kernel
theorem dX7_takesPerson_29 : decode cX7_takesPerson 29 = .ok (.iload_n 3, 1) := by decide +kernel
theorem dX7_takesPerson_30 : decode cX7_takesPerson 30 = .ok (.bipush 12, 2) := by decide +kernel
theorem dX7_takesPerson_32 : decode cX7_takesPerson 32 = .ok (.if_icmp .le 5, 3) := by decide +kernel
theorem dX7_takesPerson_35 : decode cX7_takesPerson 35 = .ok (.iconst 0, 1) := by decide +kernel
theorem dX7_takesPerson_36 : decode cX7_takesPerson 36 = .ok (.ireturn, 1) := by decide +kernel
theorem dX7_takesPerson_37 : decode cX7_takesPerson 37 = .ok (.iconst 0, 1) := by decide +kernel
theorem dX7_takesPerson_38 : decode cX7_takesPerson 38 = .ok (.istore 4, 2) := by decide +kernel
theorem dX7_takesPerson_40 : decode cX7_takesPerson 40 = .ok (.iload 4, 2) := by decide +kernel
theorem dX7_takesPerson_42 : decode cX7_takesPerson 42 = .ok (.iconst 3, 1) := by decide +kernel
theorem dX7_takesPerson_43 : decode cX7_takesPerson 43 = .ok (.if_icmp .ge 39, 3) := by decide +kernel
theorem dX7_takesPerson_46 : decode cX7_takesPerson 46 = .ok (.aload_n 1, 1) := by decide +kernel
theorem dX7_takesPerson_47 : decode cX7_takesPerson 47 = .ok (.iload 4, 2) := by decide +kernel
theorem dX7_takesPerson_49 : decode cX7_takesPerson 49 = .ok (.iaload, 1) := by decide +kernel
theorem dX7_takesPerson_50 : decode cX7_takesPerson 50 = .ok (.bipush 60, 2) := by decide +kernel
theorem dX7_takesPerson_52 : decode cX7_takesPerson 52 = .ok (.if_icmp .le 5, 3) := by decide +kernel
theorem dX7_takesPerson_55 : decode cX7_takesPerson 55 = .ok (.iconst 0, 1) := by decide +kernel
theorem dX7_takesPerson_56 : decode cX7_takesPerson 56 = .ok (.ireturn, 1) := by decide +kernel
theorem dX7_takesPerson_57 : decode cX7_takesPerson 57 = .ok (.aload_n 0, 1) := by decide +kernel
theorem dX7_takesPerson_58 : decode cX7_takesPerson 58 = .ok (.getfield 25, 3) := by decide +kernel
theorem dX7_takesPerson_61 : decode cX7_takesPerson 61 = .ok (.aload_n 0, 1) := by decide +kernel
theorem dX7_takesPerson_62 : decode cX7_takesPerson 62 = .ok (.getfield 44, 3) := by decide +kernel
theorem dX7_takesPerson_65 : decode cX7_takesPerson 65 = .ok (.aaload, 1) := by decide +kernel
theorem dX7_takesPerson_66 : decode cX7_takesPerson 66 = .ok (.getfield 114, 3) := by decide +kernel
theorem dX7_takesPerson_69 : decode cX7_takesPerson 69 = .ok (.iload 4, 2) := by decide +kernel
theorem dX7_takesPerson_71 : decode cX7_takesPerson 71 = .ok (.aload_n 1, 1) := by decide +kernel
theorem dX7_takesPerson_72 : decode cX7_takesPerson 72 = .ok (.iload 4, 2) := by decide +kernel
theorem dX7_takesPerson_74 : decode cX7_takesPerson 74 = .ok (.iaload, 1) := by decide +kernel
theorem dX7_takesPerson_75 : decode cX7_takesPerson 75 = .ok (.iastore, 1) := by decide +kernel
theorem dX7_takesPerson_76 : decode cX7_takesPerson 76 = .ok (.iinc 4 1, 3) := by decide +kernel
theorem dX7_takesPerson_79 : decode cX7_takesPerson 79 = .ok (.goto (-39), 3) := by decide +kernel
theorem dX7_takesPerson_82 : decode cX7_takesPerson 82 = .ok (.aload_n 0, 1) := by decide +kernel
theorem dX7_takesPerson_83 : decode cX7_takesPerson 83 = .ok (.getfield 25, 3) := by decide +kernel
theorem dX7_takesPerson_86 : decode cX7_takesPerson 86 = .ok (.aload_n 0, 1) := by decide +kernel
theorem dX7_takesPerson_87 : decode cX7_takesPerson 87 = .ok (.getfield 44, 3) := by decide +kernel
theorem dX7_takesPerson_90 : decode cX7_takesPerson 90 = .ok (.aaload, 1) := by decide +kernel
theorem dX7_takesPerson_91 : decode cX7_takesPerson 91 = .ok (.iload_n 3, 1) := by decide +kernel
theorem dX7_takesPerson_92 : decode cX7_takesPerson 92 = .ok (.putfield 118, 3) := by decide +kernel
theorem dX7_takesPerson_95 : decode cX7_takesPerson 95 = .ok (.aload_n 0, 1) := by decide +kernel
theorem dX7_takesPerson_96 : decode cX7_takesPerson 96 = .ok (.getfield 37, 3) := by decide +kernel
theorem dX7_takesPerson_99 : decode cX7_takesPerson 99 = .ok (.iload_n 2, 1) := by decide +kernel
theorem dX7_takesPerson_100 : decode cX7_takesPerson 100 = .ok (.aaload, 1) := by decide +kernel
theorem dX7_takesPerson_101 : decode cX7_takesPerson 101 = .ok (.invokevirtual 121, 3) := by decide +kernel
theorem dX7_takesPerson_104 : decode cX7_takesPerson 104 = .ok (.aload_n 0, 1) := by decide +kernel
theorem dX7_takesPerson_105 : decode cX7_takesPerson 105 = .ok (.getfield 37, 3) := by decide +kernel
theorem dX7_takesPerson_108 : decode cX7_takesPerson 108 = .ok (.iload_n 2, 1) := by decide +kernel
theorem dX7_takesPerson_109 : decode cX7_takesPerson 109 = .ok (.aaload, 1) := by decide +kernel
theorem dX7_takesPerson_110 : decode cX7_takesPerson 110 = .ok (.aload_n 0, 1) := by decide +kernel
theorem dX7_takesPerson_111 : decode cX7_takesPerson 111 = .ok (.getfield 44, 3) := by decide +kernel
theorem dX7_takesPerson_114 : decode cX7_takesPerson 114 = .ok (.putfield 73, 3) := by decide +kernel
theorem dX7_takesPerson_117 : decode cX7_takesPerson 117 = .ok (.aload_n 0, 1) := by decide +kernel
theorem dX7_takesPerson_118 : decode cX7_takesPerson 118 = .ok (.getfield 37, 3) := by decide +kernel
theorem dX7_takesPerson_121 : decode cX7_takesPerson 121 = .ok (.iload_n 2, 1) := by decide +kernel
theorem dX7_takesPerson_122 : decode cX7_takesPerson 122 = .ok (.aaload, 1) := by decide +kernel
theorem dX7_takesPerson_123 : decode cX7_takesPerson 123 = .ok (.bipush 12, 2) := by decide +kernel
theorem dX7_takesPerson_125 : decode cX7_takesPerson 125 = .ok (.putfield 66, 3) := by decide +kernel
theorem dX7_takesPerson_128 : decode cX7_takesPerson 128 = .ok (.aload_n 0, 1) := by decide +kernel
theorem dX7_takesPerson_129 : decode cX7_takesPerson 129 = .ok (.dup, 1) := by decide +kernel
theorem dX7_takesPerson_130 : decode cX7_takesPerson 130 = .ok (.getfield 44, 3) := by decide +kernel
theorem dX7_takesPerson_133 : decode cX7_takesPerson 133 = .ok (.iconst 1, 1) := by decide +kernel
theorem dX7_takesPerson_134 : decode cX7_takesPerson 134 = .ok (.iadd, 1) := by decide +kernel
theorem dX7_takesPerson_135 : decode cX7_takesPerson 135 = .ok (.putfield 44, 3) := by decide +kernel
theorem dX7_takesPerson_138 : decode cX7_takesPerson 138 = .ok (.iconst 1, 1) := by decide +kernel
theorem dX7_takesPerson_139 : decode cX7_takesPerson 139 = .ok (.ireturn, 1) := by decide +kernel
theorem dX7_takesWork_0 : decode cX7_takesWork 0 = .ok (.aload_n 0, 1) := by decide +kernel
theorem dX7_takesWork_1 : decode cX7_takesWork 1 = .ok (.getfield 47, 3) := by decide +kernel
theorem dX7_takesWork_4 : decode cX7_takesWork 4 = .ok (.bipush 6, 2) := by decide +kernel
theorem dX7_takesWork_6 : decode cX7_takesWork 6 = .ok (.if_icmp .ge 13, 3) := by decide +kernel
theorem dX7_takesWork_9 : decode cX7_takesWork 9 = .ok (.aload_n 0, 1) := by decide +kernel
theorem dX7_takesWork_10 : decode cX7_takesWork 10 = .ok (.aload_n 1, 1) := by decide +kernel
theorem dX7_takesWork_11 : decode cX7_takesWork 11 = .ok (.iconst 1, 1) := by decide +kernel
theorem dX7_takesWork_12 : decode cX7_takesWork 12 = .ok (.iaload, 1) := by decide +kernel
theorem dX7_takesWork_13 : decode cX7_takesWork 13 = .ok (.invokevirtual 108, 3) := by decide +kernel
theorem dX7_takesWork_16 : decode cX7_takesWork 16 = .ok (.ifCond .ne 5, 3) := by decide +kernel
theorem dX7_takesWork_19 : decode cX7_takesWork 19 = .ok (.iconst 0, 1) := by decide +kernel
theorem dX7_takesWork_20 : decode cX7_takesWork 20 = .ok (.ireturn, 1) := by decide +kernel
theorem dX7_takesWork_21 : decode cX7_takesWork 21 = .ok (.aload_n 0, 1) := by decide +kernel
theorem dX7_takesWork_22 : decode cX7_takesWork 22 = .ok (.getfield 31, 3) := by decide +kernel
theorem dX7_takesWork_25 : decode cX7_takesWork 25 = .ok (.aload_n 0, 1) := by decide +kernel
theorem dX7_takesWork_26 : decode cX7_takesWork 26 = .ok (.getfield 47, 3) := by decide +kernel
theorem dX7_takesWork_29 : decode cX7_takesWork 29 = .ok (.aaload, 1) := by decide +kernel
theorem dX7_takesWork_30 : decode cX7_takesWork 30 = .ok (.astore_n 2, 1) := by decide +kernel
theorem dX7_takesWork_31 : decode cX7_takesWork 31 = .ok (.iconst 0, 1) := by decide +kernel
theorem dX7_takesWork_32 : decode cX7_takesWork 32 = .ok (.istore_n 3, 1) := by decide +kernel
theorem dX7_takesWork_33 : decode cX7_takesWork 33 = .ok (.iload_n 3, 1) := by decide +kernel
theorem dX7_takesWork_34 : decode cX7_takesWork 34 = .ok (.iconst 3, 1) := by decide +kernel
theorem dX7_takesWork_35 : decode cX7_takesWork 35 = .ok (.if_icmp .ge 33, 3) := by decide +kernel
theorem dX7_takesWork_38 : decode cX7_takesWork 38 = .ok (.aload_n 1, 1) := by decide +kernel
theorem dX7_takesWork_39 : decode cX7_takesWork 39 = .ok (.iconst 2, 1) := by decide +kernel
theorem dX7_takesWork_40 : decode cX7_takesWork 40 = .ok (.iload_n 3, 1) := by decide +kernel
theorem dX7_takesWork_41 : decode cX7_takesWork 41 = .ok (.iadd, 1) := by decide +kernel
theorem dX7_takesWork_42 : decode cX7_takesWork 42 = .ok (.iaload, 1) := by decide +kernel
theorem dX7_takesWork_43 : decode cX7_takesWork 43 = .ok (.sipush 200, 3) := by decide +kernel
theorem dX7_takesWork_46 : decode cX7_takesWork 46 = .ok (.if_icmp .le 5, 3) := by decide +kernel
theorem dX7_takesWork_49 : decode cX7_takesWork 49 = .ok (.iconst 0, 1) := by decide +kernel
theorem dX7_takesWork_50 : decode cX7_takesWork 50 = .ok (.ireturn, 1) := by decide +kernel
theorem dX7_takesWork_51 : decode cX7_takesWork 51 = .ok (.aload_n 2, 1) := by decide +kernel
theorem dX7_takesWork_52 : decode cX7_takesWork 52 = .ok (.getfield 124, 3) := by decide +kernel
theorem dX7_takesWork_55 : decode cX7_takesWork 55 = .ok (.iload_n 3, 1) := by decide +kernel
theorem dX7_takesWork_56 : decode cX7_takesWork 56 = .ok (.aload_n 1, 1) := by decide +kernel
theorem dX7_takesWork_57 : decode cX7_takesWork 57 = .ok (.iconst 2, 1) := by decide +kernel
theorem dX7_takesWork_58 : decode cX7_takesWork 58 = .ok (.iload_n 3, 1) := by decide +kernel
theorem dX7_takesWork_59 : decode cX7_takesWork 59 = .ok (.iadd, 1) := by decide +kernel
theorem dX7_takesWork_60 : decode cX7_takesWork 60 = .ok (.iaload, 1) := by decide +kernel
theorem dX7_takesWork_61 : decode cX7_takesWork 61 = .ok (.iastore, 1) := by decide +kernel
theorem dX7_takesWork_62 : decode cX7_takesWork 62 = .ok (.iinc 3 1, 3) := by decide +kernel
theorem dX7_takesWork_65 : decode cX7_takesWork 65 = .ok (.goto (-32), 3) := by decide +kernel
theorem dX7_takesWork_68 : decode cX7_takesWork 68 = .ok (.aload_n 2, 1) := by decide +kernel
theorem dX7_takesWork_69 : decode cX7_takesWork 69 = .ok (.aload_n 1, 1) := by decide +kernel
theorem dX7_takesWork_70 : decode cX7_takesWork 70 = .ok (.iconst 0, 1) := by decide +kernel
theorem dX7_takesWork_71 : decode cX7_takesWork 71 = .ok (.iaload, 1) := by decide +kernel
theorem dX7_takesWork_72 : decode cX7_takesWork 72 = .ok (.putfield 127, 3) := by decide +kernel
theorem dX7_takesWork_75 : decode cX7_takesWork 75 = .ok (.aload_n 2, 1) := by decide +kernel
theorem dX7_takesWork_76 : decode cX7_takesWork 76 = .ok (.aload_n 1, 1) := by decide +kernel
theorem dX7_takesWork_77 : decode cX7_takesWork 77 = .ok (.iconst 1, 1) := by decide +kernel
theorem dX7_takesWork_78 : decode cX7_takesWork 78 = .ok (.iaload, 1) := by decide +kernel
theorem dX7_takesWork_79 : decode cX7_takesWork 79 = .ok (.putfield 107, 3) := by decide +kernel
theorem dX7_takesWork_82 : decode cX7_takesWork 82 = .ok (.aload_n 2, 1) := by decide +kernel
theorem dX7_takesWork_83 : decode cX7_takesWork 83 = .ok (.aload_n 1, 1) := by decide +kernel
theorem dX7_takesWork_84 : decode cX7_takesWork 84 = .ok (.iconst 5, 1) := by decide +kernel
theorem dX7_takesWork_85 : decode cX7_takesWork 85 = .ok (.iaload, 1) := by decide +kernel
theorem dX7_takesWork_86 : decode cX7_takesWork 86 = .ok (.putfield 130, 3) := by decide +kernel
theorem dX7_takesWork_89 : decode cX7_takesWork 89 = .ok (.aload_n 0, 1) := by decide +kernel
theorem dX7_takesWork_90 : decode cX7_takesWork 90 = .ok (.dup, 1) := by decide +kernel
theorem dX7_takesWork_91 : decode cX7_takesWork 91 = .ok (.getfield 47, 3) := by decide +kernel
theorem dX7_takesWork_94 : decode cX7_takesWork 94 = .ok (.iconst 1, 1) := by decide +kernel
theorem dX7_takesWork_95 : decode cX7_takesWork 95 = .ok (.iadd, 1) := by decide +kernel
theorem dX7_takesWork_96 : decode cX7_takesWork 96 = .ok (.putfield 47, 3) := by decide +kernel
theorem dX7_takesWork_99 : decode cX7_takesWork 99 = .ok (.iconst 1, 1) := by decide +kernel
theorem dX7_takesWork_100 : decode cX7_takesWork 100 = .ok (.ireturn, 1) := by decide +kernel
theorem dX7_measure_0 : decode cX7_measure 0 = .ok (.iconst 0, 1) := by decide +kernel
theorem dX7_measure_1 : decode cX7_measure 1 = .ok (.istore_n 1, 1) := by decide +kernel
theorem dX7_measure_2 : decode cX7_measure 2 = .ok (.iload_n 1, 1) := by decide +kernel
theorem dX7_measure_3 : decode cX7_measure 3 = .ok (.bipush 6, 2) := by decide +kernel
theorem dX7_measure_5 : decode cX7_measure 5 = .ok (.if_icmp .ge 64, 3) := by decide +kernel
theorem dX7_measure_8 : decode cX7_measure 8 = .ok (.iconst 0, 1) := by decide +kernel
theorem dX7_measure_9 : decode cX7_measure 9 = .ok (.istore_n 2, 1) := by decide +kernel
theorem dX7_measure_10 : decode cX7_measure 10 = .ok (.iload_n 2, 1) := by decide +kernel
theorem dX7_measure_11 : decode cX7_measure 11 = .ok (.bipush 6, 2) := by decide +kernel
theorem dX7_measure_13 : decode cX7_measure 13 = .ok (.if_icmp .ge 41, 3) := by decide +kernel
theorem dX7_measure_16 : decode cX7_measure 16 = .ok (.aload_n 0, 1) := by decide +kernel
theorem dX7_measure_17 : decode cX7_measure 17 = .ok (.getfield 20, 3) := by decide +kernel
theorem dX7_measure_20 : decode cX7_measure 20 = .ok (.iload_n 1, 1) := by decide +kernel
theorem dX7_measure_21 : decode cX7_measure 21 = .ok (.aaload, 1) := by decide +kernel
theorem dX7_measure_22 : decode cX7_measure 22 = .ok (.iload_n 2, 1) := by decide +kernel
theorem dX7_measure_23 : decode cX7_measure 23 = .ok (.aload_n 0, 1) := by decide +kernel
theorem dX7_measure_24 : decode cX7_measure 24 = .ok (.getfield 17, 3) := by decide +kernel
theorem dX7_measure_27 : decode cX7_measure 27 = .ok (.iload_n 1, 1) := by decide +kernel
theorem dX7_measure_28 : decode cX7_measure 28 = .ok (.aaload, 1) := by decide +kernel
theorem dX7_measure_29 : decode cX7_measure 29 = .ok (.iload_n 2, 1) := by decide +kernel
theorem dX7_measure_30 : decode cX7_measure 30 = .ok (.iaload, 1) := by decide +kernel
theorem dX7_measure_31 : decode cX7_measure 31 = .ok (.ifCond .le 14, 3) := by decide +kernel
theorem dX7_measure_34 : decode cX7_measure 34 = .ok (.aload_n 0, 1) := by decide +kernel
theorem dX7_measure_35 : decode cX7_measure 35 = .ok (.getfield 17, 3) := by decide +kernel
theorem dX7_measure_38 : decode cX7_measure 38 = .ok (.iload_n 1, 1) := by decide +kernel
theorem dX7_measure_39 : decode cX7_measure 39 = .ok (.aaload, 1) := by decide +kernel
theorem dX7_measure_40 : decode cX7_measure 40 = .ok (.iload_n 2, 1) := by decide +kernel
theorem dX7_measure_41 : decode cX7_measure 41 = .ok (.iaload, 1) := by decide +kernel
theorem dX7_measure_42 : decode cX7_measure 42 = .ok (.goto 5, 3) := by decide +kernel
theorem dX7_measure_45 : decode cX7_measure 45 = .ok (.bipush (-9), 2) := by decide +kernel
theorem dX7_measure_47 : decode cX7_measure 47 = .ok (.iastore, 1) := by decide +kernel
theorem dX7_measure_48 : decode cX7_measure 48 = .ok (.iinc 2 1, 3) := by decide +kernel
theorem dX7_measure_51 : decode cX7_measure 51 = .ok (.goto (-41), 3) := by decide +kernel
theorem dX7_measure_54 : decode cX7_measure 54 = .ok (.aload_n 0, 1) := by decide +kernel
theorem dX7_measure_55 : decode cX7_measure 55 = .ok (.getfield 20, 3) := by decide +kernel
theorem dX7_measure_58 : decode cX7_measure 58 = .ok (.iload_n 1, 1) := by decide +kernel
theorem dX7_measure_59 : decode cX7_measure 59 = .ok (.aaload, 1) := by decide +kernel
theorem dX7_measure_60 : decode cX7_measure 60 = .ok (.iload_n 1, 1) := by decide +kernel
theorem dX7_measure_61 : decode cX7_measure 61 = .ok (.iconst 0, 1) := by decide +kernel
theorem dX7_measure_62 : decode cX7_measure 62 = .ok (.iastore, 1) := by decide +kernel
theorem dX7_measure_63 : decode cX7_measure 63 = .ok (.iinc 1 1, 3) := by decide +kernel
theorem dX7_measure_66 : decode cX7_measure 66 = .ok (.goto (-64), 3) := by decide +kernel
theorem dX7_measure_69 : decode cX7_measure 69 = .ok (.iconst 0, 1) := by decide +kernel
theorem dX7_measure_70 : decode cX7_measure 70 = .ok (.istore_n 1, 1) := by decide +kernel
theorem dX7_measure_71 : decode cX7_measure 71 = .ok (.iload_n 1, 1) := by decide +kernel
theorem dX7_measure_72 : decode cX7_measure 72 = .ok (.bipush 6, 2) := by decide +kernel
theorem dX7_measure_74 : decode cX7_measure 74 = .ok (.if_icmp .ge 44, 3) := by decide +kernel
theorem dX7_measure_77 : decode cX7_measure 77 = .ok (.iconst 0, 1) := by decide +kernel
theorem dX7_measure_78 : decode cX7_measure 78 = .ok (.istore_n 2, 1) := by decide +kernel
theorem dX7_measure_79 : decode cX7_measure 79 = .ok (.iload_n 2, 1) := by decide +kernel
theorem dX7_measure_80 : decode cX7_measure 80 = .ok (.bipush 6, 2) := by decide +kernel
theorem dX7_measure_82 : decode cX7_measure 82 = .ok (.if_icmp .ge 30, 3) := by decide +kernel
theorem dX7_measure_85 : decode cX7_measure 85 = .ok (.iconst 0, 1) := by decide +kernel
theorem dX7_measure_86 : decode cX7_measure 86 = .ok (.istore_n 3, 1) := by decide +kernel
theorem dX7_measure_87 : decode cX7_measure 87 = .ok (.iload_n 3, 1) := by decide +kernel
theorem dX7_measure_88 : decode cX7_measure 88 = .ok (.bipush 6, 2) := by decide +kernel
theorem dX7_measure_90 : decode cX7_measure 90 = .ok (.if_icmp .ge 16, 3) := by decide +kernel
theorem dX7_measure_93 : decode cX7_measure 93 = .ok (.aload_n 0, 1) := by decide +kernel
theorem dX7_measure_94 : decode cX7_measure 94 = .ok (.iload_n 2, 1) := by decide +kernel
theorem dX7_measure_95 : decode cX7_measure 95 = .ok (.iload_n 1, 1) := by decide +kernel
theorem dX7_measure_96 : decode cX7_measure 96 = .ok (.iload_n 3, 1) := by decide +kernel
theorem dX7_measure_97 : decode cX7_measure 97 = .ok (.invokevirtual 133, 3) := by decide +kernel
theorem dX7_measure_100 : decode cX7_measure 100 = .ok (.iinc 3 1, 3) := by decide +kernel
theorem dX7_measure_103 : decode cX7_measure 103 = .ok (.goto (-16), 3) := by decide +kernel
theorem dX7_measure_106 : decode cX7_measure 106 = .ok (.iinc 2 1, 3) := by decide +kernel
theorem dX7_measure_109 : decode cX7_measure 109 = .ok (.goto (-30), 3) := by decide +kernel
theorem dX7_measure_112 : decode cX7_measure 112 = .ok (.iinc 1 1, 3) := by decide +kernel
theorem dX7_measure_115 : decode cX7_measure 115 = .ok (.goto (-44), 3) := by decide +kernel
theorem dX7_measure_118 : decode cX7_measure 118 = .ok (.return_, 1) := by decide +kernel
theorem dX7_shorten_0 : decode cX7_shorten 0 = .ok (.aload_n 0, 1) := by decide +kernel
theorem dX7_shorten_1 : decode cX7_shorten 1 = .ok (.getfield 20, 3) := by decide +kernel
theorem dX7_shorten_4 : decode cX7_shorten 4 = .ok (.iload_n 1, 1) := by decide +kernel
theorem dX7_shorten_5 : decode cX7_shorten 5 = .ok (.aaload, 1) := by decide +kernel
theorem dX7_shorten_6 : decode cX7_shorten 6 = .ok (.iload_n 2, 1) := by decide +kernel
theorem dX7_shorten_7 : decode cX7_shorten 7 = .ok (.iaload, 1) := by decide +kernel
theorem dX7_shorten_8 : decode cX7_shorten 8 = .ok (.ifCond .lt 14, 3) := by decide +kernel
theorem dX7_shorten_11 : decode cX7_shorten 11 = .ok (.aload_n 0, 1) := by decide +kernel
theorem dX7_shorten_12 : decode cX7_shorten 12 = .ok (.getfield 20, 3) := by decide +kernel
theorem dX7_shorten_15 : decode cX7_shorten 15 = .ok (.iload_n 2, 1) := by decide +kernel
theorem dX7_shorten_16 : decode cX7_shorten 16 = .ok (.aaload, 1) := by decide +kernel
theorem dX7_shorten_17 : decode cX7_shorten 17 = .ok (.iload_n 3, 1) := by decide +kernel
theorem dX7_shorten_18 : decode cX7_shorten 18 = .ok (.iaload, 1) := by decide +kernel
theorem dX7_shorten_19 : decode cX7_shorten 19 = .ok (.ifCond .ge 4, 3) := by decide +kernel
theorem dX7_shorten_22 : decode cX7_shorten 22 = .ok (.return_, 1) := by decide +kernel
theorem dX7_shorten_23 : decode cX7_shorten 23 = .ok (.aload_n 0, 1) := by decide +kernel
theorem dX7_shorten_24 : decode cX7_shorten 24 = .ok (.getfield 20, 3) := by decide +kernel
theorem dX7_shorten_27 : decode cX7_shorten 27 = .ok (.iload_n 1, 1) := by decide +kernel
theorem dX7_shorten_28 : decode cX7_shorten 28 = .ok (.aaload, 1) := by decide +kernel
theorem dX7_shorten_29 : decode cX7_shorten 29 = .ok (.iload_n 2, 1) := by decide +kernel
theorem dX7_shorten_30 : decode cX7_shorten 30 = .ok (.iaload, 1) := by decide +kernel
theorem dX7_shorten_31 : decode cX7_shorten 31 = .ok (.aload_n 0, 1) := by decide +kernel
theorem dX7_shorten_32 : decode cX7_shorten 32 = .ok (.getfield 20, 3) := by decide +kernel
theorem dX7_shorten_35 : decode cX7_shorten 35 = .ok (.iload_n 2, 1) := by decide +kernel
theorem dX7_shorten_36 : decode cX7_shorten 36 = .ok (.aaload, 1) := by decide +kernel
theorem dX7_shorten_37 : decode cX7_shorten 37 = .ok (.iload_n 3, 1) := by decide +kernel
theorem dX7_shorten_38 : decode cX7_shorten 38 = .ok (.iaload, 1) := by decide +kernel
theorem dX7_shorten_39 : decode cX7_shorten 39 = .ok (.iadd, 1) := by decide +kernel
theorem dX7_shorten_40 : decode cX7_shorten 40 = .ok (.istore 4, 2) := by decide +kernel
theorem dX7_shorten_42 : decode cX7_shorten 42 = .ok (.aload_n 0, 1) := by decide +kernel
theorem dX7_shorten_43 : decode cX7_shorten 43 = .ok (.getfield 20, 3) := by decide +kernel
theorem dX7_shorten_46 : decode cX7_shorten 46 = .ok (.iload_n 1, 1) := by decide +kernel
theorem dX7_shorten_47 : decode cX7_shorten 47 = .ok (.aaload, 1) := by decide +kernel
theorem dX7_shorten_48 : decode cX7_shorten 48 = .ok (.iload_n 3, 1) := by decide +kernel
theorem dX7_shorten_49 : decode cX7_shorten 49 = .ok (.iaload, 1) := by decide +kernel
theorem dX7_shorten_50 : decode cX7_shorten 50 = .ok (.ifCond .lt 16, 3) := by decide +kernel
theorem dX7_shorten_53 : decode cX7_shorten 53 = .ok (.iload 4, 2) := by decide +kernel
theorem dX7_shorten_55 : decode cX7_shorten 55 = .ok (.aload_n 0, 1) := by decide +kernel
theorem dX7_shorten_56 : decode cX7_shorten 56 = .ok (.getfield 20, 3) := by decide +kernel
theorem dX7_shorten_59 : decode cX7_shorten 59 = .ok (.iload_n 1, 1) := by decide +kernel
theorem dX7_shorten_60 : decode cX7_shorten 60 = .ok (.aaload, 1) := by decide +kernel
theorem dX7_shorten_61 : decode cX7_shorten 61 = .ok (.iload_n 3, 1) := by decide +kernel
theorem dX7_shorten_62 : decode cX7_shorten 62 = .ok (.iaload, 1) := by decide +kernel
theorem dX7_shorten_63 : decode cX7_shorten 63 = .ok (.if_icmp .ge 13, 3) := by decide +kernel
theorem dX7_shorten_66 : decode cX7_shorten 66 = .ok (.aload_n 0, 1) := by decide +kernel
theorem dX7_shorten_67 : decode cX7_shorten 67 = .ok (.getfield 20, 3) := by decide +kernel
theorem dX7_shorten_70 : decode cX7_shorten 70 = .ok (.iload_n 1, 1) := by decide +kernel
theorem dX7_shorten_71 : decode cX7_shorten 71 = .ok (.aaload, 1) := by decide +kernel
theorem dX7_shorten_72 : decode cX7_shorten 72 = .ok (.iload_n 3, 1) := by decide +kernel
theorem dX7_shorten_73 : decode cX7_shorten 73 = .ok (.iload 4, 2) := by decide +kernel
theorem dX7_shorten_75 : decode cX7_shorten 75 = .ok (.iastore, 1) := by decide +kernel
theorem dX7_shorten_76 : decode cX7_shorten 76 = .ok (.return_, 1) := by decide +kernel
theorem dX7_minuteAt_0 : decode cX7_minuteAt 0 = .ok (.bipush (-9), 2) := by decide +kernel
theorem dX7_minuteAt_2 : decode cX7_minuteAt 2 = .ok (.istore_n 3, 1) := by decide +kernel
theorem dX7_minuteAt_3 : decode cX7_minuteAt 3 = .ok (.iconst 0, 1) := by decide +kernel
theorem dX7_minuteAt_4 : decode cX7_minuteAt 4 = .ok (.istore 4, 2) := by decide +kernel
theorem dX7_minuteAt_6 : decode cX7_minuteAt 6 = .ok (.iload 4, 2) := by decide +kernel
theorem dX7_minuteAt_8 : decode cX7_minuteAt 8 = .ok (.bipush 24, 2) := by decide +kernel
theorem dX7_minuteAt_10 : decode cX7_minuteAt 10 = .ok (.if_icmp .ge 64, 3) := by decide +kernel
theorem dX7_minuteAt_13 : decode cX7_minuteAt 13 = .ok (.aload_n 0, 1) := by decide +kernel
theorem dX7_minuteAt_14 : decode cX7_minuteAt 14 = .ok (.iload 4, 2) := by decide +kernel
theorem dX7_minuteAt_16 : decode cX7_minuteAt 16 = .ok (.iload_n 1, 1) := by decide +kernel
theorem dX7_minuteAt_17 : decode cX7_minuteAt 17 = .ok (.invokevirtual 76, 3) := by decide +kernel
theorem dX7_minuteAt_20 : decode cX7_minuteAt 20 = .ok (.ifCond .eq 48, 3) := by decide +kernel
theorem dX7_minuteAt_23 : decode cX7_minuteAt 23 = .ok (.aload_n 0, 1) := by decide +kernel
theorem dX7_minuteAt_24 : decode cX7_minuteAt 24 = .ok (.getfield 20, 3) := by decide +kernel
theorem dX7_minuteAt_27 : decode cX7_minuteAt 27 = .ok (.aload_n 0, 1) := by decide +kernel
theorem dX7_minuteAt_28 : decode cX7_minuteAt 28 = .ok (.getfield 37, 3) := by decide +kernel
theorem dX7_minuteAt_31 : decode cX7_minuteAt 31 = .ok (.iload 4, 2) := by decide +kernel
theorem dX7_minuteAt_33 : decode cX7_minuteAt 33 = .ok (.aaload, 1) := by decide +kernel
theorem dX7_minuteAt_34 : decode cX7_minuteAt 34 = .ok (.getfield 80, 3) := by decide +kernel
theorem dX7_minuteAt_37 : decode cX7_minuteAt 37 = .ok (.aaload, 1) := by decide +kernel
theorem dX7_minuteAt_38 : decode cX7_minuteAt 38 = .ok (.iload_n 2, 1) := by decide +kernel
theorem dX7_minuteAt_39 : decode cX7_minuteAt 39 = .ok (.iaload, 1) := by decide +kernel
theorem dX7_minuteAt_40 : decode cX7_minuteAt 40 = .ok (.istore 5, 2) := by decide +kernel
theorem dX7_minuteAt_42 : decode cX7_minuteAt 42 = .ok (.iload 5, 2) := by decide +kernel
theorem dX7_minuteAt_44 : decode cX7_minuteAt 44 = .ok (.ifCond .ge 6, 3) := by decide +kernel
theorem dX7_minuteAt_47 : decode cX7_minuteAt 47 = .ok (.bipush (-9), 2) := by decide +kernel
theorem dX7_minuteAt_49 : decode cX7_minuteAt 49 = .ok (.ireturn, 1) := by decide +kernel
theorem dX7_minuteAt_50 : decode cX7_minuteAt 50 = .ok (.iload_n 3, 1) := by decide +kernel
theorem dX7_minuteAt_51 : decode cX7_minuteAt 51 = .ok (.aload_n 0, 1) := by decide +kernel
theorem dX7_minuteAt_52 : decode cX7_minuteAt 52 = .ok (.getfield 37, 3) := by decide +kernel
theorem dX7_minuteAt_55 : decode cX7_minuteAt 55 = .ok (.iload 4, 2) := by decide +kernel
theorem dX7_minuteAt_57 : decode cX7_minuteAt 57 = .ok (.aaload, 1) := by decide +kernel
theorem dX7_minuteAt_58 : decode cX7_minuteAt 58 = .ok (.getfield 137, 3) := by decide +kernel
theorem dX7_minuteAt_61 : decode cX7_minuteAt 61 = .ok (.iload 5, 2) := by decide +kernel
theorem dX7_minuteAt_63 : decode cX7_minuteAt 63 = .ok (.iadd, 1) := by decide +kernel
theorem dX7_minuteAt_64 : decode cX7_minuteAt 64 = .ok (.invokestatic 101, 3) := by decide +kernel
theorem dX7_minuteAt_67 : decode cX7_minuteAt 67 = .ok (.istore_n 3, 1) := by decide +kernel
theorem dX7_minuteAt_68 : decode cX7_minuteAt 68 = .ok (.iinc 4 1, 3) := by decide +kernel
theorem dX7_minuteAt_71 : decode cX7_minuteAt 71 = .ok (.goto (-65), 3) := by decide +kernel
theorem dX7_minuteAt_74 : decode cX7_minuteAt 74 = .ok (.iload_n 3, 1) := by decide +kernel
theorem dX7_minuteAt_75 : decode cX7_minuteAt 75 = .ok (.ireturn, 1) := by decide +kernel
theorem dX8_init_0 : decode cX8_init 0 = .ok (.aload_n 0, 1) := by decide +kernel
theorem dX8_init_1 : decode cX8_init 1 = .ok (.invokespecial 3, 3) := by decide +kernel
theorem dX8_init_4 : decode cX8_init 4 = .ok (.aload_n 0, 1) := by decide +kernel
theorem dX8_init_5 : decode cX8_init 5 = .ok (.iconst 3, 1) := by decide +kernel
theorem dX8_init_6 : decode cX8_init 6 = .ok (.newarray .int, 2) := by decide +kernel
theorem dX8_init_8 : decode cX8_init 8 = .ok (.putfield 9, 3) := by decide +kernel
theorem dX8_init_11 : decode cX8_init 11 = .ok (.return_, 1) := by decide +kernel
theorem dX8_become_0 : decode cX8_become 0 = .ok (.aload_n 0, 1) := by decide +kernel
theorem dX8_become_1 : decode cX8_become 1 = .ok (.aload_n 1, 1) := by decide +kernel
theorem dX8_become_2 : decode cX8_become 2 = .ok (.getfield 15, 3) := by decide +kernel
theorem dX8_become_5 : decode cX8_become 5 = .ok (.putfield 15, 3) := by decide +kernel
theorem dX8_become_8 : decode cX8_become 8 = .ok (.aload_n 0, 1) := by decide +kernel
theorem dX8_become_9 : decode cX8_become 9 = .ok (.aload_n 1, 1) := by decide +kernel
theorem dX8_become_10 : decode cX8_become 10 = .ok (.getfield 19, 3) := by decide +kernel
theorem dX8_become_13 : decode cX8_become 13 = .ok (.putfield 19, 3) := by decide +kernel
theorem dX8_become_16 : decode cX8_become 16 = .ok (.aload_n 1, 1) := by decide +kernel
theorem dX8_become_17 : decode cX8_become 17 = .ok (.getfield 9, 3) := by decide +kernel
theorem dX8_become_20 : decode cX8_become 20 = .ok (.iconst 0, 1) := by decide +kernel
theorem dX8_become_21 : decode cX8_become 21 = .ok (.aload_n 0, 1) := by decide +kernel
theorem dX8_become_22 : decode cX8_become 22 = .ok (.getfield 9, 3) := by decide +kernel
theorem dX8_become_25 : decode cX8_become 25 = .ok (.iconst 0, 1) := by decide +kernel
theorem dX8_become_26 : decode cX8_become 26 = .ok (.iconst 3, 1) := by decide +kernel
theorem dX8_become_27 : decode cX8_become 27 = .ok (.invokestatic 22, 3) := by decide +kernel
theorem dX8_become_30 : decode cX8_become 30 = .ok (.aload_n 0, 1) := by decide +kernel
theorem dX8_become_31 : decode cX8_become 31 = .ok (.aload_n 1, 1) := by decide +kernel
theorem dX8_become_32 : decode cX8_become 32 = .ok (.getfield 28, 3) := by decide +kernel
theorem dX8_become_35 : decode cX8_become 35 = .ok (.putfield 28, 3) := by decide +kernel
theorem dX8_become_38 : decode cX8_become 38 = .ok (.return_, 1) := by decide +kernel
theorem dX9_init_0 : decode cX9_init 0 = .ok (.aload_n 0, 1) := by decide +kernel
theorem dX9_init_1 : decode cX9_init 1 = .ok (.invokespecial 1, 3) := by decide +kernel
theorem dX9_init_4 : decode cX9_init 4 = .ok (.aload_n 0, 1) := by decide +kernel
theorem dX9_init_5 : decode cX9_init 5 = .ok (.new 7, 3) := by decide +kernel
theorem dX9_init_8 : decode cX9_init 8 = .ok (.dup, 1) := by decide +kernel
theorem dX9_init_9 : decode cX9_init 9 = .ok (.invokespecial 9, 3) := by decide +kernel
theorem dX9_init_12 : decode cX9_init 12 = .ok (.putfield 10, 3) := by decide +kernel
theorem dX9_init_15 : decode cX9_init 15 = .ok (.aload_n 0, 1) := by decide +kernel
theorem dX9_init_16 : decode cX9_init 16 = .ok (.new 16, 3) := by decide +kernel
theorem dX9_init_19 : decode cX9_init 19 = .ok (.dup, 1) := by decide +kernel
theorem dX9_init_20 : decode cX9_init 20 = .ok (.invokespecial 18, 3) := by decide +kernel
theorem dX9_init_23 : decode cX9_init 23 = .ok (.putfield 19, 3) := by decide +kernel
theorem dX9_init_26 : decode cX9_init 26 = .ok (.aload_n 0, 1) := by decide +kernel
theorem dX9_init_27 : decode cX9_init 27 = .ok (.new 16, 3) := by decide +kernel
theorem dX9_init_30 : decode cX9_init 30 = .ok (.dup, 1) := by decide +kernel
theorem dX9_init_31 : decode cX9_init 31 = .ok (.invokespecial 18, 3) := by decide +kernel
theorem dX9_init_34 : decode cX9_init 34 = .ok (.putfield 23, 3) := by decide +kernel
theorem dX9_init_37 : decode cX9_init 37 = .ok (.aload_n 0, 1) := by decide +kernel
theorem dX9_init_38 : decode cX9_init 38 = .ok (.new 16, 3) := by decide +kernel
theorem dX9_init_41 : decode cX9_init 41 = .ok (.dup, 1) := by decide +kernel
theorem dX9_init_42 : decode cX9_init 42 = .ok (.invokespecial 18, 3) := by decide +kernel
theorem dX9_init_45 : decode cX9_init 45 = .ok (.putfield 26, 3) := by decide +kernel
theorem dX9_init_48 : decode cX9_init 48 = .ok (.aload_n 0, 1) := by decide +kernel
theorem dX9_init_49 : decode cX9_init 49 = .ok (.iconst 0, 1) := by decide +kernel
theorem dX9_init_50 : decode cX9_init 50 = .ok (.putfield 29, 3) := by decide +kernel
theorem dX9_init_53 : decode cX9_init 53 = .ok (.aload_n 0, 1) := by decide +kernel
theorem dX9_init_54 : decode cX9_init 54 = .ok (.new 33, 3) := by decide +kernel
theorem dX9_init_57 : decode cX9_init 57 = .ok (.dup, 1) := by decide +kernel
theorem dX9_init_58 : decode cX9_init 58 = .ok (.invokespecial 35, 3) := by decide +kernel
theorem dX9_init_61 : decode cX9_init 61 = .ok (.putfield 36, 3) := by decide +kernel
theorem dX9_init_64 : decode cX9_init 64 = .ok (.aload_n 0, 1) := by decide +kernel
theorem dX9_init_65 : decode cX9_init 65 = .ok (.new 40, 3) := by decide +kernel
theorem dX9_init_68 : decode cX9_init 68 = .ok (.dup, 1) := by decide +kernel
theorem dX9_init_69 : decode cX9_init 69 = .ok (.invokespecial 42, 3) := by decide +kernel
theorem dX9_init_72 : decode cX9_init 72 = .ok (.putfield 43, 3) := by decide +kernel
theorem dX9_init_75 : decode cX9_init 75 = .ok (.aload_n 0, 1) := by decide +kernel
theorem dX9_init_76 : decode cX9_init 76 = .ok (.new 47, 3) := by decide +kernel
theorem dX9_init_79 : decode cX9_init 79 = .ok (.dup, 1) := by decide +kernel
theorem dX9_init_80 : decode cX9_init 80 = .ok (.invokespecial 49, 3) := by decide +kernel
theorem dX9_init_83 : decode cX9_init 83 = .ok (.putfield 50, 3) := by decide +kernel
theorem dX9_init_86 : decode cX9_init 86 = .ok (.aload_n 0, 1) := by decide +kernel
theorem dX9_init_87 : decode cX9_init 87 = .ok (.new 54, 3) := by decide +kernel
theorem dX9_init_90 : decode cX9_init 90 = .ok (.dup, 1) := by decide +kernel
theorem dX9_init_91 : decode cX9_init 91 = .ok (.invokespecial 56, 3) := by decide +kernel
theorem dX9_init_94 : decode cX9_init 94 = .ok (.putfield 57, 3) := by decide +kernel
theorem dX9_init_97 : decode cX9_init 97 = .ok (.aload_n 0, 1) := by decide +kernel
theorem dX9_init_98 : decode cX9_init 98 = .ok (.bipush 12, 2) := by decide +kernel
theorem dX9_init_100 : decode cX9_init 100 = .ok (.newarray .int, 2) := by decide +kernel
theorem dX9_init_102 : decode cX9_init 102 = .ok (.putfield 61, 3) := by decide +kernel
theorem dX9_init_105 : decode cX9_init 105 = .ok (.aload_n 0, 1) := by decide +kernel
theorem dX9_init_106 : decode cX9_init 106 = .ok (.iconst 0, 1) := by decide +kernel
theorem dX9_init_107 : decode cX9_init 107 = .ok (.putfield 65, 3) := by decide +kernel
theorem dX9_init_110 : decode cX9_init 110 = .ok (.aload_n 0, 1) := by decide +kernel
theorem dX9_init_111 : decode cX9_init 111 = .ok (.bipush 7, 2) := by decide +kernel
theorem dX9_init_113 : decode cX9_init 113 = .ok (.newarray .int, 2) := by decide +kernel
theorem dX9_init_115 : decode cX9_init 115 = .ok (.putfield 69, 3) := by decide +kernel
theorem dX9_init_118 : decode cX9_init 118 = .ok (.return_, 1) := by decide +kernel
theorem dX9_feed_0 : decode cX9_feed 0 = .ok (.iload_n 1, 1) := by decide +kernel
theorem dX9_feed_1 : decode cX9_feed 1 = .ok (.ifCond .ge 10, 3) := by decide +kernel
theorem dX9_feed_4 : decode cX9_feed 4 = .ok (.aload_n 0, 1) := by decide +kernel
theorem dX9_feed_5 : decode cX9_feed 5 = .ok (.bipush (-4), 2) := by decide +kernel
theorem dX9_feed_7 : decode cX9_feed 7 = .ok (.invokevirtual 72, 3) := by decide +kernel
theorem dX9_feed_10 : decode cX9_feed 10 = .ok (.ireturn, 1) := by decide +kernel
theorem dX9_feed_11 : decode cX9_feed 11 = .ok (.iload_n 1, 1) := by decide +kernel
theorem dX9_feed_12 : decode cX9_feed 12 = .ok (.sipush 255, 3) := by decide +kernel
theorem dX9_feed_15 : decode cX9_feed 15 = .ok (.if_icmp .gt 13, 3) := by decide +kernel
theorem dX9_feed_18 : decode cX9_feed 18 = .ok (.aload_n 0, 1) := by decide +kernel
theorem dX9_feed_19 : decode cX9_feed 19 = .ok (.getfield 10, 3) := by decide +kernel
theorem dX9_feed_22 : decode cX9_feed 22 = .ok (.invokevirtual 76, 3) := by decide +kernel
theorem dX9_feed_25 : decode cX9_feed 25 = .ok (.ifCond .eq 10, 3) := by decide +kernel
theorem dX9_feed_28 : decode cX9_feed 28 = .ok (.aload_n 0, 1) := by decide +kernel
theorem dX9_feed_29 : decode cX9_feed 29 = .ok (.bipush (-6), 2) := by decide +kernel
theorem dX9_feed_31 : decode cX9_feed 31 = .ok (.invokevirtual 72, 3) := by decide +kernel
theorem dX9_feed_34 : decode cX9_feed 34 = .ok (.ireturn, 1) := by decide +kernel
theorem dX9_feed_35 : decode cX9_feed 35 = .ok (.aload_n 0, 1) := by decide +kernel
theorem dX9_feed_36 : decode cX9_feed 36 = .ok (.getfield 10, 3) := by decide +kernel
theorem dX9_feed_39 : decode cX9_feed 39 = .ok (.iload_n 1, 1) := by decide +kernel
theorem dX9_feed_40 : decode cX9_feed 40 = .ok (.invokevirtual 80, 3) := by decide +kernel
theorem dX9_feed_43 : decode cX9_feed 43 = .ok (.ireturn, 1) := by decide +kernel
theorem dX9_village_0 : decode cX9_village 0 = .ok (.aload_n 0, 1) := by decide +kernel
theorem dX9_village_1 : decode cX9_village 1 = .ok (.getfield 23, 3) := by decide +kernel
theorem dX9_village_4 : decode cX9_village 4 = .ok (.aload_n 0, 1) := by decide +kernel
theorem dX9_village_5 : decode cX9_village 5 = .ok (.getfield 19, 3) := by decide +kernel
theorem dX9_village_8 : decode cX9_village 8 = .ok (.invokevirtual 83, 3) := by decide +kernel
theorem dX9_village_11 : decode cX9_village 11 = .ok (.aload_n 0, 1) := by decide +kernel
theorem dX9_village_12 : decode cX9_village 12 = .ok (.getfield 10, 3) := by decide +kernel
theorem dX9_village_15 : decode cX9_village 15 = .ok (.aload_n 0, 1) := by decide +kernel
theorem dX9_village_16 : decode cX9_village 16 = .ok (.getfield 23, 3) := by decide +kernel
theorem dX9_village_19 : decode cX9_village 19 = .ok (.invokevirtual 87, 3) := by decide +kernel
theorem dX9_village_22 : decode cX9_village 22 = .ok (.istore_n 1, 1) := by decide +kernel
theorem dX9_village_23 : decode cX9_village 23 = .ok (.aload_n 0, 1) := by decide +kernel
theorem dX9_village_24 : decode cX9_village 24 = .ok (.getfield 10, 3) := by decide +kernel
theorem dX9_village_27 : decode cX9_village 27 = .ok (.invokevirtual 91, 3) := by decide +kernel
theorem dX9_village_30 : decode cX9_village 30 = .ok (.iload_n 1, 1) := by decide +kernel
theorem dX9_village_31 : decode cX9_village 31 = .ok (.ifCond .le 21, 3) := by decide +kernel
theorem dX9_village_34 : decode cX9_village 34 = .ok (.aload_n 0, 1) := by decide +kernel
theorem dX9_village_35 : decode cX9_village 35 = .ok (.getfield 19, 3) := by decide +kernel
theorem dX9_village_38 : decode cX9_village 38 = .ok (.aload_n 0, 1) := by decide +kernel
theorem dX9_village_39 : decode cX9_village 39 = .ok (.getfield 23, 3) := by decide +kernel
theorem dX9_village_42 : decode cX9_village 42 = .ok (.invokevirtual 83, 3) := by decide +kernel
theorem dX9_village_45 : decode cX9_village 45 = .ok (.aload_n 0, 1) := by decide +kernel
theorem dX9_village_46 : decode cX9_village 46 = .ok (.getfield 50, 3) := by decide +kernel
theorem dX9_village_49 : decode cX9_village 49 = .ok (.invokevirtual 94, 3) := by decide +kernel
theorem dX9_village_52 : decode cX9_village 52 = .ok (.iload_n 1, 1) := by decide +kernel
theorem dX9_village_53 : decode cX9_village 53 = .ok (.ireturn, 1) := by decide +kernel
theorem dX9_person_0 : decode cX9_person 0 = .ok (.aload_n 0, 1) := by decide +kernel
theorem dX9_person_1 : decode cX9_person 1 = .ok (.getfield 19, 3) := by decide +kernel
theorem dX9_person_4 : decode cX9_person 4 = .ok (.iload_n 1, 1) := by decide +kernel
theorem dX9_person_5 : decode cX9_person 5 = .ok (.invokevirtual 97, 3) := by decide +kernel
theorem dX9_person_8 : decode cX9_person 8 = .ok (.ifCond .ne 9, 3) := by decide +kernel
theorem dX9_person_11 : decode cX9_person 11 = .ok (.aload_n 0, 1) := by decide +kernel
theorem dX9_person_12 : decode cX9_person 12 = .ok (.iconst (-1), 1) := by decide +kernel
theorem dX9_person_13 : decode cX9_person 13 = .ok (.invokevirtual 72, 3) := by decide +kernel
theorem dX9_person_16 : decode cX9_person 16 = .ok (.ireturn, 1) := by decide +kernel
theorem dX9_person_17 : decode cX9_person 17 = .ok (.iload_n 2, 1) := by decide +kernel
theorem dX9_person_18 : decode cX9_person 18 = .ok (.tableswitch 84 0 5 #[38, 38, 38, 53, 66, 75], 38) := by decide +kernel
theorem dX9_person_56 : decode cX9_person 56 = .ok (.aload_n 0, 1) := by decide +kernel
theorem dX9_person_57 : decode cX9_person 57 = .ok (.getfield 19, 3) := by decide +kernel
theorem dX9_person_60 : decode cX9_person 60 = .ok (.getfield 101, 3) := by decide +kernel
theorem dX9_person_63 : decode cX9_person 63 = .ok (.iload_n 1, 1) := by decide +kernel
theorem dX9_person_64 : decode cX9_person 64 = .ok (.aaload, 1) := by decide +kernel
theorem dX9_person_65 : decode cX9_person 65 = .ok (.getfield 105, 3) := by decide +kernel
theorem dX9_person_68 : decode cX9_person 68 = .ok (.iload_n 2, 1) := by decide +kernel
theorem dX9_person_69 : decode cX9_person 69 = .ok (.iaload, 1) := by decide +kernel
theorem dX9_person_70 : decode cX9_person 70 = .ok (.ireturn, 1) := by decide +kernel
theorem dX9_person_71 : decode cX9_person 71 = .ok (.aload_n 0, 1) := by decide +kernel
theorem dX9_person_72 : decode cX9_person 72 = .ok (.getfield 19, 3) := by decide +kernel
theorem dX9_person_75 : decode cX9_person 75 = .ok (.getfield 101, 3) := by decide +kernel
theorem dX9_person_78 : decode cX9_person 78 = .ok (.iload_n 1, 1) := by decide +kernel
theorem dX9_person_79 : decode cX9_person 79 = .ok (.aaload, 1) := by decide +kernel
theorem dX9_person_80 : decode cX9_person 80 = .ok (.getfield 110, 3) := by decide +kernel
theorem dX9_person_83 : decode cX9_person 83 = .ok (.ireturn, 1) := by decide +kernel
theorem dX9_person_84 : decode cX9_person 84 = .ok (.aload_n 0, 1) := by decide +kernel
theorem dX9_person_85 : decode cX9_person 85 = .ok (.getfield 19, 3) := by decide +kernel
theorem dX9_person_88 : decode cX9_person 88 = .ok (.iload_n 1, 1) := by decide +kernel
theorem dX9_person_89 : decode cX9_person 89 = .ok (.invokevirtual 113, 3) := by decide +kernel
theorem dX9_person_92 : decode cX9_person 92 = .ok (.ireturn, 1) := by decide +kernel
theorem dX9_person_93 : decode cX9_person 93 = .ok (.aload_n 0, 1) := by decide +kernel
theorem dX9_person_94 : decode cX9_person 94 = .ok (.getfield 19, 3) := by decide +kernel
theorem dX9_person_97 : decode cX9_person 97 = .ok (.iload_n 1, 1) := by decide +kernel
theorem dX9_person_98 : decode cX9_person 98 = .ok (.invokevirtual 116, 3) := by decide +kernel
theorem dX9_person_101 : decode cX9_person 101 = .ok (.ireturn, 1) := by decide +kernel
theorem dX9_person_102 : decode cX9_person 102 = .ok (.aload_n 0, 1) := by decide +kernel
theorem dX9_person_103 : decode cX9_person 103 = .ok (.bipush (-2), 2) := by decide +kernel
theorem dX9_person_105 : decode cX9_person 105 = .ok (.invokevirtual 72, 3) := by decide +kernel
theorem dX9_person_108 : decode cX9_person 108 = .ok (.ireturn, 1) := by decide +kernel
theorem dX9_work_0 : decode cX9_work 0 = .ok (.aload_n 0, 1) := by decide +kernel
theorem dX9_work_1 : decode cX9_work 1 = .ok (.getfield 19, 3) := by decide +kernel
theorem dX9_work_4 : decode cX9_work 4 = .ok (.iload_n 1, 1) := by decide +kernel
theorem dX9_work_5 : decode cX9_work 5 = .ok (.invokevirtual 119, 3) := by decide +kernel
theorem dX9_work_8 : decode cX9_work 8 = .ok (.ifCond .ne 9, 3) := by decide +kernel
theorem dX9_work_11 : decode cX9_work 11 = .ok (.aload_n 0, 1) := by decide +kernel
theorem dX9_work_12 : decode cX9_work 12 = .ok (.iconst (-1), 1) := by decide +kernel
theorem dX9_work_13 : decode cX9_work 13 = .ok (.invokevirtual 72, 3) := by decide +kernel
theorem dX9_work_16 : decode cX9_work 16 = .ok (.ireturn, 1) := by decide +kernel
theorem dX9_work_17 : decode cX9_work 17 = .ok (.aload_n 0, 1) := by decide +kernel
theorem dX9_work_18 : decode cX9_work 18 = .ok (.getfield 19, 3) := by decide +kernel
theorem dX9_work_21 : decode cX9_work 21 = .ok (.getfield 122, 3) := by decide +kernel
theorem dX9_work_24 : decode cX9_work 24 = .ok (.iload_n 1, 1) := by decide +kernel
theorem dX9_work_25 : decode cX9_work 25 = .ok (.aaload, 1) := by decide +kernel
theorem dX9_work_26 : decode cX9_work 26 = .ok (.astore_n 3, 1) := by decide +kernel
theorem dX9_work_27 : decode cX9_work 27 = .ok (.iload_n 2, 1) := by decide +kernel
theorem dX9_work_28 : decode cX9_work 28 = .ok (.tableswitch 64 0 5 #[40, 45, 50, 50, 50, 59], 40) := by decide +kernel
theorem dX9_work_68 : decode cX9_work 68 = .ok (.aload_n 3, 1) := by decide +kernel
theorem dX9_work_69 : decode cX9_work 69 = .ok (.getfield 126, 3) := by decide +kernel
theorem dX9_work_72 : decode cX9_work 72 = .ok (.ireturn, 1) := by decide +kernel
theorem dX9_work_73 : decode cX9_work 73 = .ok (.aload_n 3, 1) := by decide +kernel
theorem dX9_work_74 : decode cX9_work 74 = .ok (.getfield 131, 3) := by decide +kernel
theorem dX9_work_77 : decode cX9_work 77 = .ok (.ireturn, 1) := by decide +kernel
theorem dX9_work_78 : decode cX9_work 78 = .ok (.aload_n 3, 1) := by decide +kernel
theorem dX9_work_79 : decode cX9_work 79 = .ok (.getfield 134, 3) := by decide +kernel
theorem dX9_work_82 : decode cX9_work 82 = .ok (.iload_n 2, 1) := by decide +kernel
theorem dX9_work_83 : decode cX9_work 83 = .ok (.iconst 2, 1) := by decide +kernel
theorem dX9_work_84 : decode cX9_work 84 = .ok (.isub, 1) := by decide +kernel
theorem dX9_work_85 : decode cX9_work 85 = .ok (.iaload, 1) := by decide +kernel
theorem dX9_work_86 : decode cX9_work 86 = .ok (.ireturn, 1) := by decide +kernel
theorem dX9_work_87 : decode cX9_work 87 = .ok (.aload_n 3, 1) := by decide +kernel
theorem dX9_work_88 : decode cX9_work 88 = .ok (.getfield 137, 3) := by decide +kernel
theorem dX9_work_91 : decode cX9_work 91 = .ok (.ireturn, 1) := by decide +kernel
theorem dX9_work_92 : decode cX9_work 92 = .ok (.aload_n 0, 1) := by decide +kernel
theorem dX9_work_93 : decode cX9_work 93 = .ok (.bipush (-2), 2) := by decide +kernel
theorem dX9_work_95 : decode cX9_work 95 = .ok (.invokevirtual 72, 3) := by decide +kernel
theorem dX9_work_98 : decode cX9_work 98 = .ok (.ireturn, 1) := by decide +kernel
theorem dX9_minutes_0 : decode cX9_minutes 0 = .ok (.aload_n 0, 1) := by decide +kernel
theorem dX9_minutes_1 : decode cX9_minutes 1 = .ok (.getfield 19, 3) := by decide +kernel
theorem dX9_minutes_4 : decode cX9_minutes 4 = .ok (.iload_n 1, 1) := by decide +kernel
theorem dX9_minutes_5 : decode cX9_minutes 5 = .ok (.invokevirtual 140, 3) := by decide +kernel
theorem dX9_minutes_8 : decode cX9_minutes 8 = .ok (.ifCond .eq 14, 3) := by decide +kernel
theorem dX9_minutes_11 : decode cX9_minutes 11 = .ok (.aload_n 0, 1) := by decide +kernel
theorem dX9_minutes_12 : decode cX9_minutes 12 = .ok (.getfield 19, 3) := by decide +kernel
theorem dX9_minutes_15 : decode cX9_minutes 15 = .ok (.iload_n 2, 1) := by decide +kernel
theorem dX9_minutes_16 : decode cX9_minutes 16 = .ok (.invokevirtual 140, 3) := by decide +kernel
theorem dX9_minutes_19 : decode cX9_minutes 19 = .ok (.ifCond .ne 9, 3) := by decide +kernel
theorem dX9_minutes_22 : decode cX9_minutes 22 = .ok (.aload_n 0, 1) := by decide +kernel
theorem dX9_minutes_23 : decode cX9_minutes 23 = .ok (.iconst (-1), 1) := by decide +kernel
theorem dX9_minutes_24 : decode cX9_minutes 24 = .ok (.invokevirtual 72, 3) := by decide +kernel
theorem dX9_minutes_27 : decode cX9_minutes 27 = .ok (.ireturn, 1) := by decide +kernel
theorem dX9_minutes_28 : decode cX9_minutes 28 = .ok (.aload_n 0, 1) := by decide +kernel
theorem dX9_minutes_29 : decode cX9_minutes 29 = .ok (.getfield 19, 3) := by decide +kernel
theorem dX9_minutes_32 : decode cX9_minutes 32 = .ok (.invokevirtual 143, 3) := by decide +kernel
theorem dX9_minutes_35 : decode cX9_minutes 35 = .ok (.aload_n 0, 1) := by decide +kernel
theorem dX9_minutes_36 : decode cX9_minutes 36 = .ok (.getfield 19, 3) := by decide +kernel
theorem dX9_minutes_39 : decode cX9_minutes 39 = .ok (.getfield 146, 3) := by decide +kernel
theorem dX9_minutes_42 : decode cX9_minutes 42 = .ok (.iload_n 1, 1) := by decide +kernel
theorem dX9_minutes_43 : decode cX9_minutes 43 = .ok (.aaload, 1) := by decide +kernel
theorem dX9_minutes_44 : decode cX9_minutes 44 = .ok (.iload_n 2, 1) := by decide +kernel
theorem dX9_minutes_45 : decode cX9_minutes 45 = .ok (.iaload, 1) := by decide +kernel
theorem dX9_minutes_46 : decode cX9_minutes 46 = .ok (.ireturn, 1) := by decide +kernel
theorem dX9_partOf_0 : decode cX9_partOf 0 = .ok (.aload_n 0, 1) := by decide +kernel
theorem dX9_partOf_1 : decode cX9_partOf 1 = .ok (.getfield 19, 3) := by decide +kernel
theorem dX9_partOf_4 : decode cX9_partOf 4 = .ok (.iload_n 1, 1) := by decide +kernel
theorem dX9_partOf_5 : decode cX9_partOf 5 = .ok (.invokevirtual 150, 3) := by decide +kernel
theorem dX9_partOf_8 : decode cX9_partOf 8 = .ok (.ifCond .ne 9, 3) := by decide +kernel
theorem dX9_partOf_11 : decode cX9_partOf 11 = .ok (.aload_n 0, 1) := by decide +kernel
theorem dX9_partOf_12 : decode cX9_partOf 12 = .ok (.iconst (-1), 1) := by decide +kernel
theorem dX9_partOf_13 : decode cX9_partOf 13 = .ok (.invokevirtual 72, 3) := by decide +kernel
theorem dX9_partOf_16 : decode cX9_partOf 16 = .ok (.ireturn, 1) := by decide +kernel
theorem dX9_partOf_17 : decode cX9_partOf 17 = .ok (.aload_n 0, 1) := by decide +kernel
theorem dX9_partOf_18 : decode cX9_partOf 18 = .ok (.getfield 19, 3) := by decide +kernel
theorem dX9_partOf_21 : decode cX9_partOf 21 = .ok (.getfield 153, 3) := by decide +kernel
theorem dX9_partOf_24 : decode cX9_partOf 24 = .ok (.iload_n 1, 1) := by decide +kernel
theorem dX9_partOf_25 : decode cX9_partOf 25 = .ok (.aaload, 1) := by decide +kernel
theorem dX9_partOf_26 : decode cX9_partOf 26 = .ok (.astore_n 3, 1) := by decide +kernel
theorem dX9_partOf_27 : decode cX9_partOf 27 = .ok (.iload_n 2, 1) := by decide +kernel
theorem dX9_partOf_28 : decode cX9_partOf 28 = .ok (.tableswitch 79 0 6 #[44, 49, 54, 59, 64, 69, 74], 44) := by decide +kernel
theorem dX9_partOf_72 : decode cX9_partOf 72 = .ok (.aload_n 3, 1) := by decide +kernel
theorem dX9_partOf_73 : decode cX9_partOf 73 = .ok (.getfield 157, 3) := by decide +kernel
theorem dX9_partOf_76 : decode cX9_partOf 76 = .ok (.ireturn, 1) := by decide +kernel
theorem dX9_partOf_77 : decode cX9_partOf 77 = .ok (.aload_n 3, 1) := by decide +kernel
theorem dX9_partOf_78 : decode cX9_partOf 78 = .ok (.getfield 162, 3) := by decide +kernel
theorem dX9_partOf_81 : decode cX9_partOf 81 = .ok (.ireturn, 1) := by decide +kernel
theorem dX9_partOf_82 : decode cX9_partOf 82 = .ok (.aload_n 3, 1) := by decide +kernel
theorem dX9_partOf_83 : decode cX9_partOf 83 = .ok (.getfield 165, 3) := by decide +kernel
theorem dX9_partOf_86 : decode cX9_partOf 86 = .ok (.ireturn, 1) := by decide +kernel
theorem dX9_partOf_87 : decode cX9_partOf 87 = .ok (.aload_n 3, 1) := by decide +kernel
theorem dX9_partOf_88 : decode cX9_partOf 88 = .ok (.getfield 166, 3) := by decide +kernel
theorem dX9_partOf_91 : decode cX9_partOf 91 = .ok (.ireturn, 1) := by decide +kernel
theorem dX9_partOf_92 : decode cX9_partOf 92 = .ok (.aload_n 3, 1) := by decide +kernel
theorem dX9_partOf_93 : decode cX9_partOf 93 = .ok (.getfield 169, 3) := by decide +kernel
theorem dX9_partOf_96 : decode cX9_partOf 96 = .ok (.ireturn, 1) := by decide +kernel
theorem dX9_partOf_97 : decode cX9_partOf 97 = .ok (.aload_n 3, 1) := by decide +kernel
theorem dX9_partOf_98 : decode cX9_partOf 98 = .ok (.getfield 172, 3) := by decide +kernel
theorem dX9_partOf_101 : decode cX9_partOf 101 = .ok (.ireturn, 1) := by decide +kernel
theorem dX9_partOf_102 : decode cX9_partOf 102 = .ok (.aload_n 3, 1) := by decide +kernel
theorem dX9_partOf_103 : decode cX9_partOf 103 = .ok (.getfield 175, 3) := by decide +kernel
theorem dX9_partOf_106 : decode cX9_partOf 106 = .ok (.ireturn, 1) := by decide +kernel
theorem dX9_partOf_107 : decode cX9_partOf 107 = .ok (.aload_n 0, 1) := by decide +kernel
theorem dX9_partOf_108 : decode cX9_partOf 108 = .ok (.bipush (-2), 2) := by decide +kernel
theorem dX9_partOf_110 : decode cX9_partOf 110 = .ok (.invokevirtual 72, 3) := by decide +kernel
theorem dX9_partOf_113 : decode cX9_partOf 113 = .ok (.ireturn, 1) := by decide +kernel
theorem dX9_split_0 : decode cX9_split 0 = .ok (.aload_n 0, 1) := by decide +kernel
theorem dX9_split_1 : decode cX9_split 1 = .ok (.getfield 19, 3) := by decide +kernel
theorem dX9_split_4 : decode cX9_split 4 = .ok (.iload_n 1, 1) := by decide +kernel
theorem dX9_split_5 : decode cX9_split 5 = .ok (.invokevirtual 150, 3) := by decide +kernel
theorem dX9_split_8 : decode cX9_split 8 = .ok (.ifCond .ne 9, 3) := by decide +kernel
theorem dX9_split_11 : decode cX9_split 11 = .ok (.aload_n 0, 1) := by decide +kernel
theorem dX9_split_12 : decode cX9_split 12 = .ok (.iconst (-1), 1) := by decide +kernel
theorem dX9_split_13 : decode cX9_split 13 = .ok (.invokevirtual 72, 3) := by decide +kernel
theorem dX9_split_16 : decode cX9_split 16 = .ok (.ireturn, 1) := by decide +kernel
theorem dX9_split_17 : decode cX9_split 17 = .ok (.aload_n 0, 1) := by decide +kernel
theorem dX9_split_18 : decode cX9_split 18 = .ok (.getfield 19, 3) := by decide +kernel
theorem dX9_split_21 : decode cX9_split 21 = .ok (.getfield 153, 3) := by decide +kernel
theorem dX9_split_24 : decode cX9_split 24 = .ok (.iload_n 1, 1) := by decide +kernel
theorem dX9_split_25 : decode cX9_split 25 = .ok (.aaload, 1) := by decide +kernel
theorem dX9_split_26 : decode cX9_split 26 = .ok (.astore_n 3, 1) := by decide +kernel
theorem dX9_split_27 : decode cX9_split 27 = .ok (.aload_n 0, 1) := by decide +kernel
theorem dX9_split_28 : decode cX9_split 28 = .ok (.getfield 19, 3) := by decide +kernel
theorem dX9_split_31 : decode cX9_split 31 = .ok (.getfield 101, 3) := by decide +kernel
theorem dX9_split_34 : decode cX9_split 34 = .ok (.aload_n 3, 1) := by decide +kernel
theorem dX9_split_35 : decode cX9_split 35 = .ok (.getfield 157, 3) := by decide +kernel
theorem dX9_split_38 : decode cX9_split 38 = .ok (.aaload, 1) := by decide +kernel
theorem dX9_split_39 : decode cX9_split 39 = .ok (.getfield 110, 3) := by decide +kernel
theorem dX9_split_42 : decode cX9_split 42 = .ok (.istore 4, 2) := by decide +kernel
theorem dX9_split_44 : decode cX9_split 44 = .ok (.iload_n 2, 1) := by decide +kernel
theorem dX9_split_45 : decode cX9_split 45 = .ok (.iload 4, 2) := by decide +kernel
theorem dX9_split_47 : decode cX9_split 47 = .ok (.if_icmp .lt 14, 3) := by decide +kernel
theorem dX9_split_50 : decode cX9_split 50 = .ok (.iload_n 2, 1) := by decide +kernel
theorem dX9_split_51 : decode cX9_split 51 = .ok (.aload_n 3, 1) := by decide +kernel
theorem dX9_split_52 : decode cX9_split 52 = .ok (.getfield 162, 3) := by decide +kernel
theorem dX9_split_55 : decode cX9_split 55 = .ok (.iload 4, 2) := by decide +kernel
theorem dX9_split_57 : decode cX9_split 57 = .ok (.isub, 1) := by decide +kernel
theorem dX9_split_58 : decode cX9_split 58 = .ok (.if_icmp .le 10, 3) := by decide +kernel
theorem dX9_split_61 : decode cX9_split 61 = .ok (.aload_n 0, 1) := by decide +kernel
theorem dX9_split_62 : decode cX9_split 62 = .ok (.bipush (-3), 2) := by decide +kernel
theorem dX9_split_64 : decode cX9_split 64 = .ok (.invokevirtual 72, 3) := by decide +kernel
theorem dX9_split_67 : decode cX9_split 67 = .ok (.ireturn, 1) := by decide +kernel
theorem dX9_split_68 : decode cX9_split 68 = .ok (.aload_n 0, 1) := by decide +kernel
theorem dX9_split_69 : decode cX9_split 69 = .ok (.getfield 19, 3) := by decide +kernel
theorem dX9_split_72 : decode cX9_split 72 = .ok (.invokevirtual 178, 3) := by decide +kernel
theorem dX9_split_75 : decode cX9_split 75 = .ok (.istore 5, 2) := by decide +kernel
theorem dX9_split_77 : decode cX9_split 77 = .ok (.iload 5, 2) := by decide +kernel
theorem dX9_split_79 : decode cX9_split 79 = .ok (.ifCond .ge 10, 3) := by decide +kernel
theorem dX9_split_82 : decode cX9_split 82 = .ok (.aload_n 0, 1) := by decide +kernel
theorem dX9_split_83 : decode cX9_split 83 = .ok (.bipush (-6), 2) := by decide +kernel
theorem dX9_split_85 : decode cX9_split 85 = .ok (.invokevirtual 72, 3) := by decide +kernel
theorem dX9_split_88 : decode cX9_split 88 = .ok (.ireturn, 1) := by decide +kernel
theorem dX9_split_89 : decode cX9_split 89 = .ok (.aload_n 0, 1) := by decide +kernel
theorem dX9_split_90 : decode cX9_split 90 = .ok (.getfield 19, 3) := by decide +kernel
theorem dX9_split_93 : decode cX9_split 93 = .ok (.getfield 153, 3) := by decide +kernel
theorem dX9_split_96 : decode cX9_split 96 = .ok (.iload 5, 2) := by decide +kernel
theorem dX9_split_98 : decode cX9_split 98 = .ok (.aaload, 1) := by decide +kernel
theorem dX9_split_99 : decode cX9_split 99 = .ok (.astore 6, 2) := by decide +kernel
theorem dX9_split_101 : decode cX9_split 101 = .ok (.aload 6, 2) := by decide +kernel
theorem dX9_split_103 : decode cX9_split 103 = .ok (.aload_n 3, 1) := by decide +kernel
theorem dX9_split_104 : decode cX9_split 104 = .ok (.invokevirtual 182, 3) := by decide +kernel
theorem dX9_split_107 : decode cX9_split 107 = .ok (.aload 6, 2) := by decide +kernel
theorem dX9_split_109 : decode cX9_split 109 = .ok (.iload_n 2, 1) := by decide +kernel
theorem dX9_split_110 : decode cX9_split 110 = .ok (.putfield 162, 3) := by decide +kernel
theorem dX9_split_113 : decode cX9_split 113 = .ok (.aload 6, 2) := by decide +kernel
theorem dX9_split_115 : decode cX9_split 115 = .ok (.bipush (-9), 2) := by decide +kernel
theorem dX9_split_117 : decode cX9_split 117 = .ok (.putfield 166, 3) := by decide +kernel
theorem dX9_split_120 : decode cX9_split 120 = .ok (.aload_n 3, 1) := by decide +kernel
theorem dX9_split_121 : decode cX9_split 121 = .ok (.dup, 1) := by decide +kernel
theorem dX9_split_122 : decode cX9_split 122 = .ok (.getfield 162, 3) := by decide +kernel
theorem dX9_split_125 : decode cX9_split 125 = .ok (.iload_n 2, 1) := by decide +kernel
theorem dX9_split_126 : decode cX9_split 126 = .ok (.isub, 1) := by decide +kernel
theorem dX9_split_127 : decode cX9_split 127 = .ok (.putfield 162, 3) := by decide +kernel
theorem dX9_split_130 : decode cX9_split 130 = .ok (.iload 5, 2) := by decide +kernel
theorem dX9_split_132 : decode cX9_split 132 = .ok (.ireturn, 1) := by decide +kernel
theorem dX9_go_0 : decode cX9_go 0 = .ok (.aload_n 0, 1) := by decide +kernel
theorem dX9_go_1 : decode cX9_go 1 = .ok (.getfield 19, 3) := by decide +kernel
theorem dX9_go_4 : decode cX9_go 4 = .ok (.iload_n 1, 1) := by decide +kernel
theorem dX9_go_5 : decode cX9_go 5 = .ok (.invokevirtual 150, 3) := by decide +kernel
theorem dX9_go_8 : decode cX9_go 8 = .ok (.ifCond .eq 14, 3) := by decide +kernel
theorem dX9_go_11 : decode cX9_go 11 = .ok (.aload_n 0, 1) := by decide +kernel
theorem dX9_go_12 : decode cX9_go 12 = .ok (.getfield 19, 3) := by decide +kernel
theorem dX9_go_15 : decode cX9_go 15 = .ok (.iload_n 2, 1) := by decide +kernel
theorem dX9_go_16 : decode cX9_go 16 = .ok (.invokevirtual 140, 3) := by decide +kernel
theorem dX9_go_19 : decode cX9_go 19 = .ok (.ifCond .ne 9, 3) := by decide +kernel
theorem dX9_go_22 : decode cX9_go 22 = .ok (.aload_n 0, 1) := by decide +kernel
theorem dX9_go_23 : decode cX9_go 23 = .ok (.iconst (-1), 1) := by decide +kernel
theorem dX9_go_24 : decode cX9_go 24 = .ok (.invokevirtual 72, 3) := by decide +kernel
theorem dX9_go_27 : decode cX9_go 27 = .ok (.ireturn, 1) := by decide +kernel
theorem dX9_go_28 : decode cX9_go 28 = .ok (.aload_n 0, 1) := by decide +kernel
theorem dX9_go_29 : decode cX9_go 29 = .ok (.getfield 19, 3) := by decide +kernel
theorem dX9_go_32 : decode cX9_go 32 = .ok (.getfield 153, 3) := by decide +kernel
theorem dX9_go_35 : decode cX9_go 35 = .ok (.iload_n 1, 1) := by decide +kernel
theorem dX9_go_36 : decode cX9_go 36 = .ok (.aaload, 1) := by decide +kernel
theorem dX9_go_37 : decode cX9_go 37 = .ok (.astore_n 3, 1) := by decide +kernel
theorem dX9_go_38 : decode cX9_go 38 = .ok (.aload_n 0, 1) := by decide +kernel
theorem dX9_go_39 : decode cX9_go 39 = .ok (.getfield 19, 3) := by decide +kernel
theorem dX9_go_42 : decode cX9_go 42 = .ok (.invokevirtual 143, 3) := by decide +kernel
theorem dX9_go_45 : decode cX9_go 45 = .ok (.aload_n 0, 1) := by decide +kernel
theorem dX9_go_46 : decode cX9_go 46 = .ok (.getfield 19, 3) := by decide +kernel
theorem dX9_go_49 : decode cX9_go 49 = .ok (.getfield 146, 3) := by decide +kernel
theorem dX9_go_52 : decode cX9_go 52 = .ok (.aload_n 3, 1) := by decide +kernel
theorem dX9_go_53 : decode cX9_go 53 = .ok (.getfield 165, 3) := by decide +kernel
theorem dX9_go_56 : decode cX9_go 56 = .ok (.aaload, 1) := by decide +kernel
theorem dX9_go_57 : decode cX9_go 57 = .ok (.iload_n 2, 1) := by decide +kernel
theorem dX9_go_58 : decode cX9_go 58 = .ok (.iaload, 1) := by decide +kernel
theorem dX9_go_59 : decode cX9_go 59 = .ok (.istore 4, 2) := by decide +kernel
theorem dX9_go_61 : decode cX9_go 61 = .ok (.iload 4, 2) := by decide +kernel
theorem dX9_go_63 : decode cX9_go 63 = .ok (.ifCond .ge 10, 3) := by decide +kernel
theorem dX9_go_66 : decode cX9_go 66 = .ok (.aload_n 0, 1) := by decide +kernel
theorem dX9_go_67 : decode cX9_go 67 = .ok (.bipush (-3), 2) := by decide +kernel
theorem dX9_go_69 : decode cX9_go 69 = .ok (.invokevirtual 72, 3) := by decide +kernel
theorem dX9_go_72 : decode cX9_go 72 = .ok (.ireturn, 1) := by decide +kernel
theorem dX9_go_73 : decode cX9_go 73 = .ok (.aload_n 3, 1) := by decide +kernel
theorem dX9_go_74 : decode cX9_go 74 = .ok (.iload_n 2, 1) := by decide +kernel
theorem dX9_go_75 : decode cX9_go 75 = .ok (.putfield 165, 3) := by decide +kernel
theorem dX9_go_78 : decode cX9_go 78 = .ok (.aload_n 3, 1) := by decide +kernel
theorem dX9_go_79 : decode cX9_go 79 = .ok (.dup, 1) := by decide +kernel
theorem dX9_go_80 : decode cX9_go 80 = .ok (.getfield 169, 3) := by decide +kernel
theorem dX9_go_83 : decode cX9_go 83 = .ok (.iload 4, 2) := by decide +kernel
theorem dX9_go_85 : decode cX9_go 85 = .ok (.iadd, 1) := by decide +kernel
theorem dX9_go_86 : decode cX9_go 86 = .ok (.putfield 169, 3) := by decide +kernel
theorem dX9_go_89 : decode cX9_go 89 = .ok (.aload_n 3, 1) := by decide +kernel
theorem dX9_go_90 : decode cX9_go 90 = .ok (.bipush (-9), 2) := by decide +kernel
theorem dX9_go_92 : decode cX9_go 92 = .ok (.putfield 166, 3) := by decide +kernel
theorem dX9_go_95 : decode cX9_go 95 = .ok (.aload_n 3, 1) := by decide +kernel
theorem dX9_go_96 : decode cX9_go 96 = .ok (.getfield 169, 3) := by decide +kernel
theorem dX9_go_99 : decode cX9_go 99 = .ok (.ireturn, 1) := by decide +kernel
theorem dX9_see_0 : decode cX9_see 0 = .ok (.aload_n 0, 1) := by decide +kernel
theorem dX9_see_1 : decode cX9_see 1 = .ok (.getfield 19, 3) := by decide +kernel
theorem dX9_see_4 : decode cX9_see 4 = .ok (.iload_n 1, 1) := by decide +kernel
theorem dX9_see_5 : decode cX9_see 5 = .ok (.invokevirtual 150, 3) := by decide +kernel
theorem dX9_see_8 : decode cX9_see 8 = .ok (.ifCond .ne 9, 3) := by decide +kernel
theorem dX9_see_11 : decode cX9_see 11 = .ok (.aload_n 0, 1) := by decide +kernel
theorem dX9_see_12 : decode cX9_see 12 = .ok (.iconst (-1), 1) := by decide +kernel
theorem dX9_see_13 : decode cX9_see 13 = .ok (.invokevirtual 72, 3) := by decide +kernel
theorem dX9_see_16 : decode cX9_see 16 = .ok (.ireturn, 1) := by decide +kernel
theorem dX9_see_17 : decode cX9_see 17 = .ok (.aload_n 0, 1) := by decide +kernel
theorem dX9_see_18 : decode cX9_see 18 = .ok (.getfield 19, 3) := by decide +kernel
theorem dX9_see_21 : decode cX9_see 21 = .ok (.getfield 153, 3) := by decide +kernel
theorem dX9_see_24 : decode cX9_see 24 = .ok (.iload_n 1, 1) := by decide +kernel
theorem dX9_see_25 : decode cX9_see 25 = .ok (.aaload, 1) := by decide +kernel
theorem dX9_see_26 : decode cX9_see 26 = .ok (.astore_n 2, 1) := by decide +kernel
theorem dX9_see_27 : decode cX9_see 27 = .ok (.aload_n 2, 1) := by decide +kernel
theorem dX9_see_28 : decode cX9_see 28 = .ok (.dup, 1) := by decide +kernel
theorem dX9_see_29 : decode cX9_see 29 = .ok (.getfield 175, 3) := by decide +kernel
theorem dX9_see_32 : decode cX9_see 32 = .ok (.iconst 1, 1) := by decide +kernel
theorem dX9_see_33 : decode cX9_see 33 = .ok (.aload_n 2, 1) := by decide +kernel
theorem dX9_see_34 : decode cX9_see 34 = .ok (.getfield 165, 3) := by decide +kernel
theorem dX9_see_37 : decode cX9_see 37 = .ok (.ishl, 1) := by decide +kernel
theorem dX9_see_38 : decode cX9_see 38 = .ok (.ior, 1) := by decide +kernel
theorem dX9_see_39 : decode cX9_see 39 = .ok (.putfield 175, 3) := by decide +kernel
theorem dX9_see_42 : decode cX9_see 42 = .ok (.aload_n 2, 1) := by decide +kernel
theorem dX9_see_43 : decode cX9_see 43 = .ok (.getfield 175, 3) := by decide +kernel
theorem dX9_see_46 : decode cX9_see 46 = .ok (.invokestatic 185, 3) := by decide +kernel
theorem dX9_see_49 : decode cX9_see 49 = .ok (.ireturn, 1) := by decide +kernel
theorem dX9_join_0 : decode cX9_join 0 = .ok (.aload_n 0, 1) := by decide +kernel
theorem dX9_join_1 : decode cX9_join 1 = .ok (.getfield 19, 3) := by decide +kernel
theorem dX9_join_4 : decode cX9_join 4 = .ok (.iload_n 1, 1) := by decide +kernel
theorem dX9_join_5 : decode cX9_join 5 = .ok (.invokevirtual 150, 3) := by decide +kernel
theorem dX9_join_8 : decode cX9_join 8 = .ok (.ifCond .eq 19, 3) := by decide +kernel
theorem dX9_join_11 : decode cX9_join 11 = .ok (.aload_n 0, 1) := by decide +kernel
theorem dX9_join_12 : decode cX9_join 12 = .ok (.getfield 19, 3) := by decide +kernel
theorem dX9_join_15 : decode cX9_join 15 = .ok (.iload_n 2, 1) := by decide +kernel
theorem dX9_join_16 : decode cX9_join 16 = .ok (.invokevirtual 150, 3) := by decide +kernel
theorem dX9_join_19 : decode cX9_join 19 = .ok (.ifCond .eq 8, 3) := by decide +kernel
theorem dX9_join_22 : decode cX9_join 22 = .ok (.iload_n 1, 1) := by decide +kernel
theorem dX9_join_23 : decode cX9_join 23 = .ok (.iload_n 2, 1) := by decide +kernel
theorem dX9_join_24 : decode cX9_join 24 = .ok (.if_icmp .ne 9, 3) := by decide +kernel
theorem dX9_join_27 : decode cX9_join 27 = .ok (.aload_n 0, 1) := by decide +kernel
theorem dX9_join_28 : decode cX9_join 28 = .ok (.iconst (-1), 1) := by decide +kernel
theorem dX9_join_29 : decode cX9_join 29 = .ok (.invokevirtual 72, 3) := by decide +kernel
theorem dX9_join_32 : decode cX9_join 32 = .ok (.ireturn, 1) := by decide +kernel
theorem dX9_join_33 : decode cX9_join 33 = .ok (.aload_n 0, 1) := by decide +kernel
theorem dX9_join_34 : decode cX9_join 34 = .ok (.getfield 19, 3) := by decide +kernel
theorem dX9_join_37 : decode cX9_join 37 = .ok (.getfield 153, 3) := by decide +kernel
theorem dX9_join_40 : decode cX9_join 40 = .ok (.iload_n 1, 1) := by decide +kernel
theorem dX9_join_41 : decode cX9_join 41 = .ok (.aaload, 1) := by decide +kernel
theorem dX9_join_42 : decode cX9_join 42 = .ok (.astore_n 3, 1) := by decide +kernel
theorem dX9_join_43 : decode cX9_join 43 = .ok (.aload_n 0, 1) := by decide +kernel
theorem dX9_join_44 : decode cX9_join 44 = .ok (.getfield 19, 3) := by decide +kernel
theorem dX9_join_47 : decode cX9_join 47 = .ok (.getfield 153, 3) := by decide +kernel
theorem dX9_join_50 : decode cX9_join 50 = .ok (.iload_n 2, 1) := by decide +kernel
theorem dX9_join_51 : decode cX9_join 51 = .ok (.aaload, 1) := by decide +kernel
theorem dX9_join_52 : decode cX9_join 52 = .ok (.astore 4, 2) := by decide +kernel
theorem dX9_join_54 : decode cX9_join 54 = .ok (.aload_n 3, 1) := by decide +kernel
theorem dX9_join_55 : decode cX9_join 55 = .ok (.getfield 157, 3) := by decide +kernel
theorem dX9_join_58 : decode cX9_join 58 = .ok (.aload 4, 2) := by decide +kernel
theorem dX9_join_60 : decode cX9_join 60 = .ok (.getfield 157, 3) := by decide +kernel
theorem dX9_join_63 : decode cX9_join 63 = .ok (.if_icmp .ne 15, 3) := by decide +kernel
theorem dX9_join_66 : decode cX9_join 66 = .ok (.aload_n 3, 1) := by decide +kernel
theorem dX9_join_67 : decode cX9_join 67 = .ok (.getfield 165, 3) := by decide +kernel
theorem dX9_join_70 : decode cX9_join 70 = .ok (.aload 4, 2) := by decide +kernel
theorem dX9_join_72 : decode cX9_join 72 = .ok (.getfield 165, 3) := by decide +kernel
theorem dX9_join_75 : decode cX9_join 75 = .ok (.if_icmp .eq 10, 3) := by decide +kernel
theorem dX9_join_78 : decode cX9_join 78 = .ok (.aload_n 0, 1) := by decide +kernel
theorem dX9_join_79 : decode cX9_join 79 = .ok (.bipush (-3), 2) := by decide +kernel
theorem dX9_join_81 : decode cX9_join 81 = .ok (.invokevirtual 72, 3) := by decide +kernel
theorem dX9_join_84 : decode cX9_join 84 = .ok (.ireturn, 1) := by decide +kernel
theorem dX9_join_85 : decode cX9_join 85 = .ok (.aload_n 3, 1) := by decide +kernel
theorem dX9_join_86 : decode cX9_join 86 = .ok (.dup, 1) := by decide +kernel
theorem dX9_join_87 : decode cX9_join 87 = .ok (.getfield 162, 3) := by decide +kernel
theorem dX9_join_90 : decode cX9_join 90 = .ok (.aload 4, 2) := by decide +kernel
theorem dX9_join_92 : decode cX9_join 92 = .ok (.getfield 162, 3) := by decide +kernel
theorem dX9_join_95 : decode cX9_join 95 = .ok (.iadd, 1) := by decide +kernel
theorem dX9_join_96 : decode cX9_join 96 = .ok (.putfield 162, 3) := by decide +kernel
theorem dX9_join_99 : decode cX9_join 99 = .ok (.aload_n 3, 1) := by decide +kernel
theorem dX9_join_100 : decode cX9_join 100 = .ok (.aload_n 3, 1) := by decide +kernel
theorem dX9_join_101 : decode cX9_join 101 = .ok (.getfield 169, 3) := by decide +kernel
theorem dX9_join_104 : decode cX9_join 104 = .ok (.aload 4, 2) := by decide +kernel
theorem dX9_join_106 : decode cX9_join 106 = .ok (.getfield 169, 3) := by decide +kernel
theorem dX9_join_109 : decode cX9_join 109 = .ok (.invokestatic 190, 3) := by decide +kernel
theorem dX9_join_112 : decode cX9_join 112 = .ok (.iconst 1, 1) := by decide +kernel
theorem dX9_join_113 : decode cX9_join 113 = .ok (.iadd, 1) := by decide +kernel
theorem dX9_join_114 : decode cX9_join 114 = .ok (.putfield 169, 3) := by decide +kernel
theorem dX9_join_117 : decode cX9_join 117 = .ok (.aload_n 3, 1) := by decide +kernel
theorem dX9_join_118 : decode cX9_join 118 = .ok (.aload_n 3, 1) := by decide +kernel
theorem dX9_join_119 : decode cX9_join 119 = .ok (.getfield 172, 3) := by decide +kernel
theorem dX9_join_122 : decode cX9_join 122 = .ok (.aload 4, 2) := by decide +kernel
theorem dX9_join_124 : decode cX9_join 124 = .ok (.getfield 172, 3) := by decide +kernel
theorem dX9_join_127 : decode cX9_join 127 = .ok (.invokestatic 190, 3) := by decide +kernel
theorem dX9_join_130 : decode cX9_join 130 = .ok (.putfield 172, 3) := by decide +kernel
theorem dX9_join_133 : decode cX9_join 133 = .ok (.aload_n 3, 1) := by decide +kernel
theorem dX9_join_134 : decode cX9_join 134 = .ok (.dup, 1) := by decide +kernel
theorem dX9_join_135 : decode cX9_join 135 = .ok (.getfield 175, 3) := by decide +kernel
theorem dX9_join_138 : decode cX9_join 138 = .ok (.aload 4, 2) := by decide +kernel
theorem dX9_join_140 : decode cX9_join 140 = .ok (.getfield 175, 3) := by decide +kernel
theorem dX9_join_143 : decode cX9_join 143 = .ok (.ior, 1) := by decide +kernel
theorem dX9_join_144 : decode cX9_join 144 = .ok (.putfield 175, 3) := by decide +kernel
theorem dX9_join_147 : decode cX9_join 147 = .ok (.aload_n 3, 1) := by decide +kernel
theorem dX9_join_148 : decode cX9_join 148 = .ok (.bipush (-9), 2) := by decide +kernel
theorem dX9_join_150 : decode cX9_join 150 = .ok (.putfield 166, 3) := by decide +kernel
theorem dX9_join_153 : decode cX9_join 153 = .ok (.aload 4, 2) := by decide +kernel
theorem dX9_join_155 : decode cX9_join 155 = .ok (.invokevirtual 196, 3) := by decide +kernel
theorem dX9_join_158 : decode cX9_join 158 = .ok (.aload_n 3, 1) := by decide +kernel
theorem dX9_join_159 : decode cX9_join 159 = .ok (.getfield 162, 3) := by decide +kernel
theorem dX9_join_162 : decode cX9_join 162 = .ok (.ireturn, 1) := by decide +kernel
theorem dX9_at_0 : decode cX9_at 0 = .ok (.aload_n 0, 1) := by decide +kernel
theorem dX9_at_1 : decode cX9_at 1 = .ok (.getfield 19, 3) := by decide +kernel
theorem dX9_at_4 : decode cX9_at 4 = .ok (.iload_n 1, 1) := by decide +kernel
theorem dX9_at_5 : decode cX9_at 5 = .ok (.invokevirtual 150, 3) := by decide +kernel
theorem dX9_at_8 : decode cX9_at 8 = .ok (.ifCond .eq 19, 3) := by decide +kernel
theorem dX9_at_11 : decode cX9_at 11 = .ok (.iload_n 2, 1) := by decide +kernel
theorem dX9_at_12 : decode cX9_at 12 = .ok (.iconst (-1), 1) := by decide +kernel
theorem dX9_at_13 : decode cX9_at 13 = .ok (.if_icmp .eq 20, 3) := by decide +kernel
theorem dX9_at_16 : decode cX9_at 16 = .ok (.aload_n 0, 1) := by decide +kernel
theorem dX9_at_17 : decode cX9_at 17 = .ok (.getfield 19, 3) := by decide +kernel
theorem dX9_at_20 : decode cX9_at 20 = .ok (.iload_n 2, 1) := by decide +kernel
theorem dX9_at_21 : decode cX9_at 21 = .ok (.invokevirtual 119, 3) := by decide +kernel
theorem dX9_at_24 : decode cX9_at 24 = .ok (.ifCond .ne 9, 3) := by decide +kernel
theorem dX9_at_27 : decode cX9_at 27 = .ok (.aload_n 0, 1) := by decide +kernel
theorem dX9_at_28 : decode cX9_at 28 = .ok (.iconst (-1), 1) := by decide +kernel
theorem dX9_at_29 : decode cX9_at 29 = .ok (.invokevirtual 72, 3) := by decide +kernel
theorem dX9_at_32 : decode cX9_at 32 = .ok (.ireturn, 1) := by decide +kernel
theorem dX9_at_33 : decode cX9_at 33 = .ok (.aload_n 0, 1) := by decide +kernel
theorem dX9_at_34 : decode cX9_at 34 = .ok (.getfield 19, 3) := by decide +kernel
theorem dX9_at_37 : decode cX9_at 37 = .ok (.getfield 153, 3) := by decide +kernel
theorem dX9_at_40 : decode cX9_at 40 = .ok (.iload_n 1, 1) := by decide +kernel
theorem dX9_at_41 : decode cX9_at 41 = .ok (.aaload, 1) := by decide +kernel
theorem dX9_at_42 : decode cX9_at 42 = .ok (.astore_n 3, 1) := by decide +kernel
theorem dX9_at_43 : decode cX9_at 43 = .ok (.iload_n 2, 1) := by decide +kernel
theorem dX9_at_44 : decode cX9_at 44 = .ok (.iconst (-1), 1) := by decide +kernel
theorem dX9_at_45 : decode cX9_at 45 = .ok (.if_icmp .eq 29, 3) := by decide +kernel
theorem dX9_at_48 : decode cX9_at 48 = .ok (.aload_n 0, 1) := by decide +kernel
theorem dX9_at_49 : decode cX9_at 49 = .ok (.getfield 19, 3) := by decide +kernel
theorem dX9_at_52 : decode cX9_at 52 = .ok (.getfield 122, 3) := by decide +kernel
theorem dX9_at_55 : decode cX9_at 55 = .ok (.iload_n 2, 1) := by decide +kernel
theorem dX9_at_56 : decode cX9_at 56 = .ok (.aaload, 1) := by decide +kernel
theorem dX9_at_57 : decode cX9_at 57 = .ok (.getfield 131, 3) := by decide +kernel
theorem dX9_at_60 : decode cX9_at 60 = .ok (.aload_n 3, 1) := by decide +kernel
theorem dX9_at_61 : decode cX9_at 61 = .ok (.getfield 165, 3) := by decide +kernel
theorem dX9_at_64 : decode cX9_at 64 = .ok (.if_icmp .eq 10, 3) := by decide +kernel
theorem dX9_at_67 : decode cX9_at 67 = .ok (.aload_n 0, 1) := by decide +kernel
theorem dX9_at_68 : decode cX9_at 68 = .ok (.bipush (-3), 2) := by decide +kernel
theorem dX9_at_70 : decode cX9_at 70 = .ok (.invokevirtual 72, 3) := by decide +kernel
theorem dX9_at_73 : decode cX9_at 73 = .ok (.ireturn, 1) := by decide +kernel
theorem dX9_at_74 : decode cX9_at 74 = .ok (.aload_n 3, 1) := by decide +kernel
theorem dX9_at_75 : decode cX9_at 75 = .ok (.getfield 166, 3) := by decide +kernel
theorem dX9_at_78 : decode cX9_at 78 = .ok (.istore 4, 2) := by decide +kernel
theorem dX9_at_80 : decode cX9_at 80 = .ok (.aload_n 3, 1) := by decide +kernel
theorem dX9_at_81 : decode cX9_at 81 = .ok (.iload_n 2, 1) := by decide +kernel
theorem dX9_at_82 : decode cX9_at 82 = .ok (.iconst (-1), 1) := by decide +kernel
theorem dX9_at_83 : decode cX9_at 83 = .ok (.if_icmp .ne 8, 3) := by decide +kernel
theorem dX9_at_86 : decode cX9_at 86 = .ok (.bipush (-9), 2) := by decide +kernel
theorem dX9_at_88 : decode cX9_at 88 = .ok (.goto 4, 3) := by decide +kernel
theorem dX9_at_91 : decode cX9_at 91 = .ok (.iload_n 2, 1) := by decide +kernel
theorem dX9_at_92 : decode cX9_at 92 = .ok (.putfield 166, 3) := by decide +kernel
theorem dX9_at_95 : decode cX9_at 95 = .ok (.iload 4, 2) := by decide +kernel
theorem dX9_at_97 : decode cX9_at 97 = .ok (.ireturn, 1) := by decide +kernel
theorem dX9_toil_0 : decode cX9_toil 0 = .ok (.aload_n 0, 1) := by decide +kernel
theorem dX9_toil_1 : decode cX9_toil 1 = .ok (.iload_n 1, 1) := by decide +kernel
theorem dX9_toil_2 : decode cX9_toil 2 = .ok (.iload_n 2, 1) := by decide +kernel
theorem dX9_toil_3 : decode cX9_toil 3 = .ok (.invokevirtual 197, 3) := by decide +kernel
theorem dX9_toil_6 : decode cX9_toil 6 = .ok (.istore_n 3, 1) := by decide +kernel
theorem dX9_toil_7 : decode cX9_toil 7 = .ok (.iload_n 3, 1) := by decide +kernel
theorem dX9_toil_8 : decode cX9_toil 8 = .ok (.ifCond .eq 9, 3) := by decide +kernel
theorem dX9_toil_11 : decode cX9_toil 11 = .ok (.aload_n 0, 1) := by decide +kernel
theorem dX9_toil_12 : decode cX9_toil 12 = .ok (.iload_n 3, 1) := by decide +kernel
theorem dX9_toil_13 : decode cX9_toil 13 = .ok (.invokevirtual 72, 3) := by decide +kernel
theorem dX9_toil_16 : decode cX9_toil 16 = .ok (.ireturn, 1) := by decide +kernel
theorem dX9_toil_17 : decode cX9_toil 17 = .ok (.aload_n 0, 1) := by decide +kernel
theorem dX9_toil_18 : decode cX9_toil 18 = .ok (.getfield 19, 3) := by decide +kernel
theorem dX9_toil_21 : decode cX9_toil 21 = .ok (.getfield 153, 3) := by decide +kernel
theorem dX9_toil_24 : decode cX9_toil 24 = .ok (.iload_n 1, 1) := by decide +kernel
theorem dX9_toil_25 : decode cX9_toil 25 = .ok (.aaload, 1) := by decide +kernel
theorem dX9_toil_26 : decode cX9_toil 26 = .ok (.astore 4, 2) := by decide +kernel
theorem dX9_toil_28 : decode cX9_toil 28 = .ok (.aload 4, 2) := by decide +kernel
theorem dX9_toil_30 : decode cX9_toil 30 = .ok (.getfield 166, 3) := by decide +kernel
theorem dX9_toil_33 : decode cX9_toil 33 = .ok (.bipush (-9), 2) := by decide +kernel
theorem dX9_toil_35 : decode cX9_toil 35 = .ok (.if_icmp .ne 10, 3) := by decide +kernel
theorem dX9_toil_38 : decode cX9_toil 38 = .ok (.aload_n 0, 1) := by decide +kernel
theorem dX9_toil_39 : decode cX9_toil 39 = .ok (.bipush (-3), 2) := by decide +kernel
theorem dX9_toil_41 : decode cX9_toil 41 = .ok (.invokevirtual 72, 3) := by decide +kernel
theorem dX9_toil_44 : decode cX9_toil 44 = .ok (.ireturn, 1) := by decide +kernel
theorem dX9_toil_45 : decode cX9_toil 45 = .ok (.aload 4, 2) := by decide +kernel
theorem dX9_toil_47 : decode cX9_toil 47 = .ok (.dup, 1) := by decide +kernel
theorem dX9_toil_48 : decode cX9_toil 48 = .ok (.getfield 169, 3) := by decide +kernel
theorem dX9_toil_51 : decode cX9_toil 51 = .ok (.iload_n 2, 1) := by decide +kernel
theorem dX9_toil_52 : decode cX9_toil 52 = .ok (.iadd, 1) := by decide +kernel
theorem dX9_toil_53 : decode cX9_toil 53 = .ok (.putfield 169, 3) := by decide +kernel
theorem dX9_toil_56 : decode cX9_toil 56 = .ok (.aload 4, 2) := by decide +kernel
theorem dX9_toil_58 : decode cX9_toil 58 = .ok (.dup, 1) := by decide +kernel
theorem dX9_toil_59 : decode cX9_toil 59 = .ok (.getfield 172, 3) := by decide +kernel
theorem dX9_toil_62 : decode cX9_toil 62 = .ok (.aload 4, 2) := by decide +kernel
theorem dX9_toil_64 : decode cX9_toil 64 = .ok (.getfield 162, 3) := by decide +kernel
theorem dX9_toil_67 : decode cX9_toil 67 = .ok (.iconst 1, 1) := by decide +kernel
theorem dX9_toil_68 : decode cX9_toil 68 = .ok (.if_icmp .ge 7, 3) := by decide +kernel
theorem dX9_toil_71 : decode cX9_toil 71 = .ok (.iconst 0, 1) := by decide +kernel
theorem dX9_toil_72 : decode cX9_toil 72 = .ok (.goto 13, 3) := by decide +kernel
theorem dX9_toil_75 : decode cX9_toil 75 = .ok (.iload_n 2, 1) := by decide +kernel
theorem dX9_toil_76 : decode cX9_toil 76 = .ok (.bipush 12, 2) := by decide +kernel
theorem dX9_toil_78 : decode cX9_toil 78 = .ok (.imul, 1) := by decide +kernel
theorem dX9_toil_79 : decode cX9_toil 79 = .ok (.aload 4, 2) := by decide +kernel
theorem dX9_toil_81 : decode cX9_toil 81 = .ok (.getfield 162, 3) := by decide +kernel
theorem dX9_toil_84 : decode cX9_toil 84 = .ok (.idiv, 1) := by decide +kernel
theorem dX9_toil_85 : decode cX9_toil 85 = .ok (.iadd, 1) := by decide +kernel
theorem dX9_toil_86 : decode cX9_toil 86 = .ok (.putfield 172, 3) := by decide +kernel
theorem dX9_toil_89 : decode cX9_toil 89 = .ok (.aload 4, 2) := by decide +kernel
theorem dX9_toil_91 : decode cX9_toil 91 = .ok (.getfield 172, 3) := by decide +kernel
theorem dX9_toil_94 : decode cX9_toil 94 = .ok (.ireturn, 1) := by decide +kernel
theorem dX9_rest_0 : decode cX9_rest 0 = .ok (.aload_n 0, 1) := by decide +kernel
theorem dX9_rest_1 : decode cX9_rest 1 = .ok (.iload_n 1, 1) := by decide +kernel
theorem dX9_rest_2 : decode cX9_rest 2 = .ok (.iload_n 2, 1) := by decide +kernel
theorem dX9_rest_3 : decode cX9_rest 3 = .ok (.invokevirtual 197, 3) := by decide +kernel
theorem dX9_rest_6 : decode cX9_rest 6 = .ok (.istore_n 3, 1) := by decide +kernel
theorem dX9_rest_7 : decode cX9_rest 7 = .ok (.iload_n 3, 1) := by decide +kernel
theorem dX9_rest_8 : decode cX9_rest 8 = .ok (.ifCond .eq 9, 3) := by decide +kernel
theorem dX9_rest_11 : decode cX9_rest 11 = .ok (.aload_n 0, 1) := by decide +kernel
theorem dX9_rest_12 : decode cX9_rest 12 = .ok (.iload_n 3, 1) := by decide +kernel
theorem dX9_rest_13 : decode cX9_rest 13 = .ok (.invokevirtual 72, 3) := by decide +kernel
theorem dX9_rest_16 : decode cX9_rest 16 = .ok (.ireturn, 1) := by decide +kernel
theorem dX9_rest_17 : decode cX9_rest 17 = .ok (.aload_n 0, 1) := by decide +kernel
theorem dX9_rest_18 : decode cX9_rest 18 = .ok (.getfield 19, 3) := by decide +kernel
theorem dX9_rest_21 : decode cX9_rest 21 = .ok (.getfield 153, 3) := by decide +kernel
theorem dX9_rest_24 : decode cX9_rest 24 = .ok (.iload_n 1, 1) := by decide +kernel
theorem dX9_rest_25 : decode cX9_rest 25 = .ok (.aaload, 1) := by decide +kernel
theorem dX9_rest_26 : decode cX9_rest 26 = .ok (.astore 4, 2) := by decide +kernel
theorem dX9_rest_28 : decode cX9_rest 28 = .ok (.aload 4, 2) := by decide +kernel
theorem dX9_rest_30 : decode cX9_rest 30 = .ok (.dup, 1) := by decide +kernel
theorem dX9_rest_31 : decode cX9_rest 31 = .ok (.getfield 169, 3) := by decide +kernel
theorem dX9_rest_34 : decode cX9_rest 34 = .ok (.iload_n 2, 1) := by decide +kernel
theorem dX9_rest_35 : decode cX9_rest 35 = .ok (.iadd, 1) := by decide +kernel
theorem dX9_rest_36 : decode cX9_rest 36 = .ok (.putfield 169, 3) := by decide +kernel
theorem dX9_rest_39 : decode cX9_rest 39 = .ok (.aload 4, 2) := by decide +kernel
theorem dX9_rest_41 : decode cX9_rest 41 = .ok (.iconst 0, 1) := by decide +kernel
theorem dX9_rest_42 : decode cX9_rest 42 = .ok (.aload 4, 2) := by decide +kernel
theorem dX9_rest_44 : decode cX9_rest 44 = .ok (.getfield 172, 3) := by decide +kernel
theorem dX9_rest_47 : decode cX9_rest 47 = .ok (.iconst 2, 1) := by decide +kernel
theorem dX9_rest_48 : decode cX9_rest 48 = .ok (.iload_n 2, 1) := by decide +kernel
theorem dX9_rest_49 : decode cX9_rest 49 = .ok (.imul, 1) := by decide +kernel
theorem dX9_rest_50 : decode cX9_rest 50 = .ok (.isub, 1) := by decide +kernel
theorem dX9_rest_51 : decode cX9_rest 51 = .ok (.invokestatic 190, 3) := by decide +kernel
theorem dX9_rest_54 : decode cX9_rest 54 = .ok (.putfield 172, 3) := by decide +kernel
theorem dX9_rest_57 : decode cX9_rest 57 = .ok (.aload 4, 2) := by decide +kernel
theorem dX9_rest_59 : decode cX9_rest 59 = .ok (.getfield 172, 3) := by decide +kernel
theorem dX9_rest_62 : decode cX9_rest 62 = .ok (.ireturn, 1) := by decide +kernel
theorem dX9_lose_0 : decode cX9_lose 0 = .ok (.aload_n 0, 1) := by decide +kernel
theorem dX9_lose_1 : decode cX9_lose 1 = .ok (.getfield 19, 3) := by decide +kernel
theorem dX9_lose_4 : decode cX9_lose 4 = .ok (.iload_n 1, 1) := by decide +kernel
theorem dX9_lose_5 : decode cX9_lose 5 = .ok (.invokevirtual 150, 3) := by decide +kernel
theorem dX9_lose_8 : decode cX9_lose 8 = .ok (.ifCond .ne 9, 3) := by decide +kernel
theorem dX9_lose_11 : decode cX9_lose 11 = .ok (.aload_n 0, 1) := by decide +kernel
theorem dX9_lose_12 : decode cX9_lose 12 = .ok (.iconst (-1), 1) := by decide +kernel
theorem dX9_lose_13 : decode cX9_lose 13 = .ok (.invokevirtual 72, 3) := by decide +kernel
theorem dX9_lose_16 : decode cX9_lose 16 = .ok (.ireturn, 1) := by decide +kernel
theorem dX9_lose_17 : decode cX9_lose 17 = .ok (.aload_n 0, 1) := by decide +kernel
theorem dX9_lose_18 : decode cX9_lose 18 = .ok (.getfield 19, 3) := by decide +kernel
theorem dX9_lose_21 : decode cX9_lose 21 = .ok (.getfield 153, 3) := by decide +kernel
theorem dX9_lose_24 : decode cX9_lose 24 = .ok (.iload_n 1, 1) := by decide +kernel
theorem dX9_lose_25 : decode cX9_lose 25 = .ok (.aaload, 1) := by decide +kernel
theorem dX9_lose_26 : decode cX9_lose 26 = .ok (.getfield 162, 3) := by decide +kernel
theorem dX9_lose_29 : decode cX9_lose 29 = .ok (.istore_n 2, 1) := by decide +kernel
theorem dX9_lose_30 : decode cX9_lose 30 = .ok (.aload_n 0, 1) := by decide +kernel
theorem dX9_lose_31 : decode cX9_lose 31 = .ok (.getfield 19, 3) := by decide +kernel
theorem dX9_lose_34 : decode cX9_lose 34 = .ok (.getfield 153, 3) := by decide +kernel
theorem dX9_lose_37 : decode cX9_lose 37 = .ok (.iload_n 1, 1) := by decide +kernel
theorem dX9_lose_38 : decode cX9_lose 38 = .ok (.aaload, 1) := by decide +kernel
theorem dX9_lose_39 : decode cX9_lose 39 = .ok (.invokevirtual 196, 3) := by decide +kernel
theorem dX9_lose_42 : decode cX9_lose 42 = .ok (.iload_n 2, 1) := by decide +kernel
theorem dX9_lose_43 : decode cX9_lose 43 = .ok (.ireturn, 1) := by decide +kernel
theorem dX9_does_0 : decode cX9_does 0 = .ok (.aload_n 0, 1) := by decide +kernel
theorem dX9_does_1 : decode cX9_does 1 = .ok (.getfield 19, 3) := by decide +kernel
theorem dX9_does_4 : decode cX9_does 4 = .ok (.iload_n 1, 1) := by decide +kernel
theorem dX9_does_5 : decode cX9_does 5 = .ok (.invokevirtual 119, 3) := by decide +kernel
theorem dX9_does_8 : decode cX9_does 8 = .ok (.ifCond .ne 9, 3) := by decide +kernel
theorem dX9_does_11 : decode cX9_does 11 = .ok (.aload_n 0, 1) := by decide +kernel
theorem dX9_does_12 : decode cX9_does 12 = .ok (.iconst (-1), 1) := by decide +kernel
theorem dX9_does_13 : decode cX9_does 13 = .ok (.invokevirtual 72, 3) := by decide +kernel
theorem dX9_does_16 : decode cX9_does 16 = .ok (.ireturn, 1) := by decide +kernel
theorem dX9_does_17 : decode cX9_does 17 = .ok (.iload_n 2, 1) := by decide +kernel
theorem dX9_does_18 : decode cX9_does 18 = .ok (.ifCond .lt 8, 3) := by decide +kernel
theorem dX9_does_21 : decode cX9_does 21 = .ok (.iload_n 2, 1) := by decide +kernel
theorem dX9_does_22 : decode cX9_does 22 = .ok (.iconst 3, 1) := by decide +kernel
theorem dX9_does_23 : decode cX9_does 23 = .ok (.if_icmp .lt 10, 3) := by decide +kernel
theorem dX9_does_26 : decode cX9_does 26 = .ok (.aload_n 0, 1) := by decide +kernel
theorem dX9_does_27 : decode cX9_does 27 = .ok (.bipush (-2), 2) := by decide +kernel
theorem dX9_does_29 : decode cX9_does 29 = .ok (.invokevirtual 72, 3) := by decide +kernel
theorem dX9_does_32 : decode cX9_does 32 = .ok (.ireturn, 1) := by decide +kernel
theorem dX9_does_33 : decode cX9_does 33 = .ok (.aload_n 0, 1) := by decide +kernel
theorem dX9_does_34 : decode cX9_does 34 = .ok (.iload_n 1, 1) := by decide +kernel
theorem dX9_does_35 : decode cX9_does 35 = .ok (.invokevirtual 200, 3) := by decide +kernel
theorem dX9_does_38 : decode cX9_does 38 = .ok (.aload_n 0, 1) := by decide +kernel
theorem dX9_does_39 : decode cX9_does 39 = .ok (.getfield 36, 3) := by decide +kernel
theorem dX9_does_42 : decode cX9_does 42 = .ok (.iload_n 2, 1) := by decide +kernel
theorem dX9_does_43 : decode cX9_does 43 = .ok (.invokevirtual 204, 3) := by decide +kernel
theorem dX9_does_46 : decode cX9_does 46 = .ok (.ireturn, 1) := by decide +kernel
theorem dX9_well_0 : decode cX9_well 0 = .ok (.aload_n 0, 1) := by decide +kernel
theorem dX9_well_1 : decode cX9_well 1 = .ok (.getfield 19, 3) := by decide +kernel
theorem dX9_well_4 : decode cX9_well 4 = .ok (.iload_n 1, 1) := by decide +kernel
theorem dX9_well_5 : decode cX9_well 5 = .ok (.invokevirtual 119, 3) := by decide +kernel
theorem dX9_well_8 : decode cX9_well 8 = .ok (.ifCond .ne 9, 3) := by decide +kernel
theorem dX9_well_11 : decode cX9_well 11 = .ok (.aload_n 0, 1) := by decide +kernel
theorem dX9_well_12 : decode cX9_well 12 = .ok (.iconst (-1), 1) := by decide +kernel
theorem dX9_well_13 : decode cX9_well 13 = .ok (.invokevirtual 72, 3) := by decide +kernel
theorem dX9_well_16 : decode cX9_well 16 = .ok (.ireturn, 1) := by decide +kernel
theorem dX9_well_17 : decode cX9_well 17 = .ok (.iload_n 2, 1) := by decide +kernel
theorem dX9_well_18 : decode cX9_well 18 = .ok (.ifCond .lt 8, 3) := by decide +kernel
theorem dX9_well_21 : decode cX9_well 21 = .ok (.iload_n 2, 1) := by decide +kernel
theorem dX9_well_22 : decode cX9_well 22 = .ok (.iconst 1, 1) := by decide +kernel
theorem dX9_well_23 : decode cX9_well 23 = .ok (.if_icmp .le 10, 3) := by decide +kernel
theorem dX9_well_26 : decode cX9_well 26 = .ok (.aload_n 0, 1) := by decide +kernel
theorem dX9_well_27 : decode cX9_well 27 = .ok (.bipush (-2), 2) := by decide +kernel
theorem dX9_well_29 : decode cX9_well 29 = .ok (.invokevirtual 72, 3) := by decide +kernel
theorem dX9_well_32 : decode cX9_well 32 = .ok (.ireturn, 1) := by decide +kernel
theorem dX9_well_33 : decode cX9_well 33 = .ok (.aload_n 0, 1) := by decide +kernel
theorem dX9_well_34 : decode cX9_well 34 = .ok (.iload_n 1, 1) := by decide +kernel
theorem dX9_well_35 : decode cX9_well 35 = .ok (.invokevirtual 200, 3) := by decide +kernel
theorem dX9_well_38 : decode cX9_well 38 = .ok (.aload_n 0, 1) := by decide +kernel
theorem dX9_well_39 : decode cX9_well 39 = .ok (.getfield 36, 3) := by decide +kernel
theorem dX9_well_42 : decode cX9_well 42 = .ok (.invokevirtual 207, 3) := by decide +kernel
theorem dX9_well_45 : decode cX9_well 45 = .ok (.iload_n 2, 1) := by decide +kernel
theorem dX9_well_46 : decode cX9_well 46 = .ok (.ifCond .ne 13, 3) := by decide +kernel
theorem dX9_well_49 : decode cX9_well 49 = .ok (.aload_n 0, 1) := by decide +kernel
theorem dX9_well_50 : decode cX9_well 50 = .ok (.getfield 36, 3) := by decide +kernel
theorem dX9_well_53 : decode cX9_well 53 = .ok (.getfield 210, 3) := by decide +kernel
theorem dX9_well_56 : decode cX9_well 56 = .ok (.goto 10, 3) := by decide +kernel
theorem dX9_well_59 : decode cX9_well 59 = .ok (.aload_n 0, 1) := by decide +kernel
theorem dX9_well_60 : decode cX9_well 60 = .ok (.getfield 36, 3) := by decide +kernel
theorem dX9_well_63 : decode cX9_well 63 = .ok (.getfield 213, 3) := by decide +kernel
theorem dX9_well_66 : decode cX9_well 66 = .ok (.ireturn, 1) := by decide +kernel
theorem dX9_plan_0 : decode cX9_plan 0 = .ok (.iload_n 1, 1) := by decide +kernel
theorem dX9_plan_1 : decode cX9_plan 1 = .ok (.invokestatic 216, 3) := by decide +kernel
theorem dX9_plan_4 : decode cX9_plan 4 = .ok (.ifCond .ne 10, 3) := by decide +kernel
theorem dX9_plan_7 : decode cX9_plan 7 = .ok (.aload_n 0, 1) := by decide +kernel
theorem dX9_plan_8 : decode cX9_plan 8 = .ok (.bipush (-2), 2) := by decide +kernel
theorem dX9_plan_10 : decode cX9_plan 10 = .ok (.invokevirtual 72, 3) := by decide +kernel
theorem dX9_plan_13 : decode cX9_plan 13 = .ok (.ireturn, 1) := by decide +kernel
theorem dX9_plan_14 : decode cX9_plan 14 = .ok (.aload_n 0, 1) := by decide +kernel
theorem dX9_plan_15 : decode cX9_plan 15 = .ok (.getfield 43, 3) := by decide +kernel
theorem dX9_plan_18 : decode cX9_plan 18 = .ok (.iload_n 1, 1) := by decide +kernel
theorem dX9_plan_19 : decode cX9_plan 19 = .ok (.aload_n 0, 1) := by decide +kernel
theorem dX9_plan_20 : decode cX9_plan 20 = .ok (.getfield 19, 3) := by decide +kernel
theorem dX9_plan_23 : decode cX9_plan 23 = .ok (.invokevirtual 219, 3) := by decide +kernel
theorem dX9_plan_26 : decode cX9_plan 26 = .ok (.aload_n 0, 1) := by decide +kernel
theorem dX9_plan_27 : decode cX9_plan 27 = .ok (.getfield 43, 3) := by decide +kernel
theorem dX9_plan_30 : decode cX9_plan 30 = .ok (.aload_n 0, 1) := by decide +kernel
theorem dX9_plan_31 : decode cX9_plan 31 = .ok (.getfield 19, 3) := by decide +kernel
theorem dX9_plan_34 : decode cX9_plan 34 = .ok (.invokevirtual 223, 3) := by decide +kernel
theorem dX9_plan_37 : decode cX9_plan 37 = .ok (.ireturn, 1) := by decide +kernel
theorem dX9_planned_0 : decode cX9_planned 0 = .ok (.iload_n 1, 1) := by decide +kernel
theorem dX9_planned_1 : decode cX9_planned 1 = .ok (.invokestatic 216, 3) := by decide +kernel
theorem dX9_planned_4 : decode cX9_planned 4 = .ok (.ifCond .ne 10, 3) := by decide +kernel
theorem dX9_planned_7 : decode cX9_planned 7 = .ok (.aload_n 0, 1) := by decide +kernel
theorem dX9_planned_8 : decode cX9_planned 8 = .ok (.bipush (-2), 2) := by decide +kernel
theorem dX9_planned_10 : decode cX9_planned 10 = .ok (.invokevirtual 72, 3) := by decide +kernel
theorem dX9_planned_13 : decode cX9_planned 13 = .ok (.ireturn, 1) := by decide +kernel
theorem dX9_planned_14 : decode cX9_planned 14 = .ok (.aload_n 0, 1) := by decide +kernel
theorem dX9_planned_15 : decode cX9_planned 15 = .ok (.getfield 19, 3) := by decide +kernel
theorem dX9_planned_18 : decode cX9_planned 18 = .ok (.iload_n 2, 1) := by decide +kernel
theorem dX9_planned_19 : decode cX9_planned 19 = .ok (.invokevirtual 97, 3) := by decide +kernel
theorem dX9_planned_22 : decode cX9_planned 22 = .ok (.ifCond .eq 14, 3) := by decide +kernel
theorem dX9_planned_25 : decode cX9_planned 25 = .ok (.aload_n 0, 1) := by decide +kernel
theorem dX9_planned_26 : decode cX9_planned 26 = .ok (.getfield 19, 3) := by decide +kernel
theorem dX9_planned_29 : decode cX9_planned 29 = .ok (.iload_n 3, 1) := by decide +kernel
theorem dX9_planned_30 : decode cX9_planned 30 = .ok (.invokevirtual 119, 3) := by decide +kernel
theorem dX9_planned_33 : decode cX9_planned 33 = .ok (.ifCond .ne 9, 3) := by decide +kernel
theorem dX9_planned_36 : decode cX9_planned 36 = .ok (.aload_n 0, 1) := by decide +kernel
theorem dX9_planned_37 : decode cX9_planned 37 = .ok (.iconst (-1), 1) := by decide +kernel
theorem dX9_planned_38 : decode cX9_planned 38 = .ok (.invokevirtual 72, 3) := by decide +kernel
theorem dX9_planned_41 : decode cX9_planned 41 = .ok (.ireturn, 1) := by decide +kernel
theorem dX9_planned_42 : decode cX9_planned 42 = .ok (.aload_n 0, 1) := by decide +kernel
theorem dX9_planned_43 : decode cX9_planned 43 = .ok (.getfield 43, 3) := by decide +kernel
theorem dX9_planned_46 : decode cX9_planned 46 = .ok (.iload_n 1, 1) := by decide +kernel
theorem dX9_planned_47 : decode cX9_planned 47 = .ok (.aload_n 0, 1) := by decide +kernel
theorem dX9_planned_48 : decode cX9_planned 48 = .ok (.getfield 19, 3) := by decide +kernel
theorem dX9_planned_51 : decode cX9_planned 51 = .ok (.invokevirtual 219, 3) := by decide +kernel
theorem dX9_planned_54 : decode cX9_planned 54 = .ok (.aload_n 0, 1) := by decide +kernel
theorem dX9_planned_55 : decode cX9_planned 55 = .ok (.getfield 43, 3) := by decide +kernel
theorem dX9_planned_58 : decode cX9_planned 58 = .ok (.getfield 225, 3) := by decide +kernel
theorem dX9_planned_61 : decode cX9_planned 61 = .ok (.iload_n 2, 1) := by decide +kernel
theorem dX9_planned_62 : decode cX9_planned 62 = .ok (.aaload, 1) := by decide +kernel
theorem dX9_planned_63 : decode cX9_planned 63 = .ok (.iload_n 3, 1) := by decide +kernel
theorem dX9_planned_64 : decode cX9_planned 64 = .ok (.iaload, 1) := by decide +kernel
theorem dX9_planned_65 : decode cX9_planned 65 = .ok (.ireturn, 1) := by decide +kernel
theorem dX9_best_0 : decode cX9_best 0 = .ok (.aload_n 0, 1) := by decide +kernel
theorem dX9_best_1 : decode cX9_best 1 = .ok (.getfield 19, 3) := by decide +kernel
theorem dX9_best_4 : decode cX9_best 4 = .ok (.invokestatic 227, 3) := by decide +kernel
theorem dX9_best_7 : decode cX9_best 7 = .ok (.ifCond .ne 10, 3) := by decide +kernel
theorem dX9_best_10 : decode cX9_best 10 = .ok (.aload_n 0, 1) := by decide +kernel
theorem dX9_best_11 : decode cX9_best 11 = .ok (.bipush (-6), 2) := by decide +kernel
theorem dX9_best_13 : decode cX9_best 13 = .ok (.invokevirtual 72, 3) := by decide +kernel
theorem dX9_best_16 : decode cX9_best 16 = .ok (.ireturn, 1) := by decide +kernel
theorem dX9_best_17 : decode cX9_best 17 = .ok (.aload_n 0, 1) := by decide +kernel
theorem dX9_best_18 : decode cX9_best 18 = .ok (.getfield 50, 3) := by decide +kernel
theorem dX9_best_21 : decode cX9_best 21 = .ok (.aload_n 0, 1) := by decide +kernel
theorem dX9_best_22 : decode cX9_best 22 = .ok (.getfield 19, 3) := by decide +kernel
theorem dX9_best_25 : decode cX9_best 25 = .ok (.invokevirtual 231, 3) := by decide +kernel
theorem dX9_best_28 : decode cX9_best 28 = .ok (.aload_n 0, 1) := by decide +kernel
theorem dX9_best_29 : decode cX9_best 29 = .ok (.getfield 50, 3) := by decide +kernel
theorem dX9_best_32 : decode cX9_best 32 = .ok (.getfield 234, 3) := by decide +kernel
theorem dX9_best_35 : decode cX9_best 35 = .ok (.ireturn, 1) := by decide +kernel
theorem dX9_quarters_0 : decode cX9_quarters 0 = .ok (.aload_n 0, 1) := by decide +kernel
theorem dX9_quarters_1 : decode cX9_quarters 1 = .ok (.getfield 19, 3) := by decide +kernel
theorem dX9_quarters_4 : decode cX9_quarters 4 = .ok (.iload_n 1, 1) := by decide +kernel
theorem dX9_quarters_5 : decode cX9_quarters 5 = .ok (.invokevirtual 97, 3) := by decide +kernel
theorem dX9_quarters_8 : decode cX9_quarters 8 = .ok (.ifCond .eq 14, 3) := by decide +kernel
theorem dX9_quarters_11 : decode cX9_quarters 11 = .ok (.aload_n 0, 1) := by decide +kernel
theorem dX9_quarters_12 : decode cX9_quarters 12 = .ok (.getfield 19, 3) := by decide +kernel
theorem dX9_quarters_15 : decode cX9_quarters 15 = .ok (.iload_n 2, 1) := by decide +kernel
theorem dX9_quarters_16 : decode cX9_quarters 16 = .ok (.invokevirtual 119, 3) := by decide +kernel
theorem dX9_quarters_19 : decode cX9_quarters 19 = .ok (.ifCond .ne 9, 3) := by decide +kernel
theorem dX9_quarters_22 : decode cX9_quarters 22 = .ok (.aload_n 0, 1) := by decide +kernel
theorem dX9_quarters_23 : decode cX9_quarters 23 = .ok (.iconst (-1), 1) := by decide +kernel
theorem dX9_quarters_24 : decode cX9_quarters 24 = .ok (.invokevirtual 72, 3) := by decide +kernel
theorem dX9_quarters_27 : decode cX9_quarters 27 = .ok (.ireturn, 1) := by decide +kernel
theorem dX9_quarters_28 : decode cX9_quarters 28 = .ok (.aload_n 0, 1) := by decide +kernel
theorem dX9_quarters_29 : decode cX9_quarters 29 = .ok (.getfield 19, 3) := by decide +kernel
theorem dX9_quarters_32 : decode cX9_quarters 32 = .ok (.invokestatic 227, 3) := by decide +kernel
theorem dX9_quarters_35 : decode cX9_quarters 35 = .ok (.ifCond .ne 10, 3) := by decide +kernel
theorem dX9_quarters_38 : decode cX9_quarters 38 = .ok (.aload_n 0, 1) := by decide +kernel
theorem dX9_quarters_39 : decode cX9_quarters 39 = .ok (.bipush (-6), 2) := by decide +kernel
theorem dX9_quarters_41 : decode cX9_quarters 41 = .ok (.invokevirtual 72, 3) := by decide +kernel
theorem dX9_quarters_44 : decode cX9_quarters 44 = .ok (.ireturn, 1) := by decide +kernel
theorem dX9_quarters_45 : decode cX9_quarters 45 = .ok (.aload_n 0, 1) := by decide +kernel
theorem dX9_quarters_46 : decode cX9_quarters 46 = .ok (.getfield 50, 3) := by decide +kernel
theorem dX9_quarters_49 : decode cX9_quarters 49 = .ok (.aload_n 0, 1) := by decide +kernel
theorem dX9_quarters_50 : decode cX9_quarters 50 = .ok (.getfield 19, 3) := by decide +kernel
theorem dX9_quarters_53 : decode cX9_quarters 53 = .ok (.invokevirtual 231, 3) := by decide +kernel
theorem dX9_quarters_56 : decode cX9_quarters 56 = .ok (.aload_n 0, 1) := by decide +kernel
theorem dX9_quarters_57 : decode cX9_quarters 57 = .ok (.getfield 50, 3) := by decide +kernel
theorem dX9_quarters_60 : decode cX9_quarters 60 = .ok (.iload_n 1, 1) := by decide +kernel
theorem dX9_quarters_61 : decode cX9_quarters 61 = .ok (.iload_n 2, 1) := by decide +kernel
theorem dX9_quarters_62 : decode cX9_quarters 62 = .ok (.invokevirtual 235, 3) := by decide +kernel
theorem dX9_quarters_65 : decode cX9_quarters 65 = .ok (.ireturn, 1) := by decide +kernel
theorem dX9_must_0 : decode cX9_must 0 = .ok (.aload_n 0, 1) := by decide +kernel
theorem dX9_must_1 : decode cX9_must 1 = .ok (.getfield 57, 3) := by decide +kernel
theorem dX9_must_4 : decode cX9_must 4 = .ok (.aload_n 0, 1) := by decide +kernel
theorem dX9_must_5 : decode cX9_must 5 = .ok (.getfield 19, 3) := by decide +kernel
theorem dX9_must_8 : decode cX9_must 8 = .ok (.invokevirtual 238, 3) := by decide +kernel
theorem dX9_must_11 : decode cX9_must 11 = .ok (.ireturn, 1) := by decide +kernel
theorem dX9_with_0 : decode cX9_with 0 = .ok (.aload_n 0, 1) := by decide +kernel
theorem dX9_with_1 : decode cX9_with 1 = .ok (.getfield 19, 3) := by decide +kernel
theorem dX9_with_4 : decode cX9_with 4 = .ok (.iload_n 1, 1) := by decide +kernel
theorem dX9_with_5 : decode cX9_with 5 = .ok (.invokevirtual 119, 3) := by decide +kernel
theorem dX9_with_8 : decode cX9_with 8 = .ok (.ifCond .ne 9, 3) := by decide +kernel
theorem dX9_with_11 : decode cX9_with 11 = .ok (.aload_n 0, 1) := by decide +kernel
theorem dX9_with_12 : decode cX9_with 12 = .ok (.iconst (-1), 1) := by decide +kernel
theorem dX9_with_13 : decode cX9_with 13 = .ok (.invokevirtual 72, 3) := by decide +kernel
theorem dX9_with_16 : decode cX9_with 16 = .ok (.ireturn, 1) := by decide +kernel
theorem dX9_with_17 : decode cX9_with 17 = .ok (.aload_n 0, 1) := by decide +kernel
theorem dX9_with_18 : decode cX9_with 18 = .ok (.getfield 19, 3) := by decide +kernel
theorem dX9_with_21 : decode cX9_with 21 = .ok (.getfield 122, 3) := by decide +kernel
theorem dX9_with_24 : decode cX9_with 24 = .ok (.iload_n 1, 1) := by decide +kernel
theorem dX9_with_25 : decode cX9_with 25 = .ok (.aaload, 1) := by decide +kernel
theorem dX9_with_26 : decode cX9_with 26 = .ok (.getfield 126, 3) := by decide +kernel
theorem dX9_with_29 : decode cX9_with 29 = .ok (.iconst 3, 1) := by decide +kernel
theorem dX9_with_30 : decode cX9_with 30 = .ok (.if_icmp .eq 10, 3) := by decide +kernel
theorem dX9_with_33 : decode cX9_with 33 = .ok (.aload_n 0, 1) := by decide +kernel
theorem dX9_with_34 : decode cX9_with 34 = .ok (.bipush (-2), 2) := by decide +kernel
theorem dX9_with_36 : decode cX9_with 36 = .ok (.invokevirtual 72, 3) := by decide +kernel
theorem dX9_with_39 : decode cX9_with 39 = .ok (.ireturn, 1) := by decide +kernel
theorem dX9_with_40 : decode cX9_with 40 = .ok (.aload_n 0, 1) := by decide +kernel
theorem dX9_with_41 : decode cX9_with 41 = .ok (.getfield 57, 3) := by decide +kernel
theorem dX9_with_44 : decode cX9_with 44 = .ok (.aload_n 0, 1) := by decide +kernel
theorem dX9_with_45 : decode cX9_with 45 = .ok (.getfield 19, 3) := by decide +kernel
theorem dX9_with_48 : decode cX9_with 48 = .ok (.aload_n 0, 1) := by decide +kernel
theorem dX9_with_49 : decode cX9_with 49 = .ok (.getfield 19, 3) := by decide +kernel
theorem dX9_with_52 : decode cX9_with 52 = .ok (.getfield 122, 3) := by decide +kernel
theorem dX9_with_55 : decode cX9_with 55 = .ok (.iload_n 1, 1) := by decide +kernel
theorem dX9_with_56 : decode cX9_with 56 = .ok (.aaload, 1) := by decide +kernel
theorem dX9_with_57 : decode cX9_with 57 = .ok (.invokevirtual 241, 3) := by decide +kernel
theorem dX9_with_60 : decode cX9_with 60 = .ok (.ireturn, 1) := by decide +kernel
theorem dX9_thin_0 : decode cX9_thin 0 = .ok (.aload_n 0, 1) := by decide +kernel
theorem dX9_thin_1 : decode cX9_thin 1 = .ok (.getfield 19, 3) := by decide +kernel
theorem dX9_thin_4 : decode cX9_thin 4 = .ok (.iload_n 1, 1) := by decide +kernel
theorem dX9_thin_5 : decode cX9_thin 5 = .ok (.invokevirtual 97, 3) := by decide +kernel
theorem dX9_thin_8 : decode cX9_thin 8 = .ok (.ifCond .ne 9, 3) := by decide +kernel
theorem dX9_thin_11 : decode cX9_thin 11 = .ok (.aload_n 0, 1) := by decide +kernel
theorem dX9_thin_12 : decode cX9_thin 12 = .ok (.iconst (-1), 1) := by decide +kernel
theorem dX9_thin_13 : decode cX9_thin 13 = .ok (.invokevirtual 72, 3) := by decide +kernel
theorem dX9_thin_16 : decode cX9_thin 16 = .ok (.ireturn, 1) := by decide +kernel
theorem dX9_thin_17 : decode cX9_thin 17 = .ok (.aload_n 0, 1) := by decide +kernel
theorem dX9_thin_18 : decode cX9_thin 18 = .ok (.getfield 19, 3) := by decide +kernel
theorem dX9_thin_21 : decode cX9_thin 21 = .ok (.getfield 101, 3) := by decide +kernel
theorem dX9_thin_24 : decode cX9_thin 24 = .ok (.iload_n 1, 1) := by decide +kernel
theorem dX9_thin_25 : decode cX9_thin 25 = .ok (.aaload, 1) := by decide +kernel
theorem dX9_thin_26 : decode cX9_thin 26 = .ok (.getfield 110, 3) := by decide +kernel
theorem dX9_thin_29 : decode cX9_thin 29 = .ok (.istore_n 2, 1) := by decide +kernel
theorem dX9_thin_30 : decode cX9_thin 30 = .ok (.iload_n 2, 1) := by decide +kernel
theorem dX9_thin_31 : decode cX9_thin 31 = .ok (.iconst 1, 1) := by decide +kernel
theorem dX9_thin_32 : decode cX9_thin 32 = .ok (.if_icmp .ge 7, 3) := by decide +kernel
theorem dX9_thin_35 : decode cX9_thin 35 = .ok (.iconst 0, 1) := by decide +kernel
theorem dX9_thin_36 : decode cX9_thin 36 = .ok (.goto 7, 3) := by decide +kernel
theorem dX9_thin_39 : decode cX9_thin 39 = .ok (.bipush 12, 2) := by decide +kernel
theorem dX9_thin_41 : decode cX9_thin 41 = .ok (.iload_n 2, 1) := by decide +kernel
theorem dX9_thin_42 : decode cX9_thin 42 = .ok (.idiv, 1) := by decide +kernel
theorem dX9_thin_43 : decode cX9_thin 43 = .ok (.ireturn, 1) := by decide +kernel
theorem dX9_few_0 : decode cX9_few 0 = .ok (.aload_n 0, 1) := by decide +kernel
theorem dX9_few_1 : decode cX9_few 1 = .ok (.getfield 19, 3) := by decide +kernel
theorem dX9_few_4 : decode cX9_few 4 = .ok (.iload_n 1, 1) := by decide +kernel
theorem dX9_few_5 : decode cX9_few 5 = .ok (.invokevirtual 97, 3) := by decide +kernel
theorem dX9_few_8 : decode cX9_few 8 = .ok (.ifCond .eq 14, 3) := by decide +kernel
theorem dX9_few_11 : decode cX9_few 11 = .ok (.aload_n 0, 1) := by decide +kernel
theorem dX9_few_12 : decode cX9_few 12 = .ok (.getfield 19, 3) := by decide +kernel
theorem dX9_few_15 : decode cX9_few 15 = .ok (.iload_n 2, 1) := by decide +kernel
theorem dX9_few_16 : decode cX9_few 16 = .ok (.invokevirtual 119, 3) := by decide +kernel
theorem dX9_few_19 : decode cX9_few 19 = .ok (.ifCond .ne 9, 3) := by decide +kernel
theorem dX9_few_22 : decode cX9_few 22 = .ok (.aload_n 0, 1) := by decide +kernel
theorem dX9_few_23 : decode cX9_few 23 = .ok (.iconst (-1), 1) := by decide +kernel
theorem dX9_few_24 : decode cX9_few 24 = .ok (.invokevirtual 72, 3) := by decide +kernel
theorem dX9_few_27 : decode cX9_few 27 = .ok (.ireturn, 1) := by decide +kernel
theorem dX9_few_28 : decode cX9_few 28 = .ok (.aload_n 0, 1) := by decide +kernel
theorem dX9_few_29 : decode cX9_few 29 = .ok (.getfield 19, 3) := by decide +kernel
theorem dX9_few_32 : decode cX9_few 32 = .ok (.getfield 122, 3) := by decide +kernel
theorem dX9_few_35 : decode cX9_few 35 = .ok (.iload_n 2, 1) := by decide +kernel
theorem dX9_few_36 : decode cX9_few 36 = .ok (.aaload, 1) := by decide +kernel
theorem dX9_few_37 : decode cX9_few 37 = .ok (.astore_n 3, 1) := by decide +kernel
theorem dX9_few_38 : decode cX9_few 38 = .ok (.aload_n 3, 1) := by decide +kernel
theorem dX9_few_39 : decode cX9_few 39 = .ok (.getfield 126, 3) := by decide +kernel
theorem dX9_few_42 : decode cX9_few 42 = .ok (.ifCond .eq 10, 3) := by decide +kernel
theorem dX9_few_45 : decode cX9_few 45 = .ok (.aload_n 0, 1) := by decide +kernel
theorem dX9_few_46 : decode cX9_few 46 = .ok (.bipush (-2), 2) := by decide +kernel
theorem dX9_few_48 : decode cX9_few 48 = .ok (.invokevirtual 72, 3) := by decide +kernel
theorem dX9_few_51 : decode cX9_few 51 = .ok (.ireturn, 1) := by decide +kernel
theorem dX9_few_52 : decode cX9_few 52 = .ok (.aload_n 0, 1) := by decide +kernel
theorem dX9_few_53 : decode cX9_few 53 = .ok (.getfield 19, 3) := by decide +kernel
theorem dX9_few_56 : decode cX9_few 56 = .ok (.getfield 101, 3) := by decide +kernel
theorem dX9_few_59 : decode cX9_few 59 = .ok (.iload_n 1, 1) := by decide +kernel
theorem dX9_few_60 : decode cX9_few 60 = .ok (.aaload, 1) := by decide +kernel
theorem dX9_few_61 : decode cX9_few 61 = .ok (.astore 4, 2) := by decide +kernel
theorem dX9_few_63 : decode cX9_few 63 = .ok (.aload 4, 2) := by decide +kernel
theorem dX9_few_65 : decode cX9_few 65 = .ok (.getfield 110, 3) := by decide +kernel
theorem dX9_few_68 : decode cX9_few 68 = .ok (.istore 5, 2) := by decide +kernel
theorem dX9_few_70 : decode cX9_few 70 = .ok (.iload 5, 2) := by decide +kernel
theorem dX9_few_72 : decode cX9_few 72 = .ok (.bipush 12, 2) := by decide +kernel
theorem dX9_few_74 : decode cX9_few 74 = .ok (.if_icmp .gt 43, 3) := by decide +kernel
theorem dX9_few_77 : decode cX9_few 77 = .ok (.aload_n 0, 1) := by decide +kernel
theorem dX9_few_78 : decode cX9_few 78 = .ok (.getfield 36, 3) := by decide +kernel
theorem dX9_few_81 : decode cX9_few 81 = .ok (.aload_n 3, 1) := by decide +kernel
theorem dX9_few_82 : decode cX9_few 82 = .ok (.invokevirtual 245, 3) := by decide +kernel
theorem dX9_few_85 : decode cX9_few 85 = .ok (.aload_n 0, 1) := by decide +kernel
theorem dX9_few_86 : decode cX9_few 86 = .ok (.getfield 36, 3) := by decide +kernel
theorem dX9_few_89 : decode cX9_few 89 = .ok (.iload_n 1, 1) := by decide +kernel
theorem dX9_few_90 : decode cX9_few 90 = .ok (.aload 4, 2) := by decide +kernel
theorem dX9_few_92 : decode cX9_few 92 = .ok (.iload 5, 2) := by decide +kernel
theorem dX9_few_94 : decode cX9_few 94 = .ok (.iconst 0, 1) := by decide +kernel
theorem dX9_few_95 : decode cX9_few 95 = .ok (.invokevirtual 249, 3) := by decide +kernel
theorem dX9_few_98 : decode cX9_few 98 = .ok (.aload_n 0, 1) := by decide +kernel
theorem dX9_few_99 : decode cX9_few 99 = .ok (.getfield 36, 3) := by decide +kernel
theorem dX9_few_102 : decode cX9_few 102 = .ok (.invokevirtual 253, 3) := by decide +kernel
theorem dX9_few_105 : decode cX9_few 105 = .ok (.ifCond .eq 6, 3) := by decide +kernel
theorem dX9_few_108 : decode cX9_few 108 = .ok (.iload 5, 2) := by decide +kernel
theorem dX9_few_110 : decode cX9_few 110 = .ok (.ireturn, 1) := by decide +kernel
theorem dX9_few_111 : decode cX9_few 111 = .ok (.iinc 5 1, 3) := by decide +kernel
theorem dX9_few_114 : decode cX9_few 114 = .ok (.goto (-44), 3) := by decide +kernel
theorem dX9_few_117 : decode cX9_few 117 = .ok (.bipush (-9), 2) := by decide +kernel
theorem dX9_few_119 : decode cX9_few 119 = .ok (.ireturn, 1) := by decide +kernel
theorem dX9_chance_0 : decode cX9_chance 0 = .ok (.aload_n 0, 1) := by decide +kernel
theorem dX9_chance_1 : decode cX9_chance 1 = .ok (.iload_n 1, 1) := by decide +kernel
theorem dX9_chance_2 : decode cX9_chance 2 = .ok (.iload_n 2, 1) := by decide +kernel
theorem dX9_chance_3 : decode cX9_chance 3 = .ok (.iload_n 3, 1) := by decide +kernel
theorem dX9_chance_4 : decode cX9_chance 4 = .ok (.iload 4, 2) := by decide +kernel
theorem dX9_chance_6 : decode cX9_chance 6 = .ok (.invokevirtual 256, 3) := by decide +kernel
theorem dX9_chance_9 : decode cX9_chance 9 = .ok (.istore 5, 2) := by decide +kernel
theorem dX9_chance_11 : decode cX9_chance 11 = .ok (.iload 5, 2) := by decide +kernel
theorem dX9_chance_13 : decode cX9_chance 13 = .ok (.ifCond .eq 15, 3) := by decide +kernel
theorem dX9_chance_16 : decode cX9_chance 16 = .ok (.ldc2_w 260, 3) := by decide +kernel
theorem dX9_chance_19 : decode cX9_chance 19 = .ok (.aload_n 0, 1) := by decide +kernel
theorem dX9_chance_20 : decode cX9_chance 20 = .ok (.iload 5, 2) := by decide +kernel
theorem dX9_chance_22 : decode cX9_chance 22 = .ok (.invokevirtual 72, 3) := by decide +kernel
theorem dX9_chance_25 : decode cX9_chance 25 = .ok (.i2l, 1) := by decide +kernel
theorem dX9_chance_26 : decode cX9_chance 26 = .ok (.lsub, 1) := by decide +kernel
theorem dX9_chance_27 : decode cX9_chance 27 = .ok (.lreturn, 1) := by decide +kernel
theorem dX9_chance_28 : decode cX9_chance 28 = .ok (.iload_n 3, 1) := by decide +kernel
theorem dX9_chance_29 : decode cX9_chance 29 = .ok (.ifCond .ne 12, 3) := by decide +kernel
theorem dX9_chance_32 : decode cX9_chance 32 = .ok (.aload_n 0, 1) := by decide +kernel
theorem dX9_chance_33 : decode cX9_chance 33 = .ok (.iload_n 1, 1) := by decide +kernel
theorem dX9_chance_34 : decode cX9_chance 34 = .ok (.iload_n 2, 1) := by decide +kernel
theorem dX9_chance_35 : decode cX9_chance 35 = .ok (.iload 4, 2) := by decide +kernel
theorem dX9_chance_37 : decode cX9_chance 37 = .ok (.invokevirtual 262, 3) := by decide +kernel
theorem dX9_chance_40 : decode cX9_chance 40 = .ok (.lreturn, 1) := by decide +kernel
theorem dX9_chance_41 : decode cX9_chance 41 = .ok (.aload_n 0, 1) := by decide +kernel
theorem dX9_chance_42 : decode cX9_chance 42 = .ok (.iload_n 1, 1) := by decide +kernel
theorem dX9_chance_43 : decode cX9_chance 43 = .ok (.iload_n 2, 1) := by decide +kernel
theorem dX9_chance_44 : decode cX9_chance 44 = .ok (.iload 4, 2) := by decide +kernel
theorem dX9_chance_46 : decode cX9_chance 46 = .ok (.invokevirtual 266, 3) := by decide +kernel
theorem dX9_chance_49 : decode cX9_chance 49 = .ok (.lreturn, 1) := by decide +kernel
theorem dX9_together_0 : decode cX9_together 0 = .ok (.aload_n 0, 1) := by decide +kernel
theorem dX9_together_1 : decode cX9_together 1 = .ok (.iload_n 1, 1) := by decide +kernel
theorem dX9_together_2 : decode cX9_together 2 = .ok (.iload_n 2, 1) := by decide +kernel
theorem dX9_together_3 : decode cX9_together 3 = .ok (.invokevirtual 269, 3) := by decide +kernel
theorem dX9_together_6 : decode cX9_together 6 = .ok (.istore_n 3, 1) := by decide +kernel
theorem dX9_together_7 : decode cX9_together 7 = .ok (.iload_n 3, 1) := by decide +kernel
theorem dX9_together_8 : decode cX9_together 8 = .ok (.ifCond .eq 9, 3) := by decide +kernel
theorem dX9_together_11 : decode cX9_together 11 = .ok (.aload_n 0, 1) := by decide +kernel
theorem dX9_together_12 : decode cX9_together 12 = .ok (.iload_n 3, 1) := by decide +kernel
theorem dX9_together_13 : decode cX9_together 13 = .ok (.invokevirtual 72, 3) := by decide +kernel
theorem dX9_together_16 : decode cX9_together 16 = .ok (.ireturn, 1) := by decide +kernel
theorem dX9_together_17 : decode cX9_together 17 = .ok (.aload_n 0, 1) := by decide +kernel
theorem dX9_together_18 : decode cX9_together 18 = .ok (.getfield 19, 3) := by decide +kernel
theorem dX9_together_21 : decode cX9_together 21 = .ok (.invokevirtual 143, 3) := by decide +kernel
theorem dX9_together_24 : decode cX9_together 24 = .ok (.bipush (-9), 2) := by decide +kernel
theorem dX9_together_26 : decode cX9_together 26 = .ok (.istore 4, 2) := by decide +kernel
theorem dX9_together_28 : decode cX9_together 28 = .ok (.bipush (-9), 2) := by decide +kernel
theorem dX9_together_30 : decode cX9_together 30 = .ok (.istore 5, 2) := by decide +kernel
theorem dX9_together_32 : decode cX9_together 32 = .ok (.iconst 0, 1) := by decide +kernel
theorem dX9_together_33 : decode cX9_together 33 = .ok (.istore 6, 2) := by decide +kernel
theorem dX9_together_35 : decode cX9_together 35 = .ok (.iload 6, 2) := by decide +kernel
theorem dX9_together_37 : decode cX9_together 37 = .ok (.aload_n 0, 1) := by decide +kernel
theorem dX9_together_38 : decode cX9_together 38 = .ok (.getfield 19, 3) := by decide +kernel
theorem dX9_together_41 : decode cX9_together 41 = .ok (.getfield 272, 3) := by decide +kernel
theorem dX9_together_44 : decode cX9_together 44 = .ok (.if_icmp .ge 48, 3) := by decide +kernel
theorem dX9_together_47 : decode cX9_together 47 = .ok (.aload_n 0, 1) := by decide +kernel
theorem dX9_together_48 : decode cX9_together 48 = .ok (.getfield 19, 3) := by decide +kernel
theorem dX9_together_51 : decode cX9_together 51 = .ok (.iload_n 1, 1) := by decide +kernel
theorem dX9_together_52 : decode cX9_together 52 = .ok (.iload 6, 2) := by decide +kernel
theorem dX9_together_54 : decode cX9_together 54 = .ok (.invokevirtual 275, 3) := by decide +kernel
theorem dX9_together_57 : decode cX9_together 57 = .ok (.istore 7, 2) := by decide +kernel
theorem dX9_together_59 : decode cX9_together 59 = .ok (.iload 7, 2) := by decide +kernel
theorem dX9_together_61 : decode cX9_together 61 = .ok (.ifCond .lt 25, 3) := by decide +kernel
theorem dX9_together_64 : decode cX9_together 64 = .ok (.iload 4, 2) := by decide +kernel
theorem dX9_together_66 : decode cX9_together 66 = .ok (.bipush (-9), 2) := by decide +kernel
theorem dX9_together_68 : decode cX9_together 68 = .ok (.if_icmp .eq 10, 3) := by decide +kernel
theorem dX9_together_71 : decode cX9_together 71 = .ok (.iload 7, 2) := by decide +kernel
theorem dX9_together_73 : decode cX9_together 73 = .ok (.iload 4, 2) := by decide +kernel
theorem dX9_together_75 : decode cX9_together 75 = .ok (.if_icmp .ge 11, 3) := by decide +kernel
theorem dX9_together_78 : decode cX9_together 78 = .ok (.iload 7, 2) := by decide +kernel
theorem dX9_together_80 : decode cX9_together 80 = .ok (.istore 4, 2) := by decide +kernel
theorem dX9_together_82 : decode cX9_together 82 = .ok (.iload 6, 2) := by decide +kernel
theorem dX9_together_84 : decode cX9_together 84 = .ok (.istore 5, 2) := by decide +kernel
theorem dX9_together_86 : decode cX9_together 86 = .ok (.iinc 6 1, 3) := by decide +kernel
theorem dX9_together_89 : decode cX9_together 89 = .ok (.goto (-54), 3) := by decide +kernel
theorem dX9_together_92 : decode cX9_together 92 = .ok (.iload_n 2, 1) := by decide +kernel
theorem dX9_together_93 : decode cX9_together 93 = .ok (.ifCond .ne 8, 3) := by decide +kernel
theorem dX9_together_96 : decode cX9_together 96 = .ok (.iload 4, 2) := by decide +kernel
theorem dX9_together_98 : decode cX9_together 98 = .ok (.goto 5, 3) := by decide +kernel
theorem dX9_together_101 : decode cX9_together 101 = .ok (.iload 5, 2) := by decide +kernel
theorem dX9_together_103 : decode cX9_together 103 = .ok (.ireturn, 1) := by decide +kernel
theorem dX9_known_0 : decode cX9_known 0 = .ok (.aload_n 0, 1) := by decide +kernel
theorem dX9_known_1 : decode cX9_known 1 = .ok (.iload_n 1, 1) := by decide +kernel
theorem dX9_known_2 : decode cX9_known 2 = .ok (.iload_n 2, 1) := by decide +kernel
theorem dX9_known_3 : decode cX9_known 3 = .ok (.invokevirtual 269, 3) := by decide +kernel
theorem dX9_known_6 : decode cX9_known 6 = .ok (.istore_n 3, 1) := by decide +kernel
theorem dX9_known_7 : decode cX9_known 7 = .ok (.iload_n 3, 1) := by decide +kernel
theorem dX9_known_8 : decode cX9_known 8 = .ok (.ifCond .eq 9, 3) := by decide +kernel
theorem dX9_known_11 : decode cX9_known 11 = .ok (.aload_n 0, 1) := by decide +kernel
theorem dX9_known_12 : decode cX9_known 12 = .ok (.iload_n 3, 1) := by decide +kernel
theorem dX9_known_13 : decode cX9_known 13 = .ok (.invokevirtual 72, 3) := by decide +kernel
theorem dX9_known_16 : decode cX9_known 16 = .ok (.ireturn, 1) := by decide +kernel
theorem dX9_known_17 : decode cX9_known 17 = .ok (.iconst 0, 1) := by decide +kernel
theorem dX9_known_18 : decode cX9_known 18 = .ok (.istore 4, 2) := by decide +kernel
theorem dX9_known_20 : decode cX9_known 20 = .ok (.iconst (-1), 1) := by decide +kernel
theorem dX9_known_21 : decode cX9_known 21 = .ok (.istore 5, 2) := by decide +kernel
theorem dX9_known_23 : decode cX9_known 23 = .ok (.iconst 0, 1) := by decide +kernel
theorem dX9_known_24 : decode cX9_known 24 = .ok (.istore 6, 2) := by decide +kernel
theorem dX9_known_26 : decode cX9_known 26 = .ok (.iload 6, 2) := by decide +kernel
theorem dX9_known_28 : decode cX9_known 28 = .ok (.bipush 24, 2) := by decide +kernel
theorem dX9_known_30 : decode cX9_known 30 = .ok (.if_icmp .ge 58, 3) := by decide +kernel
theorem dX9_known_33 : decode cX9_known 33 = .ok (.aload_n 0, 1) := by decide +kernel
theorem dX9_known_34 : decode cX9_known 34 = .ok (.getfield 19, 3) := by decide +kernel
theorem dX9_known_37 : decode cX9_known 37 = .ok (.iload 6, 2) := by decide +kernel
theorem dX9_known_39 : decode cX9_known 39 = .ok (.iload_n 1, 1) := by decide +kernel
theorem dX9_known_40 : decode cX9_known 40 = .ok (.invokevirtual 278, 3) := by decide +kernel
theorem dX9_known_43 : decode cX9_known 43 = .ok (.ifCond .eq 39, 3) := by decide +kernel
theorem dX9_known_46 : decode cX9_known 46 = .ok (.iload 4, 2) := by decide +kernel
theorem dX9_known_48 : decode cX9_known 48 = .ok (.aload_n 0, 1) := by decide +kernel
theorem dX9_known_49 : decode cX9_known 49 = .ok (.getfield 19, 3) := by decide +kernel
theorem dX9_known_52 : decode cX9_known 52 = .ok (.getfield 153, 3) := by decide +kernel
theorem dX9_known_55 : decode cX9_known 55 = .ok (.iload 6, 2) := by decide +kernel
theorem dX9_known_57 : decode cX9_known 57 = .ok (.aaload, 1) := by decide +kernel
theorem dX9_known_58 : decode cX9_known 58 = .ok (.getfield 175, 3) := by decide +kernel
theorem dX9_known_61 : decode cX9_known 61 = .ok (.ior, 1) := by decide +kernel
theorem dX9_known_62 : decode cX9_known 62 = .ok (.istore 4, 2) := by decide +kernel
theorem dX9_known_64 : decode cX9_known 64 = .ok (.iload 5, 2) := by decide +kernel
theorem dX9_known_66 : decode cX9_known 66 = .ok (.aload_n 0, 1) := by decide +kernel
theorem dX9_known_67 : decode cX9_known 67 = .ok (.getfield 19, 3) := by decide +kernel
theorem dX9_known_70 : decode cX9_known 70 = .ok (.getfield 153, 3) := by decide +kernel
theorem dX9_known_73 : decode cX9_known 73 = .ok (.iload 6, 2) := by decide +kernel
theorem dX9_known_75 : decode cX9_known 75 = .ok (.aaload, 1) := by decide +kernel
theorem dX9_known_76 : decode cX9_known 76 = .ok (.getfield 175, 3) := by decide +kernel
theorem dX9_known_79 : decode cX9_known 79 = .ok (.iand, 1) := by decide +kernel
theorem dX9_known_80 : decode cX9_known 80 = .ok (.istore 5, 2) := by decide +kernel
theorem dX9_known_82 : decode cX9_known 82 = .ok (.iinc 6 1, 3) := by decide +kernel
theorem dX9_known_85 : decode cX9_known 85 = .ok (.goto (-59), 3) := by decide +kernel
theorem dX9_known_88 : decode cX9_known 88 = .ok (.iload_n 2, 1) := by decide +kernel
theorem dX9_known_89 : decode cX9_known 89 = .ok (.ifCond .ne 8, 3) := by decide +kernel
theorem dX9_known_92 : decode cX9_known 92 = .ok (.iload 4, 2) := by decide +kernel
theorem dX9_known_94 : decode cX9_known 94 = .ok (.goto 5, 3) := by decide +kernel
theorem dX9_known_97 : decode cX9_known 97 = .ok (.iload 5, 2) := by decide +kernel
theorem dX9_known_99 : decode cX9_known 99 = .ok (.ireturn, 1) := by decide +kernel
theorem dX9_row_0 : decode cX9_row 0 = .ok (.iload_n 1, 1) := by decide +kernel
theorem dX9_row_1 : decode cX9_row 1 = .ok (.ifCond .ge 10, 3) := by decide +kernel
theorem dX9_row_4 : decode cX9_row 4 = .ok (.aload_n 0, 1) := by decide +kernel
theorem dX9_row_5 : decode cX9_row 5 = .ok (.bipush (-4), 2) := by decide +kernel
theorem dX9_row_7 : decode cX9_row 7 = .ok (.invokevirtual 72, 3) := by decide +kernel
theorem dX9_row_10 : decode cX9_row 10 = .ok (.ireturn, 1) := by decide +kernel
theorem dX9_row_11 : decode cX9_row 11 = .ok (.iload_n 1, 1) := by decide +kernel
theorem dX9_row_12 : decode cX9_row 12 = .ok (.bipush 99, 2) := by decide +kernel
theorem dX9_row_14 : decode cX9_row 14 = .ok (.if_icmp .gt 12, 3) := by decide +kernel
theorem dX9_row_17 : decode cX9_row 17 = .ok (.aload_n 0, 1) := by decide +kernel
theorem dX9_row_18 : decode cX9_row 18 = .ok (.getfield 65, 3) := by decide +kernel
theorem dX9_row_21 : decode cX9_row 21 = .ok (.bipush 12, 2) := by decide +kernel
theorem dX9_row_23 : decode cX9_row 23 = .ok (.if_icmp .lt 10, 3) := by decide +kernel
theorem dX9_row_26 : decode cX9_row 26 = .ok (.aload_n 0, 1) := by decide +kernel
theorem dX9_row_27 : decode cX9_row 27 = .ok (.bipush (-6), 2) := by decide +kernel
theorem dX9_row_29 : decode cX9_row 29 = .ok (.invokevirtual 72, 3) := by decide +kernel
theorem dX9_row_32 : decode cX9_row 32 = .ok (.ireturn, 1) := by decide +kernel
theorem dX9_row_33 : decode cX9_row 33 = .ok (.aload_n 0, 1) := by decide +kernel
theorem dX9_row_34 : decode cX9_row 34 = .ok (.getfield 61, 3) := by decide +kernel
theorem dX9_row_37 : decode cX9_row 37 = .ok (.aload_n 0, 1) := by decide +kernel
theorem dX9_row_38 : decode cX9_row 38 = .ok (.getfield 65, 3) := by decide +kernel
theorem dX9_row_41 : decode cX9_row 41 = .ok (.iload_n 1, 1) := by decide +kernel
theorem dX9_row_42 : decode cX9_row 42 = .ok (.iastore, 1) := by decide +kernel
theorem dX9_row_43 : decode cX9_row 43 = .ok (.aload_n 0, 1) := by decide +kernel
theorem dX9_row_44 : decode cX9_row 44 = .ok (.dup, 1) := by decide +kernel
theorem dX9_row_45 : decode cX9_row 45 = .ok (.getfield 65, 3) := by decide +kernel
theorem dX9_row_48 : decode cX9_row 48 = .ok (.iconst 1, 1) := by decide +kernel
theorem dX9_row_49 : decode cX9_row 49 = .ok (.iadd, 1) := by decide +kernel
theorem dX9_row_50 : decode cX9_row 50 = .ok (.putfield 65, 3) := by decide +kernel
theorem dX9_row_53 : decode cX9_row 53 = .ok (.aload_n 0, 1) := by decide +kernel
theorem dX9_row_54 : decode cX9_row 54 = .ok (.getfield 65, 3) := by decide +kernel
theorem dX9_row_57 : decode cX9_row 57 = .ok (.ireturn, 1) := by decide +kernel
theorem dX9_judge_0 : decode cX9_judge 0 = .ok (.aload_n 0, 1) := by decide +kernel
theorem dX9_judge_1 : decode cX9_judge 1 = .ok (.getfield 19, 3) := by decide +kernel
theorem dX9_judge_4 : decode cX9_judge 4 = .ok (.iload_n 1, 1) := by decide +kernel
theorem dX9_judge_5 : decode cX9_judge 5 = .ok (.invokevirtual 97, 3) := by decide +kernel
theorem dX9_judge_8 : decode cX9_judge 8 = .ok (.ifCond .ne 9, 3) := by decide +kernel
theorem dX9_judge_11 : decode cX9_judge 11 = .ok (.aload_n 0, 1) := by decide +kernel
theorem dX9_judge_12 : decode cX9_judge 12 = .ok (.iconst (-1), 1) := by decide +kernel
theorem dX9_judge_13 : decode cX9_judge 13 = .ok (.invokevirtual 72, 3) := by decide +kernel
theorem dX9_judge_16 : decode cX9_judge 16 = .ok (.ireturn, 1) := by decide +kernel
theorem dX9_judge_17 : decode cX9_judge 17 = .ok (.aload_n 0, 1) := by decide +kernel
theorem dX9_judge_18 : decode cX9_judge 18 = .ok (.aload_n 0, 1) := by decide +kernel
theorem dX9_judge_19 : decode cX9_judge 19 = .ok (.getfield 19, 3) := by decide +kernel
theorem dX9_judge_22 : decode cX9_judge 22 = .ok (.getfield 101, 3) := by decide +kernel
theorem dX9_judge_25 : decode cX9_judge 25 = .ok (.iload_n 1, 1) := by decide +kernel
theorem dX9_judge_26 : decode cX9_judge 26 = .ok (.aaload, 1) := by decide +kernel
theorem dX9_judge_27 : decode cX9_judge 27 = .ok (.getfield 110, 3) := by decide +kernel
theorem dX9_judge_30 : decode cX9_judge 30 = .ok (.invokevirtual 282, 3) := by decide +kernel
theorem dX9_judge_33 : decode cX9_judge 33 = .ok (.istore_n 2, 1) := by decide +kernel
theorem dX9_judge_34 : decode cX9_judge 34 = .ok (.aload_n 0, 1) := by decide +kernel
theorem dX9_judge_35 : decode cX9_judge 35 = .ok (.iconst 0, 1) := by decide +kernel
theorem dX9_judge_36 : decode cX9_judge 36 = .ok (.putfield 65, 3) := by decide +kernel
theorem dX9_judge_39 : decode cX9_judge 39 = .ok (.iload_n 2, 1) := by decide +kernel
theorem dX9_judge_40 : decode cX9_judge 40 = .ok (.ireturn, 1) := by decide +kernel
theorem dX9_image_0 : decode cX9_image 0 = .ok (.aload_n 0, 1) := by decide +kernel
theorem dX9_image_1 : decode cX9_image 1 = .ok (.getfield 26, 3) := by decide +kernel
theorem dX9_image_4 : decode cX9_image 4 = .ok (.aload_n 0, 1) := by decide +kernel
theorem dX9_image_5 : decode cX9_image 5 = .ok (.getfield 19, 3) := by decide +kernel
theorem dX9_image_8 : decode cX9_image 8 = .ok (.invokevirtual 83, 3) := by decide +kernel
theorem dX9_image_11 : decode cX9_image 11 = .ok (.aload_n 0, 1) := by decide +kernel
theorem dX9_image_12 : decode cX9_image 12 = .ok (.iconst 1, 1) := by decide +kernel
theorem dX9_image_13 : decode cX9_image 13 = .ok (.putfield 29, 3) := by decide +kernel
theorem dX9_image_16 : decode cX9_image 16 = .ok (.aload_n 0, 1) := by decide +kernel
theorem dX9_image_17 : decode cX9_image 17 = .ok (.getfield 19, 3) := by decide +kernel
theorem dX9_image_20 : decode cX9_image 20 = .ok (.invokevirtual 285, 3) := by decide +kernel
theorem dX9_image_23 : decode cX9_image 23 = .ok (.ireturn, 1) := by decide +kernel
theorem dX9_on_0 : decode cX9_on 0 = .ok (.aload_n 0, 1) := by decide +kernel
theorem dX9_on_1 : decode cX9_on 1 = .ok (.getfield 29, 3) := by decide +kernel
theorem dX9_on_4 : decode cX9_on 4 = .ok (.ifCond .ne 10, 3) := by decide +kernel
theorem dX9_on_7 : decode cX9_on 7 = .ok (.aload_n 0, 1) := by decide +kernel
theorem dX9_on_8 : decode cX9_on 8 = .ok (.bipush (-3), 2) := by decide +kernel
theorem dX9_on_10 : decode cX9_on 10 = .ok (.invokevirtual 72, 3) := by decide +kernel
theorem dX9_on_13 : decode cX9_on 13 = .ok (.ireturn, 1) := by decide +kernel
theorem dX9_on_14 : decode cX9_on 14 = .ok (.aload_n 0, 1) := by decide +kernel
theorem dX9_on_15 : decode cX9_on 15 = .ok (.getfield 19, 3) := by decide +kernel
theorem dX9_on_18 : decode cX9_on 18 = .ok (.aload_n 0, 1) := by decide +kernel
theorem dX9_on_19 : decode cX9_on 19 = .ok (.getfield 26, 3) := by decide +kernel
theorem dX9_on_22 : decode cX9_on 22 = .ok (.invokevirtual 83, 3) := by decide +kernel
theorem dX9_on_25 : decode cX9_on 25 = .ok (.aload_n 0, 1) := by decide +kernel
theorem dX9_on_26 : decode cX9_on 26 = .ok (.getfield 50, 3) := by decide +kernel
theorem dX9_on_29 : decode cX9_on 29 = .ok (.invokevirtual 94, 3) := by decide +kernel
theorem dX9_on_32 : decode cX9_on 32 = .ok (.aload_n 0, 1) := by decide +kernel
theorem dX9_on_33 : decode cX9_on 33 = .ok (.getfield 19, 3) := by decide +kernel
theorem dX9_on_36 : decode cX9_on 36 = .ok (.invokevirtual 285, 3) := by decide +kernel
theorem dX9_on_39 : decode cX9_on 39 = .ok (.ireturn, 1) := by decide +kernel
theorem dX9_count_0 : decode cX9_count 0 = .ok (.iload_n 1, 1) := by decide +kernel
theorem dX9_count_1 : decode cX9_count 1 = .ok (.tableswitch 93 0 6 #[43, 51, 59, 67, 75, 80, 85], 43) := by decide +kernel
theorem dX9_count_44 : decode cX9_count 44 = .ok (.aload_n 0, 1) := by decide +kernel
theorem dX9_count_45 : decode cX9_count 45 = .ok (.getfield 19, 3) := by decide +kernel
theorem dX9_count_48 : decode cX9_count 48 = .ok (.getfield 272, 3) := by decide +kernel
theorem dX9_count_51 : decode cX9_count 51 = .ok (.ireturn, 1) := by decide +kernel
theorem dX9_count_52 : decode cX9_count 52 = .ok (.aload_n 0, 1) := by decide +kernel
theorem dX9_count_53 : decode cX9_count 53 = .ok (.getfield 19, 3) := by decide +kernel
theorem dX9_count_56 : decode cX9_count 56 = .ok (.getfield 288, 3) := by decide +kernel
theorem dX9_count_59 : decode cX9_count 59 = .ok (.ireturn, 1) := by decide +kernel
theorem dX9_count_60 : decode cX9_count 60 = .ok (.aload_n 0, 1) := by decide +kernel
theorem dX9_count_61 : decode cX9_count 61 = .ok (.getfield 19, 3) := by decide +kernel
theorem dX9_count_64 : decode cX9_count 64 = .ok (.getfield 291, 3) := by decide +kernel
theorem dX9_count_67 : decode cX9_count 67 = .ok (.ireturn, 1) := by decide +kernel
theorem dX9_count_68 : decode cX9_count 68 = .ok (.aload_n 0, 1) := by decide +kernel
theorem dX9_count_69 : decode cX9_count 69 = .ok (.getfield 19, 3) := by decide +kernel
theorem dX9_count_72 : decode cX9_count 72 = .ok (.invokevirtual 285, 3) := by decide +kernel
theorem dX9_count_75 : decode cX9_count 75 = .ok (.ireturn, 1) := by decide +kernel
theorem dX9_count_76 : decode cX9_count 76 = .ok (.aload_n 0, 1) := by decide +kernel
theorem dX9_count_77 : decode cX9_count 77 = .ok (.invokevirtual 294, 3) := by decide +kernel
theorem dX9_count_80 : decode cX9_count 80 = .ok (.ireturn, 1) := by decide +kernel
theorem dX9_count_81 : decode cX9_count 81 = .ok (.aload_n 0, 1) := by decide +kernel
theorem dX9_count_82 : decode cX9_count 82 = .ok (.getfield 65, 3) := by decide +kernel
theorem dX9_count_85 : decode cX9_count 85 = .ok (.ireturn, 1) := by decide +kernel
theorem dX9_count_86 : decode cX9_count 86 = .ok (.aload_n 0, 1) := by decide +kernel
theorem dX9_count_87 : decode cX9_count 87 = .ok (.getfield 10, 3) := by decide +kernel
theorem dX9_count_90 : decode cX9_count 90 = .ok (.getfield 297, 3) := by decide +kernel
theorem dX9_count_93 : decode cX9_count 93 = .ok (.ireturn, 1) := by decide +kernel
theorem dX9_count_94 : decode cX9_count 94 = .ok (.iload_n 1, 1) := by decide +kernel
theorem dX9_count_95 : decode cX9_count 95 = .ok (.bipush 11, 2) := by decide +kernel
theorem dX9_count_97 : decode cX9_count 97 = .ok (.if_icmp .lt 21, 3) := by decide +kernel
theorem dX9_count_100 : decode cX9_count 100 = .ok (.iload_n 1, 1) := by decide +kernel
theorem dX9_count_101 : decode cX9_count 101 = .ok (.bipush 16, 2) := by decide +kernel
theorem dX9_count_103 : decode cX9_count 103 = .ok (.if_icmp .gt 15, 3) := by decide +kernel
theorem dX9_count_106 : decode cX9_count 106 = .ok (.aload_n 0, 1) := by decide +kernel
theorem dX9_count_107 : decode cX9_count 107 = .ok (.getfield 69, 3) := by decide +kernel
theorem dX9_count_110 : decode cX9_count 110 = .ok (.iload_n 1, 1) := by decide +kernel
theorem dX9_count_111 : decode cX9_count 111 = .ok (.bipush 10, 2) := by decide +kernel
theorem dX9_count_113 : decode cX9_count 113 = .ok (.isub, 1) := by decide +kernel
theorem dX9_count_114 : decode cX9_count 114 = .ok (.iaload, 1) := by decide +kernel
theorem dX9_count_115 : decode cX9_count 115 = .ok (.goto 5, 3) := by decide +kernel
theorem dX9_count_118 : decode cX9_count 118 = .ok (.bipush (-9), 2) := by decide +kernel
theorem dX9_count_120 : decode cX9_count 120 = .ok (.ireturn, 1) := by decide +kernel
theorem dX9_refuse_0 : decode cX9_refuse 0 = .ok (.iload_n 1, 1) := by decide +kernel
theorem dX9_refuse_1 : decode cX9_refuse 1 = .ok (.ineg, 1) := by decide +kernel
theorem dX9_refuse_2 : decode cX9_refuse 2 = .ok (.istore_n 2, 1) := by decide +kernel
theorem dX9_refuse_3 : decode cX9_refuse 3 = .ok (.iload_n 2, 1) := by decide +kernel
theorem dX9_refuse_4 : decode cX9_refuse 4 = .ok (.iconst 1, 1) := by decide +kernel
theorem dX9_refuse_5 : decode cX9_refuse 5 = .ok (.if_icmp .lt 19, 3) := by decide +kernel
theorem dX9_refuse_8 : decode cX9_refuse 8 = .ok (.iload_n 2, 1) := by decide +kernel
theorem dX9_refuse_9 : decode cX9_refuse 9 = .ok (.bipush 6, 2) := by decide +kernel
theorem dX9_refuse_11 : decode cX9_refuse 11 = .ok (.if_icmp .gt 13, 3) := by decide +kernel
theorem dX9_refuse_14 : decode cX9_refuse 14 = .ok (.aload_n 0, 1) := by decide +kernel
theorem dX9_refuse_15 : decode cX9_refuse 15 = .ok (.getfield 69, 3) := by decide +kernel
theorem dX9_refuse_18 : decode cX9_refuse 18 = .ok (.iload_n 2, 1) := by decide +kernel
theorem dX9_refuse_19 : decode cX9_refuse 19 = .ok (.dup2, 1) := by decide +kernel
theorem dX9_refuse_20 : decode cX9_refuse 20 = .ok (.iaload, 1) := by decide +kernel
theorem dX9_refuse_21 : decode cX9_refuse 21 = .ok (.iconst 1, 1) := by decide +kernel
theorem dX9_refuse_22 : decode cX9_refuse 22 = .ok (.iadd, 1) := by decide +kernel
theorem dX9_refuse_23 : decode cX9_refuse 23 = .ok (.iastore, 1) := by decide +kernel
theorem dX9_refuse_24 : decode cX9_refuse 24 = .ok (.iload_n 1, 1) := by decide +kernel
theorem dX9_refuse_25 : decode cX9_refuse 25 = .ok (.ireturn, 1) := by decide +kernel
theorem dX9_refusalOfTime_0 : decode cX9_refusalOfTime 0 = .ok (.aload_n 0, 1) := by decide +kernel
theorem dX9_refusalOfTime_1 : decode cX9_refusalOfTime 1 = .ok (.getfield 19, 3) := by decide +kernel
theorem dX9_refusalOfTime_4 : decode cX9_refusalOfTime 4 = .ok (.iload_n 1, 1) := by decide +kernel
theorem dX9_refusalOfTime_5 : decode cX9_refusalOfTime 5 = .ok (.invokevirtual 150, 3) := by decide +kernel
theorem dX9_refusalOfTime_8 : decode cX9_refusalOfTime 8 = .ok (.ifCond .ne 5, 3) := by decide +kernel
theorem dX9_refusalOfTime_11 : decode cX9_refusalOfTime 11 = .ok (.iconst (-1), 1) := by decide +kernel
theorem dX9_refusalOfTime_12 : decode cX9_refusalOfTime 12 = .ok (.ireturn, 1) := by decide +kernel
theorem dX9_refusalOfTime_13 : decode cX9_refusalOfTime 13 = .ok (.iload_n 2, 1) := by decide +kernel
theorem dX9_refusalOfTime_14 : decode cX9_refusalOfTime 14 = .ok (.iconst 1, 1) := by decide +kernel
theorem dX9_refusalOfTime_15 : decode cX9_refusalOfTime 15 = .ok (.if_icmp .ge 6, 3) := by decide +kernel
theorem dX9_refusalOfTime_18 : decode cX9_refusalOfTime 18 = .ok (.bipush (-4), 2) := by decide +kernel
theorem dX9_refusalOfTime_20 : decode cX9_refusalOfTime 20 = .ok (.ireturn, 1) := by decide +kernel
theorem dX9_refusalOfTime_21 : decode cX9_refusalOfTime 21 = .ok (.iload_n 2, 1) := by decide +kernel
theorem dX9_refusalOfTime_22 : decode cX9_refusalOfTime 22 = .ok (.sipush 600, 3) := by decide +kernel
theorem dX9_refusalOfTime_25 : decode cX9_refusalOfTime 25 = .ok (.if_icmp .le 8, 3) := by decide +kernel
theorem dX9_refusalOfTime_28 : decode cX9_refusalOfTime 28 = .ok (.bipush (-6), 2) := by decide +kernel
theorem dX9_refusalOfTime_30 : decode cX9_refusalOfTime 30 = .ok (.goto 4, 3) := by decide +kernel
theorem dX9_refusalOfTime_33 : decode cX9_refusalOfTime 33 = .ok (.iconst 0, 1) := by decide +kernel
theorem dX9_refusalOfTime_34 : decode cX9_refusalOfTime 34 = .ok (.ireturn, 1) := by decide +kernel
theorem dX9_refusalOfParts_0 : decode cX9_refusalOfParts 0 = .ok (.aload_n 0, 1) := by decide +kernel
theorem dX9_refusalOfParts_1 : decode cX9_refusalOfParts 1 = .ok (.getfield 19, 3) := by decide +kernel
theorem dX9_refusalOfParts_4 : decode cX9_refusalOfParts 4 = .ok (.iload_n 1, 1) := by decide +kernel
theorem dX9_refusalOfParts_5 : decode cX9_refusalOfParts 5 = .ok (.invokevirtual 97, 3) := by decide +kernel
theorem dX9_refusalOfParts_8 : decode cX9_refusalOfParts 8 = .ok (.ifCond .ne 5, 3) := by decide +kernel
theorem dX9_refusalOfParts_11 : decode cX9_refusalOfParts 11 = .ok (.iconst (-1), 1) := by decide +kernel
theorem dX9_refusalOfParts_12 : decode cX9_refusalOfParts 12 = .ok (.ireturn, 1) := by decide +kernel
theorem dX9_refusalOfParts_13 : decode cX9_refusalOfParts 13 = .ok (.iload_n 2, 1) := by decide +kernel
theorem dX9_refusalOfParts_14 : decode cX9_refusalOfParts 14 = .ok (.ifCond .lt 8, 3) := by decide +kernel
theorem dX9_refusalOfParts_17 : decode cX9_refusalOfParts 17 = .ok (.iload_n 2, 1) := by decide +kernel
theorem dX9_refusalOfParts_18 : decode cX9_refusalOfParts 18 = .ok (.iconst 1, 1) := by decide +kernel
theorem dX9_refusalOfParts_19 : decode cX9_refusalOfParts 19 = .ok (.if_icmp .le 6, 3) := by decide +kernel
theorem dX9_refusalOfParts_22 : decode cX9_refusalOfParts 22 = .ok (.bipush (-2), 2) := by decide +kernel
theorem dX9_refusalOfParts_24 : decode cX9_refusalOfParts 24 = .ok (.ireturn, 1) := by decide +kernel
theorem dX9_refusalOfParts_25 : decode cX9_refusalOfParts 25 = .ok (.aload_n 0, 1) := by decide +kernel
theorem dX9_refusalOfParts_26 : decode cX9_refusalOfParts 26 = .ok (.getfield 19, 3) := by decide +kernel
theorem dX9_refusalOfParts_29 : decode cX9_refusalOfParts 29 = .ok (.iload_n 1, 1) := by decide +kernel
theorem dX9_refusalOfParts_30 : decode cX9_refusalOfParts 30 = .ok (.invokevirtual 116, 3) := by decide +kernel
theorem dX9_refusalOfParts_33 : decode cX9_refusalOfParts 33 = .ok (.ifCond .ne 8, 3) := by decide +kernel
theorem dX9_refusalOfParts_36 : decode cX9_refusalOfParts 36 = .ok (.bipush (-3), 2) := by decide +kernel
theorem dX9_refusalOfParts_38 : decode cX9_refusalOfParts 38 = .ok (.goto 4, 3) := by decide +kernel
theorem dX9_refusalOfParts_41 : decode cX9_refusalOfParts 41 = .ok (.iconst 0, 1) := by decide +kernel
theorem dX9_refusalOfParts_42 : decode cX9_refusalOfParts 42 = .ok (.ireturn, 1) := by decide +kernel
theorem dX9_refusalOfChance_0 : decode cX9_refusalOfChance 0 = .ok (.aload_n 0, 1) := by decide +kernel
theorem dX9_refusalOfChance_1 : decode cX9_refusalOfChance 1 = .ok (.getfield 19, 3) := by decide +kernel
theorem dX9_refusalOfChance_4 : decode cX9_refusalOfChance 4 = .ok (.iload_n 1, 1) := by decide +kernel
theorem dX9_refusalOfChance_5 : decode cX9_refusalOfChance 5 = .ok (.invokevirtual 97, 3) := by decide +kernel
theorem dX9_refusalOfChance_8 : decode cX9_refusalOfChance 8 = .ok (.ifCond .ne 5, 3) := by decide +kernel
theorem dX9_refusalOfChance_11 : decode cX9_refusalOfChance 11 = .ok (.iconst (-1), 1) := by decide +kernel
theorem dX9_refusalOfChance_12 : decode cX9_refusalOfChance 12 = .ok (.ireturn, 1) := by decide +kernel
theorem dX9_refusalOfChance_13 : decode cX9_refusalOfChance 13 = .ok (.iload_n 3, 1) := by decide +kernel
theorem dX9_refusalOfChance_14 : decode cX9_refusalOfChance 14 = .ok (.ifCond .lt 19, 3) := by decide +kernel
theorem dX9_refusalOfChance_17 : decode cX9_refusalOfChance 17 = .ok (.iload_n 3, 1) := by decide +kernel
theorem dX9_refusalOfChance_18 : decode cX9_refusalOfChance 18 = .ok (.iconst 1, 1) := by decide +kernel
theorem dX9_refusalOfChance_19 : decode cX9_refusalOfChance 19 = .ok (.if_icmp .gt 14, 3) := by decide +kernel
theorem dX9_refusalOfChance_22 : decode cX9_refusalOfChance 22 = .ok (.iload 4, 2) := by decide +kernel
theorem dX9_refusalOfChance_24 : decode cX9_refusalOfChance 24 = .ok (.ifCond .lt 9, 3) := by decide +kernel
theorem dX9_refusalOfChance_27 : decode cX9_refusalOfChance 27 = .ok (.iload 4, 2) := by decide +kernel
theorem dX9_refusalOfChance_29 : decode cX9_refusalOfChance 29 = .ok (.iconst 1, 1) := by decide +kernel
theorem dX9_refusalOfChance_30 : decode cX9_refusalOfChance 30 = .ok (.if_icmp .le 6, 3) := by decide +kernel
theorem dX9_refusalOfChance_33 : decode cX9_refusalOfChance 33 = .ok (.bipush (-2), 2) := by decide +kernel
theorem dX9_refusalOfChance_35 : decode cX9_refusalOfChance 35 = .ok (.ireturn, 1) := by decide +kernel
theorem dX9_refusalOfChance_36 : decode cX9_refusalOfChance 36 = .ok (.iload_n 2, 1) := by decide +kernel
theorem dX9_refusalOfChance_37 : decode cX9_refusalOfChance 37 = .ok (.ifCond .ge 6, 3) := by decide +kernel
theorem dX9_refusalOfChance_40 : decode cX9_refusalOfChance 40 = .ok (.bipush (-4), 2) := by decide +kernel
theorem dX9_refusalOfChance_42 : decode cX9_refusalOfChance 42 = .ok (.ireturn, 1) := by decide +kernel
theorem dX9_refusalOfChance_43 : decode cX9_refusalOfChance 43 = .ok (.iload_n 2, 1) := by decide +kernel
theorem dX9_refusalOfChance_44 : decode cX9_refusalOfChance 44 = .ok (.bipush 100, 2) := by decide +kernel
theorem dX9_refusalOfChance_46 : decode cX9_refusalOfChance 46 = .ok (.if_icmp .gt 16, 3) := by decide +kernel
theorem dX9_refusalOfChance_49 : decode cX9_refusalOfChance 49 = .ok (.aload_n 0, 1) := by decide +kernel
theorem dX9_refusalOfChance_50 : decode cX9_refusalOfChance 50 = .ok (.getfield 19, 3) := by decide +kernel
theorem dX9_refusalOfChance_53 : decode cX9_refusalOfChance 53 = .ok (.iload_n 1, 1) := by decide +kernel
theorem dX9_refusalOfChance_54 : decode cX9_refusalOfChance 54 = .ok (.invokevirtual 300, 3) := by decide +kernel
theorem dX9_refusalOfChance_57 : decode cX9_refusalOfChance 57 = .ok (.bipush 9, 2) := by decide +kernel
theorem dX9_refusalOfChance_59 : decode cX9_refusalOfChance 59 = .ok (.if_icmp .le 6, 3) := by decide +kernel
theorem dX9_refusalOfChance_62 : decode cX9_refusalOfChance 62 = .ok (.bipush (-6), 2) := by decide +kernel
theorem dX9_refusalOfChance_64 : decode cX9_refusalOfChance 64 = .ok (.ireturn, 1) := by decide +kernel
theorem dX9_refusalOfChance_65 : decode cX9_refusalOfChance 65 = .ok (.aload_n 0, 1) := by decide +kernel
theorem dX9_refusalOfChance_66 : decode cX9_refusalOfChance 66 = .ok (.getfield 19, 3) := by decide +kernel
theorem dX9_refusalOfChance_69 : decode cX9_refusalOfChance 69 = .ok (.iload_n 1, 1) := by decide +kernel
theorem dX9_refusalOfChance_70 : decode cX9_refusalOfChance 70 = .ok (.invokevirtual 116, 3) := by decide +kernel
theorem dX9_refusalOfChance_73 : decode cX9_refusalOfChance 73 = .ok (.ifCond .ne 8, 3) := by decide +kernel
theorem dX9_refusalOfChance_76 : decode cX9_refusalOfChance 76 = .ok (.bipush (-3), 2) := by decide +kernel
theorem dX9_refusalOfChance_78 : decode cX9_refusalOfChance 78 = .ok (.goto 4, 3) := by decide +kernel
theorem dX9_refusalOfChance_81 : decode cX9_refusalOfChance 81 = .ok (.iconst 0, 1) := by decide +kernel
theorem dX9_refusalOfChance_82 : decode cX9_refusalOfChance 82 = .ok (.ireturn, 1) := by decide +kernel
theorem dX9_gatherParts_0 : decode cX9_gatherParts 0 = .ok (.aload_n 0, 1) := by decide +kernel
theorem dX9_gatherParts_1 : decode cX9_gatherParts 1 = .ok (.getfield 36, 3) := by decide +kernel
theorem dX9_gatherParts_4 : decode cX9_gatherParts 4 = .ok (.aload_n 0, 1) := by decide +kernel
theorem dX9_gatherParts_5 : decode cX9_gatherParts 5 = .ok (.getfield 19, 3) := by decide +kernel
theorem dX9_gatherParts_8 : decode cX9_gatherParts 8 = .ok (.getfield 122, 3) := by decide +kernel
theorem dX9_gatherParts_11 : decode cX9_gatherParts 11 = .ok (.iload_n 1, 1) := by decide +kernel
theorem dX9_gatherParts_12 : decode cX9_gatherParts 12 = .ok (.aaload, 1) := by decide +kernel
theorem dX9_gatherParts_13 : decode cX9_gatherParts 13 = .ok (.invokevirtual 245, 3) := by decide +kernel
theorem dX9_gatherParts_16 : decode cX9_gatherParts 16 = .ok (.iconst 0, 1) := by decide +kernel
theorem dX9_gatherParts_17 : decode cX9_gatherParts 17 = .ok (.istore_n 2, 1) := by decide +kernel
theorem dX9_gatherParts_18 : decode cX9_gatherParts 18 = .ok (.iload_n 2, 1) := by decide +kernel
theorem dX9_gatherParts_19 : decode cX9_gatherParts 19 = .ok (.bipush 24, 2) := by decide +kernel
theorem dX9_gatherParts_21 : decode cX9_gatherParts 21 = .ok (.if_icmp .ge 69, 3) := by decide +kernel
theorem dX9_gatherParts_24 : decode cX9_gatherParts 24 = .ok (.aload_n 0, 1) := by decide +kernel
theorem dX9_gatherParts_25 : decode cX9_gatherParts 25 = .ok (.getfield 19, 3) := by decide +kernel
theorem dX9_gatherParts_28 : decode cX9_gatherParts 28 = .ok (.getfield 153, 3) := by decide +kernel
theorem dX9_gatherParts_31 : decode cX9_gatherParts 31 = .ok (.iload_n 2, 1) := by decide +kernel
theorem dX9_gatherParts_32 : decode cX9_gatherParts 32 = .ok (.aaload, 1) := by decide +kernel
theorem dX9_gatherParts_33 : decode cX9_gatherParts 33 = .ok (.astore_n 3, 1) := by decide +kernel
theorem dX9_gatherParts_34 : decode cX9_gatherParts 34 = .ok (.aload_n 0, 1) := by decide +kernel
theorem dX9_gatherParts_35 : decode cX9_gatherParts 35 = .ok (.getfield 19, 3) := by decide +kernel
theorem dX9_gatherParts_38 : decode cX9_gatherParts 38 = .ok (.iload_n 2, 1) := by decide +kernel
theorem dX9_gatherParts_39 : decode cX9_gatherParts 39 = .ok (.invokevirtual 150, 3) := by decide +kernel
theorem dX9_gatherParts_42 : decode cX9_gatherParts 42 = .ok (.ifCond .eq 42, 3) := by decide +kernel
theorem dX9_gatherParts_45 : decode cX9_gatherParts 45 = .ok (.aload_n 3, 1) := by decide +kernel
theorem dX9_gatherParts_46 : decode cX9_gatherParts 46 = .ok (.getfield 166, 3) := by decide +kernel
theorem dX9_gatherParts_49 : decode cX9_gatherParts 49 = .ok (.iload_n 1, 1) := by decide +kernel
theorem dX9_gatherParts_50 : decode cX9_gatherParts 50 = .ok (.if_icmp .ne 34, 3) := by decide +kernel
theorem dX9_gatherParts_53 : decode cX9_gatherParts 53 = .ok (.aload_n 0, 1) := by decide +kernel
theorem dX9_gatherParts_54 : decode cX9_gatherParts 54 = .ok (.getfield 36, 3) := by decide +kernel
theorem dX9_gatherParts_57 : decode cX9_gatherParts 57 = .ok (.aload_n 3, 1) := by decide +kernel
theorem dX9_gatherParts_58 : decode cX9_gatherParts 58 = .ok (.getfield 157, 3) := by decide +kernel
theorem dX9_gatherParts_61 : decode cX9_gatherParts 61 = .ok (.aload_n 0, 1) := by decide +kernel
theorem dX9_gatherParts_62 : decode cX9_gatherParts 62 = .ok (.getfield 19, 3) := by decide +kernel
theorem dX9_gatherParts_65 : decode cX9_gatherParts 65 = .ok (.getfield 101, 3) := by decide +kernel
theorem dX9_gatherParts_68 : decode cX9_gatherParts 68 = .ok (.aload_n 3, 1) := by decide +kernel
theorem dX9_gatherParts_69 : decode cX9_gatherParts 69 = .ok (.getfield 157, 3) := by decide +kernel
theorem dX9_gatherParts_72 : decode cX9_gatherParts 72 = .ok (.aaload, 1) := by decide +kernel
theorem dX9_gatherParts_73 : decode cX9_gatherParts 73 = .ok (.aload_n 3, 1) := by decide +kernel
theorem dX9_gatherParts_74 : decode cX9_gatherParts 74 = .ok (.getfield 162, 3) := by decide +kernel
theorem dX9_gatherParts_77 : decode cX9_gatherParts 77 = .ok (.aload_n 3, 1) := by decide +kernel
theorem dX9_gatherParts_78 : decode cX9_gatherParts 78 = .ok (.getfield 172, 3) := by decide +kernel
theorem dX9_gatherParts_81 : decode cX9_gatherParts 81 = .ok (.invokevirtual 249, 3) := by decide +kernel
theorem dX9_gatherParts_84 : decode cX9_gatherParts 84 = .ok (.iinc 2 1, 3) := by decide +kernel
theorem dX9_gatherParts_87 : decode cX9_gatherParts 87 = .ok (.goto (-69), 3) := by decide +kernel
theorem dX9_gatherParts_90 : decode cX9_gatherParts 90 = .ok (.return_, 1) := by decide +kernel
theorem dX9_worksDone_0 : decode cX9_worksDone 0 = .ok (.iconst 0, 1) := by decide +kernel
theorem dX9_worksDone_1 : decode cX9_worksDone 1 = .ok (.istore_n 1, 1) := by decide +kernel
theorem dX9_worksDone_2 : decode cX9_worksDone 2 = .ok (.iconst 0, 1) := by decide +kernel
theorem dX9_worksDone_3 : decode cX9_worksDone 3 = .ok (.istore_n 2, 1) := by decide +kernel
theorem dX9_worksDone_4 : decode cX9_worksDone 4 = .ok (.iload_n 2, 1) := by decide +kernel
theorem dX9_worksDone_5 : decode cX9_worksDone 5 = .ok (.aload_n 0, 1) := by decide +kernel
theorem dX9_worksDone_6 : decode cX9_worksDone 6 = .ok (.getfield 19, 3) := by decide +kernel
theorem dX9_worksDone_9 : decode cX9_worksDone 9 = .ok (.getfield 291, 3) := by decide +kernel
theorem dX9_worksDone_12 : decode cX9_worksDone 12 = .ok (.if_icmp .ge 27, 3) := by decide +kernel
theorem dX9_worksDone_15 : decode cX9_worksDone 15 = .ok (.aload_n 0, 1) := by decide +kernel
theorem dX9_worksDone_16 : decode cX9_worksDone 16 = .ok (.iload_n 2, 1) := by decide +kernel
theorem dX9_worksDone_17 : decode cX9_worksDone 17 = .ok (.invokevirtual 200, 3) := by decide +kernel
theorem dX9_worksDone_20 : decode cX9_worksDone 20 = .ok (.aload_n 0, 1) := by decide +kernel
theorem dX9_worksDone_21 : decode cX9_worksDone 21 = .ok (.getfield 36, 3) := by decide +kernel
theorem dX9_worksDone_24 : decode cX9_worksDone 24 = .ok (.invokevirtual 253, 3) := by decide +kernel
theorem dX9_worksDone_27 : decode cX9_worksDone 27 = .ok (.ifCond .eq 6, 3) := by decide +kernel
theorem dX9_worksDone_30 : decode cX9_worksDone 30 = .ok (.iinc 1 1, 3) := by decide +kernel
theorem dX9_worksDone_33 : decode cX9_worksDone 33 = .ok (.iinc 2 1, 3) := by decide +kernel
theorem dX9_worksDone_36 : decode cX9_worksDone 36 = .ok (.goto (-32), 3) := by decide +kernel
theorem dX9_worksDone_39 : decode cX9_worksDone 39 = .ok (.iload_n 1, 1) := by decide +kernel
theorem dX9_worksDone_40 : decode cX9_worksDone 40 = .ok (.ireturn, 1) := by decide +kernel
theorem dX9_meanLeft_0 : decode cX9_meanLeft 0 = .ok (.aload_n 0, 1) := by decide +kernel
theorem dX9_meanLeft_1 : decode cX9_meanLeft 1 = .ok (.getfield 19, 3) := by decide +kernel
theorem dX9_meanLeft_4 : decode cX9_meanLeft 4 = .ok (.iload_n 1, 1) := by decide +kernel
theorem dX9_meanLeft_5 : decode cX9_meanLeft 5 = .ok (.invokevirtual 303, 3) := by decide +kernel
theorem dX9_meanLeft_8 : decode cX9_meanLeft 8 = .ok (.i2l, 1) := by decide +kernel
theorem dX9_meanLeft_9 : decode cX9_meanLeft 9 = .ok (.lstore 4, 2) := by decide +kernel
theorem dX9_meanLeft_11 : decode cX9_meanLeft 11 = .ok (.aload_n 0, 1) := by decide +kernel
theorem dX9_meanLeft_12 : decode cX9_meanLeft 12 = .ok (.getfield 19, 3) := by decide +kernel
theorem dX9_meanLeft_15 : decode cX9_meanLeft 15 = .ok (.iload_n 1, 1) := by decide +kernel
theorem dX9_meanLeft_16 : decode cX9_meanLeft 16 = .ok (.invokevirtual 113, 3) := by decide +kernel
theorem dX9_meanLeft_19 : decode cX9_meanLeft 19 = .ok (.i2l, 1) := by decide +kernel
theorem dX9_meanLeft_20 : decode cX9_meanLeft 20 = .ok (.lload 4, 2) := by decide +kernel
theorem dX9_meanLeft_22 : decode cX9_meanLeft 22 = .ok (.lsub, 1) := by decide +kernel
theorem dX9_meanLeft_23 : decode cX9_meanLeft 23 = .ok (.lstore 6, 2) := by decide +kernel
theorem dX9_meanLeft_25 : decode cX9_meanLeft 25 = .ok (.ldc2_w 306, 3) := by decide +kernel
theorem dX9_meanLeft_28 : decode cX9_meanLeft 28 = .ok (.lload 6, 2) := by decide +kernel
theorem dX9_meanLeft_30 : decode cX9_meanLeft 30 = .ok (.lmul, 1) := by decide +kernel
theorem dX9_meanLeft_31 : decode cX9_meanLeft 31 = .ok (.bipush 100, 2) := by decide +kernel
theorem dX9_meanLeft_33 : decode cX9_meanLeft 33 = .ok (.iload_n 2, 1) := by decide +kernel
theorem dX9_meanLeft_34 : decode cX9_meanLeft 34 = .ok (.isub, 1) := by decide +kernel
theorem dX9_meanLeft_35 : decode cX9_meanLeft 35 = .ok (.i2l, 1) := by decide +kernel
theorem dX9_meanLeft_36 : decode cX9_meanLeft 36 = .ok (.lload 4, 2) := by decide +kernel
theorem dX9_meanLeft_38 : decode cX9_meanLeft 38 = .ok (.lmul, 1) := by decide +kernel
theorem dX9_meanLeft_39 : decode cX9_meanLeft 39 = .ok (.ladd, 1) := by decide +kernel
theorem dX9_meanLeft_40 : decode cX9_meanLeft 40 = .ok (.lstore 8, 2) := by decide +kernel
theorem dX9_meanLeft_42 : decode cX9_meanLeft 42 = .ok (.lconst 1, 1) := by decide +kernel
theorem dX9_meanLeft_43 : decode cX9_meanLeft 43 = .ok (.lload 8, 2) := by decide +kernel
theorem dX9_meanLeft_45 : decode cX9_meanLeft 45 = .ok (.ldc2_w 306, 3) := by decide +kernel
theorem dX9_meanLeft_48 : decode cX9_meanLeft 48 = .ok (.invokestatic 308, 3) := by decide +kernel
theorem dX9_meanLeft_51 : decode cX9_meanLeft 51 = .ok (.invokestatic 312, 3) := by decide +kernel
theorem dX9_meanLeft_54 : decode cX9_meanLeft 54 = .ok (.lstore 10, 2) := by decide +kernel
theorem dX9_meanLeft_56 : decode cX9_meanLeft 56 = .ok (.iload_n 3, 1) := by decide +kernel
theorem dX9_meanLeft_57 : decode cX9_meanLeft 57 = .ok (.ifCond .ne 11, 3) := by decide +kernel
theorem dX9_meanLeft_60 : decode cX9_meanLeft 60 = .ok (.lload 8, 2) := by decide +kernel
theorem dX9_meanLeft_62 : decode cX9_meanLeft 62 = .ok (.lload 10, 2) := by decide +kernel
theorem dX9_meanLeft_64 : decode cX9_meanLeft 64 = .ok (.ldiv, 1) := by decide +kernel
theorem dX9_meanLeft_65 : decode cX9_meanLeft 65 = .ok (.goto 9, 3) := by decide +kernel
theorem dX9_meanLeft_68 : decode cX9_meanLeft 68 = .ok (.ldc2_w 306, 3) := by decide +kernel
theorem dX9_meanLeft_71 : decode cX9_meanLeft 71 = .ok (.lload 10, 2) := by decide +kernel
theorem dX9_meanLeft_73 : decode cX9_meanLeft 73 = .ok (.ldiv, 1) := by decide +kernel
theorem dX9_meanLeft_74 : decode cX9_meanLeft 74 = .ok (.lreturn, 1) := by decide +kernel
theorem dX9_allLeft_0 : decode cX9_allLeft 0 = .ok (.lconst 1, 1) := by decide +kernel
theorem dX9_allLeft_1 : decode cX9_allLeft 1 = .ok (.bipush 100, 2) := by decide +kernel
theorem dX9_allLeft_3 : decode cX9_allLeft 3 = .ok (.iload_n 2, 1) := by decide +kernel
theorem dX9_allLeft_4 : decode cX9_allLeft 4 = .ok (.isub, 1) := by decide +kernel
theorem dX9_allLeft_5 : decode cX9_allLeft 5 = .ok (.i2l, 1) := by decide +kernel
theorem dX9_allLeft_6 : decode cX9_allLeft 6 = .ok (.ldc2_w 306, 3) := by decide +kernel
theorem dX9_allLeft_9 : decode cX9_allLeft 9 = .ok (.invokestatic 308, 3) := by decide +kernel
theorem dX9_allLeft_12 : decode cX9_allLeft 12 = .ok (.invokestatic 312, 3) := by decide +kernel
theorem dX9_allLeft_15 : decode cX9_allLeft 15 = .ok (.lstore 4, 2) := by decide +kernel
theorem dX9_allLeft_17 : decode cX9_allLeft 17 = .ok (.iload_n 3, 1) := by decide +kernel
theorem dX9_allLeft_18 : decode cX9_allLeft 18 = .ok (.ifCond .ne 14, 3) := by decide +kernel
theorem dX9_allLeft_21 : decode cX9_allLeft 21 = .ok (.bipush 100, 2) := by decide +kernel
theorem dX9_allLeft_23 : decode cX9_allLeft 23 = .ok (.iload_n 2, 1) := by decide +kernel
theorem dX9_allLeft_24 : decode cX9_allLeft 24 = .ok (.isub, 1) := by decide +kernel
theorem dX9_allLeft_25 : decode cX9_allLeft 25 = .ok (.i2l, 1) := by decide +kernel
theorem dX9_allLeft_26 : decode cX9_allLeft 26 = .ok (.lload 4, 2) := by decide +kernel
theorem dX9_allLeft_28 : decode cX9_allLeft 28 = .ok (.ldiv, 1) := by decide +kernel
theorem dX9_allLeft_29 : decode cX9_allLeft 29 = .ok (.goto 9, 3) := by decide +kernel
theorem dX9_allLeft_32 : decode cX9_allLeft 32 = .ok (.ldc2_w 306, 3) := by decide +kernel
theorem dX9_allLeft_35 : decode cX9_allLeft 35 = .ok (.lload 4, 2) := by decide +kernel
theorem dX9_allLeft_37 : decode cX9_allLeft 37 = .ok (.ldiv, 1) := by decide +kernel
theorem dX9_allLeft_38 : decode cX9_allLeft 38 = .ok (.lstore 6, 2) := by decide +kernel
theorem dX9_allLeft_40 : decode cX9_allLeft 40 = .ok (.aload_n 0, 1) := by decide +kernel
theorem dX9_allLeft_41 : decode cX9_allLeft 41 = .ok (.getfield 19, 3) := by decide +kernel
theorem dX9_allLeft_44 : decode cX9_allLeft 44 = .ok (.iload_n 1, 1) := by decide +kernel
theorem dX9_allLeft_45 : decode cX9_allLeft 45 = .ok (.invokevirtual 300, 3) := by decide +kernel
theorem dX9_allLeft_48 : decode cX9_allLeft 48 = .ok (.istore 8, 2) := by decide +kernel
theorem dX9_allLeft_50 : decode cX9_allLeft 50 = .ok (.lconst 1, 1) := by decide +kernel
theorem dX9_allLeft_51 : decode cX9_allLeft 51 = .ok (.lstore 9, 2) := by decide +kernel
theorem dX9_allLeft_53 : decode cX9_allLeft 53 = .ok (.iconst 0, 1) := by decide +kernel
theorem dX9_allLeft_54 : decode cX9_allLeft 54 = .ok (.istore 11, 2) := by decide +kernel
theorem dX9_allLeft_56 : decode cX9_allLeft 56 = .ok (.iload 11, 2) := by decide +kernel
theorem dX9_allLeft_58 : decode cX9_allLeft 58 = .ok (.iload 8, 2) := by decide +kernel
theorem dX9_allLeft_60 : decode cX9_allLeft 60 = .ok (.if_icmp .ge 16, 3) := by decide +kernel
theorem dX9_allLeft_63 : decode cX9_allLeft 63 = .ok (.lload 9, 2) := by decide +kernel
theorem dX9_allLeft_65 : decode cX9_allLeft 65 = .ok (.lload 6, 2) := by decide +kernel
theorem dX9_allLeft_67 : decode cX9_allLeft 67 = .ok (.lmul, 1) := by decide +kernel
theorem dX9_allLeft_68 : decode cX9_allLeft 68 = .ok (.lstore 9, 2) := by decide +kernel
theorem dX9_allLeft_70 : decode cX9_allLeft 70 = .ok (.iinc 11 1, 3) := by decide +kernel
theorem dX9_allLeft_73 : decode cX9_allLeft 73 = .ok (.goto (-17), 3) := by decide +kernel
theorem dX9_allLeft_76 : decode cX9_allLeft 76 = .ok (.lload 9, 2) := by decide +kernel
theorem dX9_allLeft_78 : decode cX9_allLeft 78 = .ok (.lreturn, 1) := by decide +kernel
theorem dX9_commonDivisor_0 : decode cX9_commonDivisor 0 = .ok (.lload_n 0, 1) := by decide +kernel
theorem dX9_commonDivisor_1 : decode cX9_commonDivisor 1 = .ok (.lstore 4, 2) := by decide +kernel
theorem dX9_commonDivisor_3 : decode cX9_commonDivisor 3 = .ok (.lload_n 2, 1) := by decide +kernel
theorem dX9_commonDivisor_4 : decode cX9_commonDivisor 4 = .ok (.lstore 6, 2) := by decide +kernel
theorem dX9_commonDivisor_6 : decode cX9_commonDivisor 6 = .ok (.iconst 0, 1) := by decide +kernel
theorem dX9_commonDivisor_7 : decode cX9_commonDivisor 7 = .ok (.istore 8, 2) := by decide +kernel
theorem dX9_commonDivisor_9 : decode cX9_commonDivisor 9 = .ok (.iload 8, 2) := by decide +kernel
theorem dX9_commonDivisor_11 : decode cX9_commonDivisor 11 = .ok (.sipush 200, 3) := by decide +kernel
theorem dX9_commonDivisor_14 : decode cX9_commonDivisor 14 = .ok (.if_icmp .ge 31, 3) := by decide +kernel
theorem dX9_commonDivisor_17 : decode cX9_commonDivisor 17 = .ok (.lload 6, 2) := by decide +kernel
theorem dX9_commonDivisor_19 : decode cX9_commonDivisor 19 = .ok (.lconst 0, 1) := by decide +kernel
theorem dX9_commonDivisor_20 : decode cX9_commonDivisor 20 = .ok (.lcmp, 1) := by decide +kernel
theorem dX9_commonDivisor_21 : decode cX9_commonDivisor 21 = .ok (.ifCond .eq 24, 3) := by decide +kernel
theorem dX9_commonDivisor_24 : decode cX9_commonDivisor 24 = .ok (.lload 4, 2) := by decide +kernel
theorem dX9_commonDivisor_26 : decode cX9_commonDivisor 26 = .ok (.lload 6, 2) := by decide +kernel
theorem dX9_commonDivisor_28 : decode cX9_commonDivisor 28 = .ok (.lrem, 1) := by decide +kernel
theorem dX9_commonDivisor_29 : decode cX9_commonDivisor 29 = .ok (.lstore 9, 2) := by decide +kernel
theorem dX9_commonDivisor_31 : decode cX9_commonDivisor 31 = .ok (.lload 6, 2) := by decide +kernel
theorem dX9_commonDivisor_33 : decode cX9_commonDivisor 33 = .ok (.lstore 4, 2) := by decide +kernel
theorem dX9_commonDivisor_35 : decode cX9_commonDivisor 35 = .ok (.lload 9, 2) := by decide +kernel
theorem dX9_commonDivisor_37 : decode cX9_commonDivisor 37 = .ok (.lstore 6, 2) := by decide +kernel
theorem dX9_commonDivisor_39 : decode cX9_commonDivisor 39 = .ok (.iinc 8 1, 3) := by decide +kernel
theorem dX9_commonDivisor_42 : decode cX9_commonDivisor 42 = .ok (.goto (-33), 3) := by decide +kernel
theorem dX9_commonDivisor_45 : decode cX9_commonDivisor 45 = .ok (.lload 4, 2) := by decide +kernel
theorem dX9_commonDivisor_47 : decode cX9_commonDivisor 47 = .ok (.lreturn, 1) := by decide +kernel
theorem dX9_judged_0 : decode cX9_judged 0 = .ok (.iconst 0, 1) := by decide +kernel
theorem dX9_judged_1 : decode cX9_judged 1 = .ok (.istore_n 2, 1) := by decide +kernel
theorem dX9_judged_2 : decode cX9_judged 2 = .ok (.iconst 0, 1) := by decide +kernel
theorem dX9_judged_3 : decode cX9_judged 3 = .ok (.istore_n 3, 1) := by decide +kernel
theorem dX9_judged_4 : decode cX9_judged 4 = .ok (.iload_n 3, 1) := by decide +kernel
theorem dX9_judged_5 : decode cX9_judged 5 = .ok (.aload_n 0, 1) := by decide +kernel
theorem dX9_judged_6 : decode cX9_judged 6 = .ok (.getfield 65, 3) := by decide +kernel
theorem dX9_judged_9 : decode cX9_judged 9 = .ok (.if_icmp .ge 36, 3) := by decide +kernel
theorem dX9_judged_12 : decode cX9_judged 12 = .ok (.iload_n 2, 1) := by decide +kernel
theorem dX9_judged_13 : decode cX9_judged 13 = .ok (.aload_n 0, 1) := by decide +kernel
theorem dX9_judged_14 : decode cX9_judged 14 = .ok (.getfield 61, 3) := by decide +kernel
theorem dX9_judged_17 : decode cX9_judged 17 = .ok (.iload_n 3, 1) := by decide +kernel
theorem dX9_judged_18 : decode cX9_judged 18 = .ok (.iaload, 1) := by decide +kernel
theorem dX9_judged_19 : decode cX9_judged 19 = .ok (.iadd, 1) := by decide +kernel
theorem dX9_judged_20 : decode cX9_judged 20 = .ok (.istore_n 2, 1) := by decide +kernel
theorem dX9_judged_21 : decode cX9_judged 21 = .ok (.aload_n 0, 1) := by decide +kernel
theorem dX9_judged_22 : decode cX9_judged 22 = .ok (.getfield 61, 3) := by decide +kernel
theorem dX9_judged_25 : decode cX9_judged 25 = .ok (.iload_n 3, 1) := by decide +kernel
theorem dX9_judged_26 : decode cX9_judged 26 = .ok (.iaload, 1) := by decide +kernel
theorem dX9_judged_27 : decode cX9_judged 27 = .ok (.iload_n 1, 1) := by decide +kernel
theorem dX9_judged_28 : decode cX9_judged 28 = .ok (.if_icmp .lt 9, 3) := by decide +kernel
theorem dX9_judged_31 : decode cX9_judged 31 = .ok (.iload_n 2, 1) := by decide +kernel
theorem dX9_judged_32 : decode cX9_judged 32 = .ok (.bipush 12, 2) := by decide +kernel
theorem dX9_judged_34 : decode cX9_judged 34 = .ok (.if_icmp .le 5, 3) := by decide +kernel
theorem dX9_judged_37 : decode cX9_judged 37 = .ok (.iload_n 3, 1) := by decide +kernel
theorem dX9_judged_38 : decode cX9_judged 38 = .ok (.ireturn, 1) := by decide +kernel
theorem dX9_judged_39 : decode cX9_judged 39 = .ok (.iinc 3 1, 3) := by decide +kernel
theorem dX9_judged_42 : decode cX9_judged 42 = .ok (.goto (-38), 3) := by decide +kernel
theorem dX9_judged_45 : decode cX9_judged 45 = .ok (.iload_n 2, 1) := by decide +kernel
theorem dX9_judged_46 : decode cX9_judged 46 = .ok (.bipush 12, 2) := by decide +kernel
theorem dX9_judged_48 : decode cX9_judged 48 = .ok (.if_icmp .ge 10, 3) := by decide +kernel
theorem dX9_judged_51 : decode cX9_judged 51 = .ok (.aload_n 0, 1) := by decide +kernel
theorem dX9_judged_52 : decode cX9_judged 52 = .ok (.getfield 65, 3) := by decide +kernel
theorem dX9_judged_55 : decode cX9_judged 55 = .ok (.goto 5, 3) := by decide +kernel
theorem dX9_judged_58 : decode cX9_judged 58 = .ok (.bipush (-9), 2) := by decide +kernel
theorem dX9_judged_60 : decode cX9_judged 60 = .ok (.ireturn, 1) := by decide +kernel
theorem dJ6_bitCount_0f7a4_0 : decode cJ6_bitCount_0f7a4 0 = .ok (.iload_n 0, 1) := by decide +kernel
theorem dJ6_bitCount_0f7a4_1 : decode cJ6_bitCount_0f7a4 1 = .ok (.iload_n 0, 1) := by decide +kernel
theorem dJ6_bitCount_0f7a4_2 : decode cJ6_bitCount_0f7a4 2 = .ok (.iconst 1, 1) := by decide +kernel
theorem dJ6_bitCount_0f7a4_3 : decode cJ6_bitCount_0f7a4 3 = .ok (.iushr, 1) := by decide +kernel
theorem dJ6_bitCount_0f7a4_4 : decode cJ6_bitCount_0f7a4 4 = .ok (.ldc_w 265, 3) := by decide +kernel
theorem dJ6_bitCount_0f7a4_7 : decode cJ6_bitCount_0f7a4 7 = .ok (.iand, 1) := by decide +kernel
theorem dJ6_bitCount_0f7a4_8 : decode cJ6_bitCount_0f7a4 8 = .ok (.isub, 1) := by decide +kernel
theorem dJ6_bitCount_0f7a4_9 : decode cJ6_bitCount_0f7a4 9 = .ok (.istore_n 0, 1) := by decide +kernel
theorem dJ6_bitCount_0f7a4_10 : decode cJ6_bitCount_0f7a4 10 = .ok (.iload_n 0, 1) := by decide +kernel
theorem dJ6_bitCount_0f7a4_11 : decode cJ6_bitCount_0f7a4 11 = .ok (.ldc_w 266, 3) := by decide +kernel
theorem dJ6_bitCount_0f7a4_14 : decode cJ6_bitCount_0f7a4 14 = .ok (.iand, 1) := by decide +kernel
theorem dJ6_bitCount_0f7a4_15 : decode cJ6_bitCount_0f7a4 15 = .ok (.iload_n 0, 1) := by decide +kernel
theorem dJ6_bitCount_0f7a4_16 : decode cJ6_bitCount_0f7a4 16 = .ok (.iconst 2, 1) := by decide +kernel
theorem dJ6_bitCount_0f7a4_17 : decode cJ6_bitCount_0f7a4 17 = .ok (.iushr, 1) := by decide +kernel
theorem dJ6_bitCount_0f7a4_18 : decode cJ6_bitCount_0f7a4 18 = .ok (.ldc_w 266, 3) := by decide +kernel
theorem dJ6_bitCount_0f7a4_21 : decode cJ6_bitCount_0f7a4 21 = .ok (.iand, 1) := by decide +kernel
theorem dJ6_bitCount_0f7a4_22 : decode cJ6_bitCount_0f7a4 22 = .ok (.iadd, 1) := by decide +kernel
theorem dJ6_bitCount_0f7a4_23 : decode cJ6_bitCount_0f7a4 23 = .ok (.istore_n 0, 1) := by decide +kernel
theorem dJ6_bitCount_0f7a4_24 : decode cJ6_bitCount_0f7a4 24 = .ok (.iload_n 0, 1) := by decide +kernel
theorem dJ6_bitCount_0f7a4_25 : decode cJ6_bitCount_0f7a4 25 = .ok (.iload_n 0, 1) := by decide +kernel
theorem dJ6_bitCount_0f7a4_26 : decode cJ6_bitCount_0f7a4 26 = .ok (.iconst 4, 1) := by decide +kernel
theorem dJ6_bitCount_0f7a4_27 : decode cJ6_bitCount_0f7a4 27 = .ok (.iushr, 1) := by decide +kernel
theorem dJ6_bitCount_0f7a4_28 : decode cJ6_bitCount_0f7a4 28 = .ok (.iadd, 1) := by decide +kernel
theorem dJ6_bitCount_0f7a4_29 : decode cJ6_bitCount_0f7a4 29 = .ok (.ldc_w 267, 3) := by decide +kernel
theorem dJ6_bitCount_0f7a4_32 : decode cJ6_bitCount_0f7a4 32 = .ok (.iand, 1) := by decide +kernel
theorem dJ6_bitCount_0f7a4_33 : decode cJ6_bitCount_0f7a4 33 = .ok (.istore_n 0, 1) := by decide +kernel
theorem dJ6_bitCount_0f7a4_34 : decode cJ6_bitCount_0f7a4 34 = .ok (.iload_n 0, 1) := by decide +kernel
theorem dJ6_bitCount_0f7a4_35 : decode cJ6_bitCount_0f7a4 35 = .ok (.iload_n 0, 1) := by decide +kernel
theorem dJ6_bitCount_0f7a4_36 : decode cJ6_bitCount_0f7a4 36 = .ok (.bipush 8, 2) := by decide +kernel
theorem dJ6_bitCount_0f7a4_38 : decode cJ6_bitCount_0f7a4 38 = .ok (.iushr, 1) := by decide +kernel
theorem dJ6_bitCount_0f7a4_39 : decode cJ6_bitCount_0f7a4 39 = .ok (.iadd, 1) := by decide +kernel
theorem dJ6_bitCount_0f7a4_40 : decode cJ6_bitCount_0f7a4 40 = .ok (.istore_n 0, 1) := by decide +kernel
theorem dJ6_bitCount_0f7a4_41 : decode cJ6_bitCount_0f7a4 41 = .ok (.iload_n 0, 1) := by decide +kernel
theorem dJ6_bitCount_0f7a4_42 : decode cJ6_bitCount_0f7a4 42 = .ok (.iload_n 0, 1) := by decide +kernel
theorem dJ6_bitCount_0f7a4_43 : decode cJ6_bitCount_0f7a4 43 = .ok (.bipush 16, 2) := by decide +kernel
theorem dJ6_bitCount_0f7a4_45 : decode cJ6_bitCount_0f7a4 45 = .ok (.iushr, 1) := by decide +kernel
theorem dJ6_bitCount_0f7a4_46 : decode cJ6_bitCount_0f7a4 46 = .ok (.iadd, 1) := by decide +kernel
theorem dJ6_bitCount_0f7a4_47 : decode cJ6_bitCount_0f7a4 47 = .ok (.istore_n 0, 1) := by decide +kernel
theorem dJ6_bitCount_0f7a4_48 : decode cJ6_bitCount_0f7a4 48 = .ok (.iload_n 0, 1) := by decide +kernel
theorem dJ6_bitCount_0f7a4_49 : decode cJ6_bitCount_0f7a4 49 = .ok (.bipush 63, 2) := by decide +kernel
theorem dJ6_bitCount_0f7a4_51 : decode cJ6_bitCount_0f7a4 51 = .ok (.iand, 1) := by decide +kernel
theorem dJ6_bitCount_0f7a4_52 : decode cJ6_bitCount_0f7a4 52 = .ok (.ireturn, 1) := by decide +kernel
theorem dJ9_max_7cf53_0 : decode cJ9_max_7cf53 0 = .ok (.iload_n 0, 1) := by decide +kernel
theorem dJ9_max_7cf53_1 : decode cJ9_max_7cf53 1 = .ok (.iload_n 1, 1) := by decide +kernel
theorem dJ9_max_7cf53_2 : decode cJ9_max_7cf53 2 = .ok (.if_icmp .lt 7, 3) := by decide +kernel
theorem dJ9_max_7cf53_5 : decode cJ9_max_7cf53 5 = .ok (.iload_n 0, 1) := by decide +kernel
theorem dJ9_max_7cf53_6 : decode cJ9_max_7cf53 6 = .ok (.goto 4, 3) := by decide +kernel
theorem dJ9_max_7cf53_9 : decode cJ9_max_7cf53 9 = .ok (.iload_n 1, 1) := by decide +kernel
theorem dJ9_max_7cf53_10 : decode cJ9_max_7cf53 10 = .ok (.ireturn, 1) := by decide +kernel
theorem dJ9_max_f86c9_0 : decode cJ9_max_f86c9 0 = .ok (.lload_n 0, 1) := by decide +kernel
theorem dJ9_max_f86c9_1 : decode cJ9_max_f86c9 1 = .ok (.lload_n 2, 1) := by decide +kernel
theorem dJ9_max_f86c9_2 : decode cJ9_max_f86c9 2 = .ok (.lcmp, 1) := by decide +kernel
theorem dJ9_max_f86c9_3 : decode cJ9_max_f86c9 3 = .ok (.ifCond .lt 7, 3) := by decide +kernel
theorem dJ9_max_f86c9_6 : decode cJ9_max_f86c9 6 = .ok (.lload_n 0, 1) := by decide +kernel
theorem dJ9_max_f86c9_7 : decode cJ9_max_f86c9 7 = .ok (.goto 4, 3) := by decide +kernel
theorem dJ9_max_f86c9_10 : decode cJ9_max_f86c9 10 = .ok (.lload_n 2, 1) := by decide +kernel
theorem dJ9_max_f86c9_11 : decode cJ9_max_f86c9 11 = .ok (.lreturn, 1) := by decide +kernel
theorem dJ9_min_7cf53_0 : decode cJ9_min_7cf53 0 = .ok (.iload_n 0, 1) := by decide +kernel
theorem dJ9_min_7cf53_1 : decode cJ9_min_7cf53 1 = .ok (.iload_n 1, 1) := by decide +kernel
theorem dJ9_min_7cf53_2 : decode cJ9_min_7cf53 2 = .ok (.if_icmp .gt 7, 3) := by decide +kernel
theorem dJ9_min_7cf53_5 : decode cJ9_min_7cf53 5 = .ok (.iload_n 0, 1) := by decide +kernel
theorem dJ9_min_7cf53_6 : decode cJ9_min_7cf53 6 = .ok (.goto 4, 3) := by decide +kernel
theorem dJ9_min_7cf53_9 : decode cJ9_min_7cf53 9 = .ok (.iload_n 1, 1) := by decide +kernel
theorem dJ9_min_7cf53_10 : decode cJ9_min_7cf53 10 = .ok (.ireturn, 1) := by decide +kernel
end
section
theorem dX10_init_0 : decode cX10_init 0 = .ok (.aload_n 0, 1) := by decide +kernel
theorem dX10_init_1 : decode cX10_init 1 = .ok (.invokespecial 1, 3) := by decide +kernel
theorem dX10_init_4 : decode cX10_init 4 = .ok (.aload_n 0, 1) := by decide +kernel
theorem dX10_init_5 : decode cX10_init 5 = .ok (.bipush 7, 2) := by decide +kernel
theorem dX10_init_7 : decode cX10_init 7 = .ok (.newarray .int, 2) := by decide +kernel
theorem dX10_init_9 : decode cX10_init 9 = .ok (.putfield 7, 3) := by decide +kernel
theorem dX10_init_12 : decode cX10_init 12 = .ok (.aload_n 0, 1) := by decide +kernel
theorem dX10_init_13 : decode cX10_init 13 = .ok (.sipush 267, 3) := by decide +kernel
theorem dX10_init_16 : decode cX10_init 16 = .ok (.newarray .int, 2) := by decide +kernel
theorem dX10_init_18 : decode cX10_init 18 = .ok (.putfield 13, 3) := by decide +kernel
theorem dX10_init_21 : decode cX10_init 21 = .ok (.aload_n 0, 1) := by decide +kernel
theorem dX10_init_22 : decode cX10_init 22 = .ok (.sipush 267, 3) := by decide +kernel
theorem dX10_init_25 : decode cX10_init 25 = .ok (.newarray .int, 2) := by decide +kernel
theorem dX10_init_27 : decode cX10_init 27 = .ok (.putfield 16, 3) := by decide +kernel
theorem dX10_init_30 : decode cX10_init 30 = .ok (.aload_n 0, 1) := by decide +kernel
theorem dX10_init_31 : decode cX10_init 31 = .ok (.sipush 267, 3) := by decide +kernel
theorem dX10_init_34 : decode cX10_init 34 = .ok (.newarray .int, 2) := by decide +kernel
theorem dX10_init_36 : decode cX10_init 36 = .ok (.putfield 19, 3) := by decide +kernel
theorem dX10_init_39 : decode cX10_init 39 = .ok (.aload_n 0, 1) := by decide +kernel
theorem dX10_init_40 : decode cX10_init 40 = .ok (.bipush 64, 2) := by decide +kernel
theorem dX10_init_42 : decode cX10_init 42 = .ok (.newarray .int, 2) := by decide +kernel
theorem dX10_init_44 : decode cX10_init 44 = .ok (.putfield 22, 3) := by decide +kernel
theorem dX10_init_47 : decode cX10_init 47 = .ok (.aload_n 0, 1) := by decide +kernel
theorem dX10_init_48 : decode cX10_init 48 = .ok (.bipush 6, 2) := by decide +kernel
theorem dX10_init_50 : decode cX10_init 50 = .ok (.newarray .int, 2) := by decide +kernel
theorem dX10_init_52 : decode cX10_init 52 = .ok (.putfield 25, 3) := by decide +kernel
theorem dX10_init_55 : decode cX10_init 55 = .ok (.aload_n 0, 1) := by decide +kernel
theorem dX10_init_56 : decode cX10_init 56 = .ok (.bipush 36, 2) := by decide +kernel
theorem dX10_init_58 : decode cX10_init 58 = .ok (.newarray .int, 2) := by decide +kernel
theorem dX10_init_60 : decode cX10_init 60 = .ok (.putfield 28, 3) := by decide +kernel
theorem dX10_init_63 : decode cX10_init 63 = .ok (.aload_n 0, 1) := by decide +kernel
theorem dX10_init_64 : decode cX10_init 64 = .ok (.iconst 3, 1) := by decide +kernel
theorem dX10_init_65 : decode cX10_init 65 = .ok (.newarray .int, 2) := by decide +kernel
theorem dX10_init_67 : decode cX10_init 67 = .ok (.putfield 31, 3) := by decide +kernel
theorem dX10_init_70 : decode cX10_init 70 = .ok (.aload_n 0, 1) := by decide +kernel
theorem dX10_init_71 : decode cX10_init 71 = .ok (.bipush 36, 2) := by decide +kernel
theorem dX10_init_73 : decode cX10_init 73 = .ok (.newarray .int, 2) := by decide +kernel
theorem dX10_init_75 : decode cX10_init 75 = .ok (.putfield 34, 3) := by decide +kernel
theorem dX10_init_78 : decode cX10_init 78 = .ok (.aload_n 0, 1) := by decide +kernel
theorem dX10_init_79 : decode cX10_init 79 = .ok (.iconst 3, 1) := by decide +kernel
theorem dX10_init_80 : decode cX10_init 80 = .ok (.newarray .int, 2) := by decide +kernel
theorem dX10_init_82 : decode cX10_init 82 = .ok (.putfield 37, 3) := by decide +kernel
theorem dX10_init_85 : decode cX10_init 85 = .ok (.aload_n 0, 1) := by decide +kernel
theorem dX10_init_86 : decode cX10_init 86 = .ok (.bipush 36, 2) := by decide +kernel
theorem dX10_init_88 : decode cX10_init 88 = .ok (.newarray .int, 2) := by decide +kernel
theorem dX10_init_90 : decode cX10_init 90 = .ok (.putfield 40, 3) := by decide +kernel
theorem dX10_init_93 : decode cX10_init 93 = .ok (.aload_n 0, 1) := by decide +kernel
theorem dX10_init_94 : decode cX10_init 94 = .ok (.bipush 12, 2) := by decide +kernel
theorem dX10_init_96 : decode cX10_init 96 = .ok (.newarray .int, 2) := by decide +kernel
theorem dX10_init_98 : decode cX10_init 98 = .ok (.putfield 43, 3) := by decide +kernel
theorem dX10_init_101 : decode cX10_init 101 = .ok (.aload_n 0, 1) := by decide +kernel
theorem dX10_init_102 : decode cX10_init 102 = .ok (.getfield 13, 3) := by decide +kernel
theorem dX10_init_105 : decode cX10_init 105 = .ok (.iconst 0, 1) := by decide +kernel
theorem dX10_init_106 : decode cX10_init 106 = .ok (.iconst 3, 1) := by decide +kernel
theorem dX10_init_107 : decode cX10_init 107 = .ok (.iastore, 1) := by decide +kernel
theorem dX10_init_108 : decode cX10_init 108 = .ok (.return_, 1) := by decide +kernel
theorem dX10_refuse_0 : decode cX10_refuse 0 = .ok (.aload_n 0, 1) := by decide +kernel
theorem dX10_refuse_1 : decode cX10_refuse 1 = .ok (.getfield 7, 3) := by decide +kernel
theorem dX10_refuse_4 : decode cX10_refuse 4 = .ok (.iload_n 1, 1) := by decide +kernel
theorem dX10_refuse_5 : decode cX10_refuse 5 = .ok (.ineg, 1) := by decide +kernel
theorem dX10_refuse_6 : decode cX10_refuse 6 = .ok (.dup2, 1) := by decide +kernel
theorem dX10_refuse_7 : decode cX10_refuse 7 = .ok (.iaload, 1) := by decide +kernel
theorem dX10_refuse_8 : decode cX10_refuse 8 = .ok (.iconst 1, 1) := by decide +kernel
theorem dX10_refuse_9 : decode cX10_refuse 9 = .ok (.iadd, 1) := by decide +kernel
theorem dX10_refuse_10 : decode cX10_refuse 10 = .ok (.iastore, 1) := by decide +kernel
theorem dX10_refuse_11 : decode cX10_refuse 11 = .ok (.iload_n 1, 1) := by decide +kernel
theorem dX10_refuse_12 : decode cX10_refuse 12 = .ok (.ireturn, 1) := by decide +kernel
theorem dX10_isIn_0 : decode cX10_isIn 0 = .ok (.iload_n 0, 1) := by decide +kernel
theorem dX10_isIn_1 : decode cX10_isIn 1 = .ok (.ifCond .lt 12, 3) := by decide +kernel
theorem dX10_isIn_4 : decode cX10_isIn 4 = .ok (.iload_n 0, 1) := by decide +kernel
theorem dX10_isIn_5 : decode cX10_isIn 5 = .ok (.iload_n 1, 1) := by decide +kernel
theorem dX10_isIn_6 : decode cX10_isIn 6 = .ok (.if_icmp .ge 7, 3) := by decide +kernel
theorem dX10_isIn_9 : decode cX10_isIn 9 = .ok (.iconst 1, 1) := by decide +kernel
theorem dX10_isIn_10 : decode cX10_isIn 10 = .ok (.goto 4, 3) := by decide +kernel
theorem dX10_isIn_13 : decode cX10_isIn 13 = .ok (.iconst 0, 1) := by decide +kernel
theorem dX10_isIn_14 : decode cX10_isIn 14 = .ok (.ireturn, 1) := by decide +kernel
theorem dX10_within_0 : decode cX10_within 0 = .ok (.iload_n 0, 1) := by decide +kernel
theorem dX10_within_1 : decode cX10_within 1 = .ok (.iload_n 1, 1) := by decide +kernel
theorem dX10_within_2 : decode cX10_within 2 = .ok (.if_icmp .ge 8, 3) := by decide +kernel
theorem dX10_within_5 : decode cX10_within 5 = .ok (.bipush (-4), 2) := by decide +kernel
theorem dX10_within_7 : decode cX10_within 7 = .ok (.goto 14, 3) := by decide +kernel
theorem dX10_within_10 : decode cX10_within 10 = .ok (.iload_n 0, 1) := by decide +kernel
theorem dX10_within_11 : decode cX10_within 11 = .ok (.iload_n 2, 1) := by decide +kernel
theorem dX10_within_12 : decode cX10_within 12 = .ok (.if_icmp .le 8, 3) := by decide +kernel
theorem dX10_within_15 : decode cX10_within 15 = .ok (.bipush (-6), 2) := by decide +kernel
theorem dX10_within_17 : decode cX10_within 17 = .ok (.goto 4, 3) := by decide +kernel
theorem dX10_within_20 : decode cX10_within 20 = .ok (.iconst 0, 1) := by decide +kernel
theorem dX10_within_21 : decode cX10_within 21 = .ok (.ireturn, 1) := by decide +kernel
theorem dX10_isSpot_0 : decode cX10_isSpot 0 = .ok (.iload_n 1, 1) := by decide +kernel
theorem dX10_isSpot_1 : decode cX10_isSpot 1 = .ok (.aload_n 0, 1) := by decide +kernel
theorem dX10_isSpot_2 : decode cX10_isSpot 2 = .ok (.getfield 13, 3) := by decide +kernel
theorem dX10_isSpot_5 : decode cX10_isSpot 5 = .ok (.iconst 0, 1) := by decide +kernel
theorem dX10_isSpot_6 : decode cX10_isSpot 6 = .ok (.iaload, 1) := by decide +kernel
theorem dX10_isSpot_7 : decode cX10_isSpot 7 = .ok (.invokestatic 46, 3) := by decide +kernel
theorem dX10_isSpot_10 : decode cX10_isSpot 10 = .ok (.ireturn, 1) := by decide +kernel
theorem dX10_isPerson_0 : decode cX10_isPerson 0 = .ok (.iload_n 1, 1) := by decide +kernel
theorem dX10_isPerson_1 : decode cX10_isPerson 1 = .ok (.aload_n 0, 1) := by decide +kernel
theorem dX10_isPerson_2 : decode cX10_isPerson 2 = .ok (.getfield 13, 3) := by decide +kernel
theorem dX10_isPerson_5 : decode cX10_isPerson 5 = .ok (.iconst 1, 1) := by decide +kernel
theorem dX10_isPerson_6 : decode cX10_isPerson 6 = .ok (.iaload, 1) := by decide +kernel
theorem dX10_isPerson_7 : decode cX10_isPerson 7 = .ok (.invokestatic 46, 3) := by decide +kernel
theorem dX10_isPerson_10 : decode cX10_isPerson 10 = .ok (.ireturn, 1) := by decide +kernel
theorem dX10_isWork_0 : decode cX10_isWork 0 = .ok (.iload_n 1, 1) := by decide +kernel
theorem dX10_isWork_1 : decode cX10_isWork 1 = .ok (.aload_n 0, 1) := by decide +kernel
theorem dX10_isWork_2 : decode cX10_isWork 2 = .ok (.getfield 13, 3) := by decide +kernel
theorem dX10_isWork_5 : decode cX10_isWork 5 = .ok (.iconst 2, 1) := by decide +kernel
theorem dX10_isWork_6 : decode cX10_isWork 6 = .ok (.iaload, 1) := by decide +kernel
theorem dX10_isWork_7 : decode cX10_isWork 7 = .ok (.invokestatic 46, 3) := by decide +kernel
theorem dX10_isWork_10 : decode cX10_isWork 10 = .ok (.ireturn, 1) := by decide +kernel
theorem dX10_isPart_0 : decode cX10_isPart 0 = .ok (.iload_n 1, 1) := by decide +kernel
theorem dX10_isPart_1 : decode cX10_isPart 1 = .ok (.bipush 24, 2) := by decide +kernel
theorem dX10_isPart_3 : decode cX10_isPart 3 = .ok (.invokestatic 46, 3) := by decide +kernel
theorem dX10_isPart_6 : decode cX10_isPart 6 = .ok (.ifCond .eq 16, 3) := by decide +kernel
theorem dX10_isPart_9 : decode cX10_isPart 9 = .ok (.aload_n 0, 1) := by decide +kernel
theorem dX10_isPart_10 : decode cX10_isPart 10 = .ok (.iload_n 1, 1) := by decide +kernel
theorem dX10_isPart_11 : decode cX10_isPart 11 = .ok (.iconst 0, 1) := by decide +kernel
theorem dX10_isPart_12 : decode cX10_isPart 12 = .ok (.invokevirtual 50, 3) := by decide +kernel
theorem dX10_isPart_15 : decode cX10_isPart 15 = .ok (.ifCond .le 7, 3) := by decide +kernel
theorem dX10_isPart_18 : decode cX10_isPart 18 = .ok (.iconst 1, 1) := by decide +kernel
theorem dX10_isPart_19 : decode cX10_isPart 19 = .ok (.goto 4, 3) := by decide +kernel
theorem dX10_isPart_22 : decode cX10_isPart 22 = .ok (.iconst 0, 1) := by decide +kernel
theorem dX10_isPart_23 : decode cX10_isPart 23 = .ok (.ireturn, 1) := by decide +kernel
theorem dX10_get_0 : decode cX10_get 0 = .ok (.aload_n 0, 1) := by decide +kernel
theorem dX10_get_1 : decode cX10_get 1 = .ok (.getfield 13, 3) := by decide +kernel
theorem dX10_get_4 : decode cX10_get 4 = .ok (.bipush 39, 2) := by decide +kernel
theorem dX10_get_6 : decode cX10_get 6 = .ok (.iconst 4, 1) := by decide +kernel
theorem dX10_get_7 : decode cX10_get 7 = .ok (.iload_n 1, 1) := by decide +kernel
theorem dX10_get_8 : decode cX10_get 8 = .ok (.imul, 1) := by decide +kernel
theorem dX10_get_9 : decode cX10_get 9 = .ok (.iadd, 1) := by decide +kernel
theorem dX10_get_10 : decode cX10_get 10 = .ok (.iload_n 2, 1) := by decide +kernel
theorem dX10_get_11 : decode cX10_get 11 = .ok (.iadd, 1) := by decide +kernel
theorem dX10_get_12 : decode cX10_get 12 = .ok (.iaload, 1) := by decide +kernel
theorem dX10_get_13 : decode cX10_get 13 = .ok (.ireturn, 1) := by decide +kernel
theorem dX10_of_0 : decode cX10_of 0 = .ok (.aload_n 0, 1) := by decide +kernel
theorem dX10_of_1 : decode cX10_of 1 = .ok (.getfield 13, 3) := by decide +kernel
theorem dX10_of_4 : decode cX10_of 4 = .ok (.bipush 63, 2) := by decide +kernel
theorem dX10_of_6 : decode cX10_of 6 = .ok (.bipush 6, 2) := by decide +kernel
theorem dX10_of_8 : decode cX10_of 8 = .ok (.iload_n 1, 1) := by decide +kernel
theorem dX10_of_9 : decode cX10_of 9 = .ok (.imul, 1) := by decide +kernel
theorem dX10_of_10 : decode cX10_of 10 = .ok (.iadd, 1) := by decide +kernel
theorem dX10_of_11 : decode cX10_of 11 = .ok (.iload_n 2, 1) := by decide +kernel
theorem dX10_of_12 : decode cX10_of 12 = .ok (.iadd, 1) := by decide +kernel
theorem dX10_of_13 : decode cX10_of 13 = .ok (.iaload, 1) := by decide +kernel
theorem dX10_of_14 : decode cX10_of 14 = .ok (.ireturn, 1) := by decide +kernel
theorem dX10_part_0 : decode cX10_part 0 = .ok (.aload_n 0, 1) := by decide +kernel
theorem dX10_part_1 : decode cX10_part 1 = .ok (.getfield 13, 3) := by decide +kernel
theorem dX10_part_4 : decode cX10_part 4 = .ok (.bipush 99, 2) := by decide +kernel
theorem dX10_part_6 : decode cX10_part 6 = .ok (.bipush 7, 2) := by decide +kernel
theorem dX10_part_8 : decode cX10_part 8 = .ok (.iload_n 1, 1) := by decide +kernel
theorem dX10_part_9 : decode cX10_part 9 = .ok (.imul, 1) := by decide +kernel
theorem dX10_part_10 : decode cX10_part 10 = .ok (.iadd, 1) := by decide +kernel
theorem dX10_part_11 : decode cX10_part 11 = .ok (.iload_n 2, 1) := by decide +kernel
theorem dX10_part_12 : decode cX10_part 12 = .ok (.iadd, 1) := by decide +kernel
theorem dX10_part_13 : decode cX10_part 13 = .ok (.iaload, 1) := by decide +kernel
theorem dX10_part_14 : decode cX10_part 14 = .ok (.ireturn, 1) := by decide +kernel
theorem dX10_puts_0 : decode cX10_puts 0 = .ok (.aload_n 0, 1) := by decide +kernel
theorem dX10_puts_1 : decode cX10_puts 1 = .ok (.getfield 13, 3) := by decide +kernel
theorem dX10_puts_4 : decode cX10_puts 4 = .ok (.bipush 99, 2) := by decide +kernel
theorem dX10_puts_6 : decode cX10_puts 6 = .ok (.bipush 7, 2) := by decide +kernel
theorem dX10_puts_8 : decode cX10_puts 8 = .ok (.iload_n 1, 1) := by decide +kernel
theorem dX10_puts_9 : decode cX10_puts 9 = .ok (.imul, 1) := by decide +kernel
theorem dX10_puts_10 : decode cX10_puts 10 = .ok (.iadd, 1) := by decide +kernel
theorem dX10_puts_11 : decode cX10_puts 11 = .ok (.iload_n 2, 1) := by decide +kernel
theorem dX10_puts_12 : decode cX10_puts 12 = .ok (.iadd, 1) := by decide +kernel
theorem dX10_puts_13 : decode cX10_puts 13 = .ok (.iload_n 3, 1) := by decide +kernel
theorem dX10_puts_14 : decode cX10_puts 14 = .ok (.iastore, 1) := by decide +kernel
theorem dX10_puts_15 : decode cX10_puts 15 = .ok (.return_, 1) := by decide +kernel
theorem dX10_feed_0 : decode cX10_feed 0 = .ok (.iload_n 1, 1) := by decide +kernel
theorem dX10_feed_1 : decode cX10_feed 1 = .ok (.iconst 0, 1) := by decide +kernel
theorem dX10_feed_2 : decode cX10_feed 2 = .ok (.sipush 255, 3) := by decide +kernel
theorem dX10_feed_5 : decode cX10_feed 5 = .ok (.invokestatic 54, 3) := by decide +kernel
theorem dX10_feed_8 : decode cX10_feed 8 = .ok (.istore_n 2, 1) := by decide +kernel
theorem dX10_feed_9 : decode cX10_feed 9 = .ok (.iload_n 2, 1) := by decide +kernel
theorem dX10_feed_10 : decode cX10_feed 10 = .ok (.ifCond .ne 15, 3) := by decide +kernel
theorem dX10_feed_13 : decode cX10_feed 13 = .ok (.aload_n 0, 1) := by decide +kernel
theorem dX10_feed_14 : decode cX10_feed 14 = .ok (.getfield 58, 3) := by decide +kernel
theorem dX10_feed_17 : decode cX10_feed 17 = .ok (.bipush 64, 2) := by decide +kernel
theorem dX10_feed_19 : decode cX10_feed 19 = .ok (.if_icmp .ne 6, 3) := by decide +kernel
theorem dX10_feed_22 : decode cX10_feed 22 = .ok (.bipush (-6), 2) := by decide +kernel
theorem dX10_feed_24 : decode cX10_feed 24 = .ok (.istore_n 2, 1) := by decide +kernel
theorem dX10_feed_25 : decode cX10_feed 25 = .ok (.iload_n 2, 1) := by decide +kernel
theorem dX10_feed_26 : decode cX10_feed 26 = .ok (.ifCond .eq 9, 3) := by decide +kernel
theorem dX10_feed_29 : decode cX10_feed 29 = .ok (.aload_n 0, 1) := by decide +kernel
theorem dX10_feed_30 : decode cX10_feed 30 = .ok (.iload_n 2, 1) := by decide +kernel
theorem dX10_feed_31 : decode cX10_feed 31 = .ok (.invokevirtual 62, 3) := by decide +kernel
theorem dX10_feed_34 : decode cX10_feed 34 = .ok (.ireturn, 1) := by decide +kernel
theorem dX10_feed_35 : decode cX10_feed 35 = .ok (.aload_n 0, 1) := by decide +kernel
theorem dX10_feed_36 : decode cX10_feed 36 = .ok (.getfield 22, 3) := by decide +kernel
theorem dX10_feed_39 : decode cX10_feed 39 = .ok (.aload_n 0, 1) := by decide +kernel
theorem dX10_feed_40 : decode cX10_feed 40 = .ok (.getfield 58, 3) := by decide +kernel
theorem dX10_feed_43 : decode cX10_feed 43 = .ok (.iload_n 1, 1) := by decide +kernel
theorem dX10_feed_44 : decode cX10_feed 44 = .ok (.iastore, 1) := by decide +kernel
theorem dX10_feed_45 : decode cX10_feed 45 = .ok (.aload_n 0, 1) := by decide +kernel
theorem dX10_feed_46 : decode cX10_feed 46 = .ok (.dup, 1) := by decide +kernel
theorem dX10_feed_47 : decode cX10_feed 47 = .ok (.getfield 58, 3) := by decide +kernel
theorem dX10_feed_50 : decode cX10_feed 50 = .ok (.iconst 1, 1) := by decide +kernel
theorem dX10_feed_51 : decode cX10_feed 51 = .ok (.iadd, 1) := by decide +kernel
theorem dX10_feed_52 : decode cX10_feed 52 = .ok (.putfield 58, 3) := by decide +kernel
theorem dX10_feed_55 : decode cX10_feed 55 = .ok (.aload_n 0, 1) := by decide +kernel
theorem dX10_feed_56 : decode cX10_feed 56 = .ok (.getfield 58, 3) := by decide +kernel
theorem dX10_feed_59 : decode cX10_feed 59 = .ok (.ireturn, 1) := by decide +kernel
theorem dX10_sign_0 : decode cX10_sign 0 = .ok (.aload_n 0, 1) := by decide +kernel
theorem dX10_sign_1 : decode cX10_sign 1 = .ok (.getfield 66, 3) := by decide +kernel
theorem dX10_sign_4 : decode cX10_sign 4 = .ok (.aload_n 0, 1) := by decide +kernel
theorem dX10_sign_5 : decode cX10_sign 5 = .ok (.getfield 58, 3) := by decide +kernel
theorem dX10_sign_8 : decode cX10_sign 8 = .ok (.if_icmp .lt 7, 3) := by decide +kernel
theorem dX10_sign_11 : decode cX10_sign 11 = .ok (.iconst (-1), 1) := by decide +kernel
theorem dX10_sign_12 : decode cX10_sign 12 = .ok (.goto 12, 3) := by decide +kernel
theorem dX10_sign_15 : decode cX10_sign 15 = .ok (.aload_n 0, 1) := by decide +kernel
theorem dX10_sign_16 : decode cX10_sign 16 = .ok (.getfield 22, 3) := by decide +kernel
theorem dX10_sign_19 : decode cX10_sign 19 = .ok (.aload_n 0, 1) := by decide +kernel
theorem dX10_sign_20 : decode cX10_sign 20 = .ok (.getfield 66, 3) := by decide +kernel
theorem dX10_sign_23 : decode cX10_sign 23 = .ok (.iaload, 1) := by decide +kernel
theorem dX10_sign_24 : decode cX10_sign 24 = .ok (.ireturn, 1) := by decide +kernel
theorem dX10_takes_0 : decode cX10_takes 0 = .ok (.aload_n 0, 1) := by decide +kernel
theorem dX10_takes_1 : decode cX10_takes 1 = .ok (.invokevirtual 69, 3) := by decide +kernel
theorem dX10_takes_4 : decode cX10_takes 4 = .ok (.iload_n 1, 1) := by decide +kernel
theorem dX10_takes_5 : decode cX10_takes 5 = .ok (.if_icmp .eq 5, 3) := by decide +kernel
theorem dX10_takes_8 : decode cX10_takes 8 = .ok (.iconst 0, 1) := by decide +kernel
theorem dX10_takes_9 : decode cX10_takes 9 = .ok (.ireturn, 1) := by decide +kernel
theorem dX10_takes_10 : decode cX10_takes 10 = .ok (.aload_n 0, 1) := by decide +kernel
theorem dX10_takes_11 : decode cX10_takes 11 = .ok (.dup, 1) := by decide +kernel
theorem dX10_takes_12 : decode cX10_takes 12 = .ok (.getfield 66, 3) := by decide +kernel
theorem dX10_takes_15 : decode cX10_takes 15 = .ok (.iconst 1, 1) := by decide +kernel
theorem dX10_takes_16 : decode cX10_takes 16 = .ok (.iadd, 1) := by decide +kernel
theorem dX10_takes_17 : decode cX10_takes 17 = .ok (.putfield 66, 3) := by decide +kernel
theorem dX10_takes_20 : decode cX10_takes 20 = .ok (.iconst 1, 1) := by decide +kernel
theorem dX10_takes_21 : decode cX10_takes 21 = .ok (.ireturn, 1) := by decide +kernel
theorem dX10_readsNumber_0 : decode cX10_readsNumber 0 = .ok (.aload_n 0, 1) := by decide +kernel
theorem dX10_readsNumber_1 : decode cX10_readsNumber 1 = .ok (.getfield 25, 3) := by decide +kernel
theorem dX10_readsNumber_4 : decode cX10_readsNumber 4 = .ok (.iload_n 1, 1) := by decide +kernel
theorem dX10_readsNumber_5 : decode cX10_readsNumber 5 = .ok (.iconst 0, 1) := by decide +kernel
theorem dX10_readsNumber_6 : decode cX10_readsNumber 6 = .ok (.iastore, 1) := by decide +kernel
theorem dX10_readsNumber_7 : decode cX10_readsNumber 7 = .ok (.iconst 0, 1) := by decide +kernel
theorem dX10_readsNumber_8 : decode cX10_readsNumber 8 = .ok (.istore_n 3, 1) := by decide +kernel
theorem dX10_readsNumber_9 : decode cX10_readsNumber 9 = .ok (.iload_n 3, 1) := by decide +kernel
theorem dX10_readsNumber_10 : decode cX10_readsNumber 10 = .ok (.iload_n 2, 1) := by decide +kernel
theorem dX10_readsNumber_11 : decode cX10_readsNumber 11 = .ok (.if_icmp .ge 60, 3) := by decide +kernel
theorem dX10_readsNumber_14 : decode cX10_readsNumber 14 = .ok (.aload_n 0, 1) := by decide +kernel
theorem dX10_readsNumber_15 : decode cX10_readsNumber 15 = .ok (.invokevirtual 69, 3) := by decide +kernel
theorem dX10_readsNumber_18 : decode cX10_readsNumber 18 = .ok (.bipush 48, 2) := by decide +kernel
theorem dX10_readsNumber_20 : decode cX10_readsNumber 20 = .ok (.if_icmp .lt 51, 3) := by decide +kernel
theorem dX10_readsNumber_23 : decode cX10_readsNumber 23 = .ok (.aload_n 0, 1) := by decide +kernel
theorem dX10_readsNumber_24 : decode cX10_readsNumber 24 = .ok (.invokevirtual 69, 3) := by decide +kernel
theorem dX10_readsNumber_27 : decode cX10_readsNumber 27 = .ok (.bipush 57, 2) := by decide +kernel
theorem dX10_readsNumber_29 : decode cX10_readsNumber 29 = .ok (.if_icmp .gt 42, 3) := by decide +kernel
theorem dX10_readsNumber_32 : decode cX10_readsNumber 32 = .ok (.aload_n 0, 1) := by decide +kernel
theorem dX10_readsNumber_33 : decode cX10_readsNumber 33 = .ok (.getfield 25, 3) := by decide +kernel
theorem dX10_readsNumber_36 : decode cX10_readsNumber 36 = .ok (.iload_n 1, 1) := by decide +kernel
theorem dX10_readsNumber_37 : decode cX10_readsNumber 37 = .ok (.bipush 10, 2) := by decide +kernel
theorem dX10_readsNumber_39 : decode cX10_readsNumber 39 = .ok (.aload_n 0, 1) := by decide +kernel
theorem dX10_readsNumber_40 : decode cX10_readsNumber 40 = .ok (.getfield 25, 3) := by decide +kernel
theorem dX10_readsNumber_43 : decode cX10_readsNumber 43 = .ok (.iload_n 1, 1) := by decide +kernel
theorem dX10_readsNumber_44 : decode cX10_readsNumber 44 = .ok (.iaload, 1) := by decide +kernel
theorem dX10_readsNumber_45 : decode cX10_readsNumber 45 = .ok (.imul, 1) := by decide +kernel
theorem dX10_readsNumber_46 : decode cX10_readsNumber 46 = .ok (.aload_n 0, 1) := by decide +kernel
theorem dX10_readsNumber_47 : decode cX10_readsNumber 47 = .ok (.invokevirtual 69, 3) := by decide +kernel
theorem dX10_readsNumber_50 : decode cX10_readsNumber 50 = .ok (.iadd, 1) := by decide +kernel
theorem dX10_readsNumber_51 : decode cX10_readsNumber 51 = .ok (.bipush 48, 2) := by decide +kernel
theorem dX10_readsNumber_53 : decode cX10_readsNumber 53 = .ok (.isub, 1) := by decide +kernel
theorem dX10_readsNumber_54 : decode cX10_readsNumber 54 = .ok (.iastore, 1) := by decide +kernel
theorem dX10_readsNumber_55 : decode cX10_readsNumber 55 = .ok (.aload_n 0, 1) := by decide +kernel
theorem dX10_readsNumber_56 : decode cX10_readsNumber 56 = .ok (.dup, 1) := by decide +kernel
theorem dX10_readsNumber_57 : decode cX10_readsNumber 57 = .ok (.getfield 66, 3) := by decide +kernel
theorem dX10_readsNumber_60 : decode cX10_readsNumber 60 = .ok (.iconst 1, 1) := by decide +kernel
theorem dX10_readsNumber_61 : decode cX10_readsNumber 61 = .ok (.iadd, 1) := by decide +kernel
theorem dX10_readsNumber_62 : decode cX10_readsNumber 62 = .ok (.putfield 66, 3) := by decide +kernel
theorem dX10_readsNumber_65 : decode cX10_readsNumber 65 = .ok (.iinc 3 1, 3) := by decide +kernel
theorem dX10_readsNumber_68 : decode cX10_readsNumber 68 = .ok (.goto (-59), 3) := by decide +kernel
theorem dX10_readsNumber_71 : decode cX10_readsNumber 71 = .ok (.iload_n 3, 1) := by decide +kernel
theorem dX10_readsNumber_72 : decode cX10_readsNumber 72 = .ok (.ifCond .le 7, 3) := by decide +kernel
theorem dX10_readsNumber_75 : decode cX10_readsNumber 75 = .ok (.iconst 1, 1) := by decide +kernel
theorem dX10_readsNumber_76 : decode cX10_readsNumber 76 = .ok (.goto 4, 3) := by decide +kernel
theorem dX10_readsNumber_79 : decode cX10_readsNumber 79 = .ok (.iconst 0, 1) := by decide +kernel
theorem dX10_readsNumber_80 : decode cX10_readsNumber 80 = .ok (.ireturn, 1) := by decide +kernel
theorem dX10_kindOf_0 : decode cX10_kindOf 0 = .ok (.iload_n 0, 1) := by decide +kernel
theorem dX10_kindOf_1 : decode cX10_kindOf 1 = .ok (.tableswitch 91 104 119 #[89, 91, 91, 91, 83, 91, 91, 91, 79, 91, 91, 87, 85, 91, 91, 81], 79) := by decide +kernel
theorem dX10_kindOf_80 : decode cX10_kindOf 80 = .ok (.iconst 0, 1) := by decide +kernel
theorem dX10_kindOf_81 : decode cX10_kindOf 81 = .ok (.ireturn, 1) := by decide +kernel
theorem dX10_kindOf_82 : decode cX10_kindOf 82 = .ok (.iconst 1, 1) := by decide +kernel
theorem dX10_kindOf_83 : decode cX10_kindOf 83 = .ok (.ireturn, 1) := by decide +kernel
theorem dX10_kindOf_84 : decode cX10_kindOf 84 = .ok (.iconst 2, 1) := by decide +kernel
theorem dX10_kindOf_85 : decode cX10_kindOf 85 = .ok (.ireturn, 1) := by decide +kernel
theorem dX10_kindOf_86 : decode cX10_kindOf 86 = .ok (.iconst 3, 1) := by decide +kernel
theorem dX10_kindOf_87 : decode cX10_kindOf 87 = .ok (.ireturn, 1) := by decide +kernel
theorem dX10_kindOf_88 : decode cX10_kindOf 88 = .ok (.iconst 4, 1) := by decide +kernel
theorem dX10_kindOf_89 : decode cX10_kindOf 89 = .ok (.ireturn, 1) := by decide +kernel
theorem dX10_kindOf_90 : decode cX10_kindOf 90 = .ok (.iconst 5, 1) := by decide +kernel
theorem dX10_kindOf_91 : decode cX10_kindOf 91 = .ok (.ireturn, 1) := by decide +kernel
theorem dX10_kindOf_92 : decode cX10_kindOf 92 = .ok (.bipush (-9), 2) := by decide +kernel
theorem dX10_kindOf_94 : decode cX10_kindOf 94 = .ok (.ireturn, 1) := by decide +kernel
theorem dX10_readsStatement_0 : decode cX10_readsStatement 0 = .ok (.aload_n 0, 1) := by decide +kernel
theorem dX10_readsStatement_1 : decode cX10_readsStatement 1 = .ok (.invokevirtual 69, 3) := by decide +kernel
theorem dX10_readsStatement_4 : decode cX10_readsStatement 4 = .ok (.istore_n 1, 1) := by decide +kernel
theorem dX10_readsStatement_5 : decode cX10_readsStatement 5 = .ok (.iload_n 1, 1) := by decide +kernel
theorem dX10_readsStatement_6 : decode cX10_readsStatement 6 = .ok (.bipush 110, 2) := by decide +kernel
theorem dX10_readsStatement_8 : decode cX10_readsStatement 8 = .ok (.if_icmp .eq 23, 3) := by decide +kernel
theorem dX10_readsStatement_11 : decode cX10_readsStatement 11 = .ok (.iload_n 1, 1) := by decide +kernel
theorem dX10_readsStatement_12 : decode cX10_readsStatement 12 = .ok (.bipush 119, 2) := by decide +kernel
theorem dX10_readsStatement_14 : decode cX10_readsStatement 14 = .ok (.if_icmp .eq 17, 3) := by decide +kernel
theorem dX10_readsStatement_17 : decode cX10_readsStatement 17 = .ok (.iload_n 1, 1) := by decide +kernel
theorem dX10_readsStatement_18 : decode cX10_readsStatement 18 = .ok (.bipush 112, 2) := by decide +kernel
theorem dX10_readsStatement_20 : decode cX10_readsStatement 20 = .ok (.if_icmp .eq 11, 3) := by decide +kernel
theorem dX10_readsStatement_23 : decode cX10_readsStatement 23 = .ok (.iload_n 1, 1) := by decide +kernel
theorem dX10_readsStatement_24 : decode cX10_readsStatement 24 = .ok (.bipush 107, 2) := by decide +kernel
theorem dX10_readsStatement_26 : decode cX10_readsStatement 26 = .ok (.if_icmp .eq 5, 3) := by decide +kernel
theorem dX10_readsStatement_29 : decode cX10_readsStatement 29 = .ok (.iconst 0, 1) := by decide +kernel
theorem dX10_readsStatement_30 : decode cX10_readsStatement 30 = .ok (.ireturn, 1) := by decide +kernel
theorem dX10_readsStatement_31 : decode cX10_readsStatement 31 = .ok (.aload_n 0, 1) := by decide +kernel
theorem dX10_readsStatement_32 : decode cX10_readsStatement 32 = .ok (.dup, 1) := by decide +kernel
theorem dX10_readsStatement_33 : decode cX10_readsStatement 33 = .ok (.getfield 66, 3) := by decide +kernel
theorem dX10_readsStatement_36 : decode cX10_readsStatement 36 = .ok (.iconst 1, 1) := by decide +kernel
theorem dX10_readsStatement_37 : decode cX10_readsStatement 37 = .ok (.iadd, 1) := by decide +kernel
theorem dX10_readsStatement_38 : decode cX10_readsStatement 38 = .ok (.putfield 66, 3) := by decide +kernel
theorem dX10_readsStatement_41 : decode cX10_readsStatement 41 = .ok (.iconst 0, 1) := by decide +kernel
theorem dX10_readsStatement_42 : decode cX10_readsStatement 42 = .ok (.istore_n 2, 1) := by decide +kernel
theorem dX10_readsStatement_43 : decode cX10_readsStatement 43 = .ok (.iload_n 1, 1) := by decide +kernel
theorem dX10_readsStatement_44 : decode cX10_readsStatement 44 = .ok (.lookupswitch 163 #[(110, 36), (112, 91), (119, 46)], 36) := by decide +kernel
theorem dX10_readsStatement_80 : decode cX10_readsStatement 80 = .ok (.aload_n 0, 1) := by decide +kernel
theorem dX10_readsStatement_81 : decode cX10_readsStatement 81 = .ok (.iconst 0, 1) := by decide +kernel
theorem dX10_readsStatement_82 : decode cX10_readsStatement 82 = .ok (.iconst 1, 1) := by decide +kernel
theorem dX10_readsStatement_83 : decode cX10_readsStatement 83 = .ok (.invokevirtual 73, 3) := by decide +kernel
theorem dX10_readsStatement_86 : decode cX10_readsStatement 86 = .ok (.istore_n 2, 1) := by decide +kernel
theorem dX10_readsStatement_87 : decode cX10_readsStatement 87 = .ok (.goto 232, 3) := by decide +kernel
theorem dX10_readsStatement_90 : decode cX10_readsStatement 90 = .ok (.aload_n 0, 1) := by decide +kernel
theorem dX10_readsStatement_91 : decode cX10_readsStatement 91 = .ok (.iconst 0, 1) := by decide +kernel
theorem dX10_readsStatement_92 : decode cX10_readsStatement 92 = .ok (.iconst 1, 1) := by decide +kernel
theorem dX10_readsStatement_93 : decode cX10_readsStatement 93 = .ok (.invokevirtual 73, 3) := by decide +kernel
theorem dX10_readsStatement_96 : decode cX10_readsStatement 96 = .ok (.ifCond .eq 34, 3) := by decide +kernel
theorem dX10_readsStatement_99 : decode cX10_readsStatement 99 = .ok (.aload_n 0, 1) := by decide +kernel
theorem dX10_readsStatement_100 : decode cX10_readsStatement 100 = .ok (.iconst 1, 1) := by decide +kernel
theorem dX10_readsStatement_101 : decode cX10_readsStatement 101 = .ok (.iconst 1, 1) := by decide +kernel
theorem dX10_readsStatement_102 : decode cX10_readsStatement 102 = .ok (.invokevirtual 73, 3) := by decide +kernel
theorem dX10_readsStatement_105 : decode cX10_readsStatement 105 = .ok (.ifCond .eq 25, 3) := by decide +kernel
theorem dX10_readsStatement_108 : decode cX10_readsStatement 108 = .ok (.aload_n 0, 1) := by decide +kernel
theorem dX10_readsStatement_109 : decode cX10_readsStatement 109 = .ok (.bipush 44, 2) := by decide +kernel
theorem dX10_readsStatement_111 : decode cX10_readsStatement 111 = .ok (.invokevirtual 76, 3) := by decide +kernel
theorem dX10_readsStatement_114 : decode cX10_readsStatement 114 = .ok (.ifCond .eq 16, 3) := by decide +kernel
theorem dX10_readsStatement_117 : decode cX10_readsStatement 117 = .ok (.aload_n 0, 1) := by decide +kernel
theorem dX10_readsStatement_118 : decode cX10_readsStatement 118 = .ok (.iconst 2, 1) := by decide +kernel
theorem dX10_readsStatement_119 : decode cX10_readsStatement 119 = .ok (.iconst 2, 1) := by decide +kernel
theorem dX10_readsStatement_120 : decode cX10_readsStatement 120 = .ok (.invokevirtual 73, 3) := by decide +kernel
theorem dX10_readsStatement_123 : decode cX10_readsStatement 123 = .ok (.ifCond .eq 7, 3) := by decide +kernel
theorem dX10_readsStatement_126 : decode cX10_readsStatement 126 = .ok (.iconst 1, 1) := by decide +kernel
theorem dX10_readsStatement_127 : decode cX10_readsStatement 127 = .ok (.goto 4, 3) := by decide +kernel
theorem dX10_readsStatement_130 : decode cX10_readsStatement 130 = .ok (.iconst 0, 1) := by decide +kernel
theorem dX10_readsStatement_131 : decode cX10_readsStatement 131 = .ok (.istore_n 2, 1) := by decide +kernel
theorem dX10_readsStatement_132 : decode cX10_readsStatement 132 = .ok (.goto 187, 3) := by decide +kernel
theorem dX10_readsStatement_135 : decode cX10_readsStatement 135 = .ok (.aload_n 0, 1) := by decide +kernel
theorem dX10_readsStatement_136 : decode cX10_readsStatement 136 = .ok (.iconst 0, 1) := by decide +kernel
theorem dX10_readsStatement_137 : decode cX10_readsStatement 137 = .ok (.iconst 2, 1) := by decide +kernel
theorem dX10_readsStatement_138 : decode cX10_readsStatement 138 = .ok (.invokevirtual 73, 3) := by decide +kernel
theorem dX10_readsStatement_141 : decode cX10_readsStatement 141 = .ok (.ifCond .eq 61, 3) := by decide +kernel
theorem dX10_readsStatement_144 : decode cX10_readsStatement 144 = .ok (.aload_n 0, 1) := by decide +kernel
theorem dX10_readsStatement_145 : decode cX10_readsStatement 145 = .ok (.bipush 44, 2) := by decide +kernel
theorem dX10_readsStatement_147 : decode cX10_readsStatement 147 = .ok (.invokevirtual 76, 3) := by decide +kernel
theorem dX10_readsStatement_150 : decode cX10_readsStatement 150 = .ok (.ifCond .eq 52, 3) := by decide +kernel
theorem dX10_readsStatement_153 : decode cX10_readsStatement 153 = .ok (.aload_n 0, 1) := by decide +kernel
theorem dX10_readsStatement_154 : decode cX10_readsStatement 154 = .ok (.iconst 1, 1) := by decide +kernel
theorem dX10_readsStatement_155 : decode cX10_readsStatement 155 = .ok (.iconst 2, 1) := by decide +kernel
theorem dX10_readsStatement_156 : decode cX10_readsStatement 156 = .ok (.invokevirtual 73, 3) := by decide +kernel
theorem dX10_readsStatement_159 : decode cX10_readsStatement 159 = .ok (.ifCond .eq 43, 3) := by decide +kernel
theorem dX10_readsStatement_162 : decode cX10_readsStatement 162 = .ok (.aload_n 0, 1) := by decide +kernel
theorem dX10_readsStatement_163 : decode cX10_readsStatement 163 = .ok (.bipush 44, 2) := by decide +kernel
theorem dX10_readsStatement_165 : decode cX10_readsStatement 165 = .ok (.invokevirtual 76, 3) := by decide +kernel
theorem dX10_readsStatement_168 : decode cX10_readsStatement 168 = .ok (.ifCond .eq 34, 3) := by decide +kernel
theorem dX10_readsStatement_171 : decode cX10_readsStatement 171 = .ok (.aload_n 0, 1) := by decide +kernel
theorem dX10_readsStatement_172 : decode cX10_readsStatement 172 = .ok (.iconst 2, 1) := by decide +kernel
theorem dX10_readsStatement_173 : decode cX10_readsStatement 173 = .ok (.iconst 2, 1) := by decide +kernel
theorem dX10_readsStatement_174 : decode cX10_readsStatement 174 = .ok (.invokevirtual 73, 3) := by decide +kernel
theorem dX10_readsStatement_177 : decode cX10_readsStatement 177 = .ok (.ifCond .eq 25, 3) := by decide +kernel
theorem dX10_readsStatement_180 : decode cX10_readsStatement 180 = .ok (.aload_n 0, 1) := by decide +kernel
theorem dX10_readsStatement_181 : decode cX10_readsStatement 181 = .ok (.bipush 44, 2) := by decide +kernel
theorem dX10_readsStatement_183 : decode cX10_readsStatement 183 = .ok (.invokevirtual 76, 3) := by decide +kernel
theorem dX10_readsStatement_186 : decode cX10_readsStatement 186 = .ok (.ifCond .eq 16, 3) := by decide +kernel
theorem dX10_readsStatement_189 : decode cX10_readsStatement 189 = .ok (.aload_n 0, 1) := by decide +kernel
theorem dX10_readsStatement_190 : decode cX10_readsStatement 190 = .ok (.iconst 3, 1) := by decide +kernel
theorem dX10_readsStatement_191 : decode cX10_readsStatement 191 = .ok (.iconst 2, 1) := by decide +kernel
theorem dX10_readsStatement_192 : decode cX10_readsStatement 192 = .ok (.invokevirtual 73, 3) := by decide +kernel
theorem dX10_readsStatement_195 : decode cX10_readsStatement 195 = .ok (.ifCond .eq 7, 3) := by decide +kernel
theorem dX10_readsStatement_198 : decode cX10_readsStatement 198 = .ok (.iconst 1, 1) := by decide +kernel
theorem dX10_readsStatement_199 : decode cX10_readsStatement 199 = .ok (.goto 4, 3) := by decide +kernel
theorem dX10_readsStatement_202 : decode cX10_readsStatement 202 = .ok (.iconst 0, 1) := by decide +kernel
theorem dX10_readsStatement_203 : decode cX10_readsStatement 203 = .ok (.istore_n 2, 1) := by decide +kernel
theorem dX10_readsStatement_204 : decode cX10_readsStatement 204 = .ok (.goto 115, 3) := by decide +kernel
theorem dX10_readsStatement_207 : decode cX10_readsStatement 207 = .ok (.aload_n 0, 1) := by decide +kernel
theorem dX10_readsStatement_208 : decode cX10_readsStatement 208 = .ok (.getfield 25, 3) := by decide +kernel
theorem dX10_readsStatement_211 : decode cX10_readsStatement 211 = .ok (.iconst 0, 1) := by decide +kernel
theorem dX10_readsStatement_212 : decode cX10_readsStatement 212 = .ok (.aload_n 0, 1) := by decide +kernel
theorem dX10_readsStatement_213 : decode cX10_readsStatement 213 = .ok (.invokevirtual 69, 3) := by decide +kernel
theorem dX10_readsStatement_216 : decode cX10_readsStatement 216 = .ok (.invokestatic 80, 3) := by decide +kernel
theorem dX10_readsStatement_219 : decode cX10_readsStatement 219 = .ok (.iastore, 1) := by decide +kernel
theorem dX10_readsStatement_220 : decode cX10_readsStatement 220 = .ok (.aload_n 0, 1) := by decide +kernel
theorem dX10_readsStatement_221 : decode cX10_readsStatement 221 = .ok (.getfield 25, 3) := by decide +kernel
theorem dX10_readsStatement_224 : decode cX10_readsStatement 224 = .ok (.iconst 0, 1) := by decide +kernel
theorem dX10_readsStatement_225 : decode cX10_readsStatement 225 = .ok (.iaload, 1) := by decide +kernel
theorem dX10_readsStatement_226 : decode cX10_readsStatement 226 = .ok (.ifCond .ge 5, 3) := by decide +kernel
theorem dX10_readsStatement_229 : decode cX10_readsStatement 229 = .ok (.iconst 0, 1) := by decide +kernel
theorem dX10_readsStatement_230 : decode cX10_readsStatement 230 = .ok (.ireturn, 1) := by decide +kernel
theorem dX10_readsStatement_231 : decode cX10_readsStatement 231 = .ok (.aload_n 0, 1) := by decide +kernel
theorem dX10_readsStatement_232 : decode cX10_readsStatement 232 = .ok (.dup, 1) := by decide +kernel
theorem dX10_readsStatement_233 : decode cX10_readsStatement 233 = .ok (.getfield 66, 3) := by decide +kernel
theorem dX10_readsStatement_236 : decode cX10_readsStatement 236 = .ok (.iconst 1, 1) := by decide +kernel
theorem dX10_readsStatement_237 : decode cX10_readsStatement 237 = .ok (.iadd, 1) := by decide +kernel
theorem dX10_readsStatement_238 : decode cX10_readsStatement 238 = .ok (.putfield 66, 3) := by decide +kernel
theorem dX10_readsStatement_241 : decode cX10_readsStatement 241 = .ok (.aload_n 0, 1) := by decide +kernel
theorem dX10_readsStatement_242 : decode cX10_readsStatement 242 = .ok (.iconst 1, 1) := by decide +kernel
theorem dX10_readsStatement_243 : decode cX10_readsStatement 243 = .ok (.iconst 1, 1) := by decide +kernel
theorem dX10_readsStatement_244 : decode cX10_readsStatement 244 = .ok (.invokevirtual 73, 3) := by decide +kernel
theorem dX10_readsStatement_247 : decode cX10_readsStatement 247 = .ok (.ifCond .eq 70, 3) := by decide +kernel
theorem dX10_readsStatement_250 : decode cX10_readsStatement 250 = .ok (.aload_n 0, 1) := by decide +kernel
theorem dX10_readsStatement_251 : decode cX10_readsStatement 251 = .ok (.iconst 2, 1) := by decide +kernel
theorem dX10_readsStatement_252 : decode cX10_readsStatement 252 = .ok (.iconst 3, 1) := by decide +kernel
theorem dX10_readsStatement_253 : decode cX10_readsStatement 253 = .ok (.invokevirtual 73, 3) := by decide +kernel
theorem dX10_readsStatement_256 : decode cX10_readsStatement 256 = .ok (.ifCond .eq 61, 3) := by decide +kernel
theorem dX10_readsStatement_259 : decode cX10_readsStatement 259 = .ok (.aload_n 0, 1) := by decide +kernel
theorem dX10_readsStatement_260 : decode cX10_readsStatement 260 = .ok (.bipush 44, 2) := by decide +kernel
theorem dX10_readsStatement_262 : decode cX10_readsStatement 262 = .ok (.invokevirtual 76, 3) := by decide +kernel
theorem dX10_readsStatement_265 : decode cX10_readsStatement 265 = .ok (.ifCond .eq 52, 3) := by decide +kernel
theorem dX10_readsStatement_268 : decode cX10_readsStatement 268 = .ok (.aload_n 0, 1) := by decide +kernel
theorem dX10_readsStatement_269 : decode cX10_readsStatement 269 = .ok (.iconst 3, 1) := by decide +kernel
theorem dX10_readsStatement_270 : decode cX10_readsStatement 270 = .ok (.iconst 3, 1) := by decide +kernel
theorem dX10_readsStatement_271 : decode cX10_readsStatement 271 = .ok (.invokevirtual 73, 3) := by decide +kernel
theorem dX10_readsStatement_274 : decode cX10_readsStatement 274 = .ok (.ifCond .eq 43, 3) := by decide +kernel
theorem dX10_readsStatement_277 : decode cX10_readsStatement 277 = .ok (.aload_n 0, 1) := by decide +kernel
theorem dX10_readsStatement_278 : decode cX10_readsStatement 278 = .ok (.bipush 44, 2) := by decide +kernel
theorem dX10_readsStatement_280 : decode cX10_readsStatement 280 = .ok (.invokevirtual 76, 3) := by decide +kernel
theorem dX10_readsStatement_283 : decode cX10_readsStatement 283 = .ok (.ifCond .eq 34, 3) := by decide +kernel
theorem dX10_readsStatement_286 : decode cX10_readsStatement 286 = .ok (.aload_n 0, 1) := by decide +kernel
theorem dX10_readsStatement_287 : decode cX10_readsStatement 287 = .ok (.iconst 4, 1) := by decide +kernel
theorem dX10_readsStatement_288 : decode cX10_readsStatement 288 = .ok (.iconst 3, 1) := by decide +kernel
theorem dX10_readsStatement_289 : decode cX10_readsStatement 289 = .ok (.invokevirtual 73, 3) := by decide +kernel
theorem dX10_readsStatement_292 : decode cX10_readsStatement 292 = .ok (.ifCond .eq 25, 3) := by decide +kernel
theorem dX10_readsStatement_295 : decode cX10_readsStatement 295 = .ok (.aload_n 0, 1) := by decide +kernel
theorem dX10_readsStatement_296 : decode cX10_readsStatement 296 = .ok (.bipush 44, 2) := by decide +kernel
theorem dX10_readsStatement_298 : decode cX10_readsStatement 298 = .ok (.invokevirtual 76, 3) := by decide +kernel
theorem dX10_readsStatement_301 : decode cX10_readsStatement 301 = .ok (.ifCond .eq 16, 3) := by decide +kernel
theorem dX10_readsStatement_304 : decode cX10_readsStatement 304 = .ok (.aload_n 0, 1) := by decide +kernel
theorem dX10_readsStatement_305 : decode cX10_readsStatement 305 = .ok (.iconst 5, 1) := by decide +kernel
theorem dX10_readsStatement_306 : decode cX10_readsStatement 306 = .ok (.iconst 2, 1) := by decide +kernel
theorem dX10_readsStatement_307 : decode cX10_readsStatement 307 = .ok (.invokevirtual 73, 3) := by decide +kernel
theorem dX10_readsStatement_310 : decode cX10_readsStatement 310 = .ok (.ifCond .eq 7, 3) := by decide +kernel
theorem dX10_readsStatement_313 : decode cX10_readsStatement 313 = .ok (.iconst 1, 1) := by decide +kernel
theorem dX10_readsStatement_314 : decode cX10_readsStatement 314 = .ok (.goto 4, 3) := by decide +kernel
theorem dX10_readsStatement_317 : decode cX10_readsStatement 317 = .ok (.iconst 0, 1) := by decide +kernel
theorem dX10_readsStatement_318 : decode cX10_readsStatement 318 = .ok (.istore_n 2, 1) := by decide +kernel
theorem dX10_readsStatement_319 : decode cX10_readsStatement 319 = .ok (.iload_n 2, 1) := by decide +kernel
theorem dX10_readsStatement_320 : decode cX10_readsStatement 320 = .ok (.ifCond .eq 16, 3) := by decide +kernel
theorem dX10_readsStatement_323 : decode cX10_readsStatement 323 = .ok (.aload_n 0, 1) := by decide +kernel
theorem dX10_readsStatement_324 : decode cX10_readsStatement 324 = .ok (.bipush 59, 2) := by decide +kernel
theorem dX10_readsStatement_326 : decode cX10_readsStatement 326 = .ok (.invokevirtual 76, 3) := by decide +kernel
theorem dX10_readsStatement_329 : decode cX10_readsStatement 329 = .ok (.ifCond .eq 7, 3) := by decide +kernel
theorem dX10_readsStatement_332 : decode cX10_readsStatement 332 = .ok (.iconst 1, 1) := by decide +kernel
theorem dX10_readsStatement_333 : decode cX10_readsStatement 333 = .ok (.goto 4, 3) := by decide +kernel
theorem dX10_readsStatement_336 : decode cX10_readsStatement 336 = .ok (.iconst 0, 1) := by decide +kernel
theorem dX10_readsStatement_337 : decode cX10_readsStatement 337 = .ok (.ireturn, 1) := by decide +kernel
theorem dX10_toldOf_0 : decode cX10_toldOf 0 = .ok (.iconst 1, 1) := by decide +kernel
theorem dX10_toldOf_1 : decode cX10_toldOf 1 = .ok (.istore_n 1, 1) := by decide +kernel
theorem dX10_toldOf_2 : decode cX10_toldOf 2 = .ok (.iconst 0, 1) := by decide +kernel
theorem dX10_toldOf_3 : decode cX10_toldOf 3 = .ok (.istore_n 2, 1) := by decide +kernel
theorem dX10_toldOf_4 : decode cX10_toldOf 4 = .ok (.iload_n 2, 1) := by decide +kernel
theorem dX10_toldOf_5 : decode cX10_toldOf 5 = .ok (.bipush 6, 2) := by decide +kernel
theorem dX10_toldOf_7 : decode cX10_toldOf 7 = .ok (.if_icmp .ge 48, 3) := by decide +kernel
theorem dX10_toldOf_10 : decode cX10_toldOf 10 = .ok (.iconst 0, 1) := by decide +kernel
theorem dX10_toldOf_11 : decode cX10_toldOf 11 = .ok (.istore_n 3, 1) := by decide +kernel
theorem dX10_toldOf_12 : decode cX10_toldOf 12 = .ok (.iload_n 3, 1) := by decide +kernel
theorem dX10_toldOf_13 : decode cX10_toldOf 13 = .ok (.bipush 6, 2) := by decide +kernel
theorem dX10_toldOf_15 : decode cX10_toldOf 15 = .ok (.if_icmp .ge 34, 3) := by decide +kernel
theorem dX10_toldOf_18 : decode cX10_toldOf 18 = .ok (.aload_n 0, 1) := by decide +kernel
theorem dX10_toldOf_19 : decode cX10_toldOf 19 = .ok (.getfield 19, 3) := by decide +kernel
theorem dX10_toldOf_22 : decode cX10_toldOf 22 = .ok (.iconst 3, 1) := by decide +kernel
theorem dX10_toldOf_23 : decode cX10_toldOf 23 = .ok (.bipush 6, 2) := by decide +kernel
theorem dX10_toldOf_25 : decode cX10_toldOf 25 = .ok (.iload_n 2, 1) := by decide +kernel
theorem dX10_toldOf_26 : decode cX10_toldOf 26 = .ok (.imul, 1) := by decide +kernel
theorem dX10_toldOf_27 : decode cX10_toldOf 27 = .ok (.iadd, 1) := by decide +kernel
theorem dX10_toldOf_28 : decode cX10_toldOf 28 = .ok (.iload_n 3, 1) := by decide +kernel
theorem dX10_toldOf_29 : decode cX10_toldOf 29 = .ok (.iadd, 1) := by decide +kernel
theorem dX10_toldOf_30 : decode cX10_toldOf 30 = .ok (.iaload, 1) := by decide +kernel
theorem dX10_toldOf_31 : decode cX10_toldOf 31 = .ok (.ifCond .le 12, 3) := by decide +kernel
theorem dX10_toldOf_34 : decode cX10_toldOf 34 = .ok (.iload_n 2, 1) := by decide +kernel
theorem dX10_toldOf_35 : decode cX10_toldOf 35 = .ok (.iload_n 1, 1) := by decide +kernel
theorem dX10_toldOf_36 : decode cX10_toldOf 36 = .ok (.if_icmp .lt 7, 3) := by decide +kernel
theorem dX10_toldOf_39 : decode cX10_toldOf 39 = .ok (.iload_n 2, 1) := by decide +kernel
theorem dX10_toldOf_40 : decode cX10_toldOf 40 = .ok (.iconst 1, 1) := by decide +kernel
theorem dX10_toldOf_41 : decode cX10_toldOf 41 = .ok (.iadd, 1) := by decide +kernel
theorem dX10_toldOf_42 : decode cX10_toldOf 42 = .ok (.istore_n 1, 1) := by decide +kernel
theorem dX10_toldOf_43 : decode cX10_toldOf 43 = .ok (.iinc 3 1, 3) := by decide +kernel
theorem dX10_toldOf_46 : decode cX10_toldOf 46 = .ok (.goto (-34), 3) := by decide +kernel
theorem dX10_toldOf_49 : decode cX10_toldOf 49 = .ok (.iinc 2 1, 3) := by decide +kernel
theorem dX10_toldOf_52 : decode cX10_toldOf 52 = .ok (.goto (-48), 3) := by decide +kernel
theorem dX10_toldOf_55 : decode cX10_toldOf 55 = .ok (.iconst 0, 1) := by decide +kernel
theorem dX10_toldOf_56 : decode cX10_toldOf 56 = .ok (.istore_n 2, 1) := by decide +kernel
theorem dX10_toldOf_57 : decode cX10_toldOf 57 = .ok (.iload_n 2, 1) := by decide +kernel
theorem dX10_toldOf_58 : decode cX10_toldOf 58 = .ok (.aload_n 0, 1) := by decide +kernel
theorem dX10_toldOf_59 : decode cX10_toldOf 59 = .ok (.getfield 19, 3) := by decide +kernel
theorem dX10_toldOf_62 : decode cX10_toldOf 62 = .ok (.iconst 2, 1) := by decide +kernel
theorem dX10_toldOf_63 : decode cX10_toldOf 63 = .ok (.iaload, 1) := by decide +kernel
theorem dX10_toldOf_64 : decode cX10_toldOf 64 = .ok (.if_icmp .ge 44, 3) := by decide +kernel
theorem dX10_toldOf_67 : decode cX10_toldOf 67 = .ok (.aload_n 0, 1) := by decide +kernel
theorem dX10_toldOf_68 : decode cX10_toldOf 68 = .ok (.getfield 19, 3) := by decide +kernel
theorem dX10_toldOf_71 : decode cX10_toldOf 71 = .ok (.bipush 63, 2) := by decide +kernel
theorem dX10_toldOf_73 : decode cX10_toldOf 73 = .ok (.bipush 6, 2) := by decide +kernel
theorem dX10_toldOf_75 : decode cX10_toldOf 75 = .ok (.iload_n 2, 1) := by decide +kernel
theorem dX10_toldOf_76 : decode cX10_toldOf 76 = .ok (.imul, 1) := by decide +kernel
theorem dX10_toldOf_77 : decode cX10_toldOf 77 = .ok (.iadd, 1) := by decide +kernel
theorem dX10_toldOf_78 : decode cX10_toldOf 78 = .ok (.iconst 1, 1) := by decide +kernel
theorem dX10_toldOf_79 : decode cX10_toldOf 79 = .ok (.iadd, 1) := by decide +kernel
theorem dX10_toldOf_80 : decode cX10_toldOf 80 = .ok (.iaload, 1) := by decide +kernel
theorem dX10_toldOf_81 : decode cX10_toldOf 81 = .ok (.iload_n 1, 1) := by decide +kernel
theorem dX10_toldOf_82 : decode cX10_toldOf 82 = .ok (.if_icmp .lt 20, 3) := by decide +kernel
theorem dX10_toldOf_85 : decode cX10_toldOf 85 = .ok (.aload_n 0, 1) := by decide +kernel
theorem dX10_toldOf_86 : decode cX10_toldOf 86 = .ok (.getfield 19, 3) := by decide +kernel
theorem dX10_toldOf_89 : decode cX10_toldOf 89 = .ok (.bipush 63, 2) := by decide +kernel
theorem dX10_toldOf_91 : decode cX10_toldOf 91 = .ok (.bipush 6, 2) := by decide +kernel
theorem dX10_toldOf_93 : decode cX10_toldOf 93 = .ok (.iload_n 2, 1) := by decide +kernel
theorem dX10_toldOf_94 : decode cX10_toldOf 94 = .ok (.imul, 1) := by decide +kernel
theorem dX10_toldOf_95 : decode cX10_toldOf 95 = .ok (.iadd, 1) := by decide +kernel
theorem dX10_toldOf_96 : decode cX10_toldOf 96 = .ok (.iconst 1, 1) := by decide +kernel
theorem dX10_toldOf_97 : decode cX10_toldOf 97 = .ok (.iadd, 1) := by decide +kernel
theorem dX10_toldOf_98 : decode cX10_toldOf 98 = .ok (.iaload, 1) := by decide +kernel
theorem dX10_toldOf_99 : decode cX10_toldOf 99 = .ok (.iconst 1, 1) := by decide +kernel
theorem dX10_toldOf_100 : decode cX10_toldOf 100 = .ok (.iadd, 1) := by decide +kernel
theorem dX10_toldOf_101 : decode cX10_toldOf 101 = .ok (.istore_n 1, 1) := by decide +kernel
theorem dX10_toldOf_102 : decode cX10_toldOf 102 = .ok (.iinc 2 1, 3) := by decide +kernel
theorem dX10_toldOf_105 : decode cX10_toldOf 105 = .ok (.goto (-48), 3) := by decide +kernel
theorem dX10_toldOf_108 : decode cX10_toldOf 108 = .ok (.iconst 0, 1) := by decide +kernel
theorem dX10_toldOf_109 : decode cX10_toldOf 109 = .ok (.istore_n 2, 1) := by decide +kernel
theorem dX10_toldOf_110 : decode cX10_toldOf 110 = .ok (.iload_n 2, 1) := by decide +kernel
theorem dX10_toldOf_111 : decode cX10_toldOf 111 = .ok (.bipush 24, 2) := by decide +kernel
theorem dX10_toldOf_113 : decode cX10_toldOf 113 = .ok (.if_icmp .ge 59, 3) := by decide +kernel
theorem dX10_toldOf_116 : decode cX10_toldOf 116 = .ok (.aload_n 0, 1) := by decide +kernel
theorem dX10_toldOf_117 : decode cX10_toldOf 117 = .ok (.getfield 19, 3) := by decide +kernel
theorem dX10_toldOf_120 : decode cX10_toldOf 120 = .ok (.bipush 99, 2) := by decide +kernel
theorem dX10_toldOf_122 : decode cX10_toldOf 122 = .ok (.bipush 7, 2) := by decide +kernel
theorem dX10_toldOf_124 : decode cX10_toldOf 124 = .ok (.iload_n 2, 1) := by decide +kernel
theorem dX10_toldOf_125 : decode cX10_toldOf 125 = .ok (.imul, 1) := by decide +kernel
theorem dX10_toldOf_126 : decode cX10_toldOf 126 = .ok (.iadd, 1) := by decide +kernel
theorem dX10_toldOf_127 : decode cX10_toldOf 127 = .ok (.iaload, 1) := by decide +kernel
theorem dX10_toldOf_128 : decode cX10_toldOf 128 = .ok (.ifCond .le 38, 3) := by decide +kernel
theorem dX10_toldOf_131 : decode cX10_toldOf 131 = .ok (.aload_n 0, 1) := by decide +kernel
theorem dX10_toldOf_132 : decode cX10_toldOf 132 = .ok (.getfield 19, 3) := by decide +kernel
theorem dX10_toldOf_135 : decode cX10_toldOf 135 = .ok (.bipush 99, 2) := by decide +kernel
theorem dX10_toldOf_137 : decode cX10_toldOf 137 = .ok (.bipush 7, 2) := by decide +kernel
theorem dX10_toldOf_139 : decode cX10_toldOf 139 = .ok (.iload_n 2, 1) := by decide +kernel
theorem dX10_toldOf_140 : decode cX10_toldOf 140 = .ok (.imul, 1) := by decide +kernel
theorem dX10_toldOf_141 : decode cX10_toldOf 141 = .ok (.iadd, 1) := by decide +kernel
theorem dX10_toldOf_142 : decode cX10_toldOf 142 = .ok (.iconst 2, 1) := by decide +kernel
theorem dX10_toldOf_143 : decode cX10_toldOf 143 = .ok (.iadd, 1) := by decide +kernel
theorem dX10_toldOf_144 : decode cX10_toldOf 144 = .ok (.iaload, 1) := by decide +kernel
theorem dX10_toldOf_145 : decode cX10_toldOf 145 = .ok (.iload_n 1, 1) := by decide +kernel
theorem dX10_toldOf_146 : decode cX10_toldOf 146 = .ok (.if_icmp .lt 20, 3) := by decide +kernel
theorem dX10_toldOf_149 : decode cX10_toldOf 149 = .ok (.aload_n 0, 1) := by decide +kernel
theorem dX10_toldOf_150 : decode cX10_toldOf 150 = .ok (.getfield 19, 3) := by decide +kernel
theorem dX10_toldOf_153 : decode cX10_toldOf 153 = .ok (.bipush 99, 2) := by decide +kernel
theorem dX10_toldOf_155 : decode cX10_toldOf 155 = .ok (.bipush 7, 2) := by decide +kernel
theorem dX10_toldOf_157 : decode cX10_toldOf 157 = .ok (.iload_n 2, 1) := by decide +kernel
theorem dX10_toldOf_158 : decode cX10_toldOf 158 = .ok (.imul, 1) := by decide +kernel
theorem dX10_toldOf_159 : decode cX10_toldOf 159 = .ok (.iadd, 1) := by decide +kernel
theorem dX10_toldOf_160 : decode cX10_toldOf 160 = .ok (.iconst 2, 1) := by decide +kernel
theorem dX10_toldOf_161 : decode cX10_toldOf 161 = .ok (.iadd, 1) := by decide +kernel
theorem dX10_toldOf_162 : decode cX10_toldOf 162 = .ok (.iaload, 1) := by decide +kernel
theorem dX10_toldOf_163 : decode cX10_toldOf 163 = .ok (.iconst 1, 1) := by decide +kernel
theorem dX10_toldOf_164 : decode cX10_toldOf 164 = .ok (.iadd, 1) := by decide +kernel
theorem dX10_toldOf_165 : decode cX10_toldOf 165 = .ok (.istore_n 1, 1) := by decide +kernel
theorem dX10_toldOf_166 : decode cX10_toldOf 166 = .ok (.iinc 2 1, 3) := by decide +kernel
theorem dX10_toldOf_169 : decode cX10_toldOf 169 = .ok (.goto (-59), 3) := by decide +kernel
theorem dX10_toldOf_172 : decode cX10_toldOf 172 = .ok (.iload_n 1, 1) := by decide +kernel
theorem dX10_toldOf_173 : decode cX10_toldOf 173 = .ok (.ireturn, 1) := by decide +kernel
theorem dX10_free_0 : decode cX10_free 0 = .ok (.iconst 0, 1) := by decide +kernel
theorem dX10_free_1 : decode cX10_free 1 = .ok (.istore_n 1, 1) := by decide +kernel
theorem dX10_free_2 : decode cX10_free 2 = .ok (.iload_n 1, 1) := by decide +kernel
theorem dX10_free_3 : decode cX10_free 3 = .ok (.bipush 24, 2) := by decide +kernel
theorem dX10_free_5 : decode cX10_free 5 = .ok (.if_icmp .ge 23, 3) := by decide +kernel
theorem dX10_free_8 : decode cX10_free 8 = .ok (.aload_n 0, 1) := by decide +kernel
theorem dX10_free_9 : decode cX10_free 9 = .ok (.bipush 99, 2) := by decide +kernel
theorem dX10_free_11 : decode cX10_free 11 = .ok (.bipush 7, 2) := by decide +kernel
theorem dX10_free_13 : decode cX10_free 13 = .ok (.iload_n 1, 1) := by decide +kernel
theorem dX10_free_14 : decode cX10_free 14 = .ok (.imul, 1) := by decide +kernel
theorem dX10_free_15 : decode cX10_free 15 = .ok (.iadd, 1) := by decide +kernel
theorem dX10_free_16 : decode cX10_free 16 = .ok (.iaload, 1) := by decide +kernel
theorem dX10_free_17 : decode cX10_free 17 = .ok (.ifCond .ne 5, 3) := by decide +kernel
theorem dX10_free_20 : decode cX10_free 20 = .ok (.iload_n 1, 1) := by decide +kernel
theorem dX10_free_21 : decode cX10_free 21 = .ok (.ireturn, 1) := by decide +kernel
theorem dX10_free_22 : decode cX10_free 22 = .ok (.iinc 1 1, 3) := by decide +kernel
theorem dX10_free_25 : decode cX10_free 25 = .ok (.goto (-23), 3) := by decide +kernel
theorem dX10_free_28 : decode cX10_free 28 = .ok (.bipush (-9), 2) := by decide +kernel
theorem dX10_free_30 : decode cX10_free 30 = .ok (.ireturn, 1) := by decide +kernel
theorem dX10_comesPerson_0 : decode cX10_comesPerson 0 = .ok (.aload_n 0, 1) := by decide +kernel
theorem dX10_comesPerson_1 : decode cX10_comesPerson 1 = .ok (.getfield 19, 3) := by decide +kernel
theorem dX10_comesPerson_4 : decode cX10_comesPerson 4 = .ok (.invokestatic 83, 3) := by decide +kernel
theorem dX10_comesPerson_7 : decode cX10_comesPerson 7 = .ok (.istore_n 1, 1) := by decide +kernel
theorem dX10_comesPerson_8 : decode cX10_comesPerson 8 = .ok (.iconst 0, 1) := by decide +kernel
theorem dX10_comesPerson_9 : decode cX10_comesPerson 9 = .ok (.istore_n 2, 1) := by decide +kernel
theorem dX10_comesPerson_10 : decode cX10_comesPerson 10 = .ok (.iload_n 2, 1) := by decide +kernel
theorem dX10_comesPerson_11 : decode cX10_comesPerson 11 = .ok (.iconst 3, 1) := by decide +kernel
theorem dX10_comesPerson_12 : decode cX10_comesPerson 12 = .ok (.if_icmp .ge 22, 3) := by decide +kernel
theorem dX10_comesPerson_15 : decode cX10_comesPerson 15 = .ok (.aload_n 0, 1) := by decide +kernel
theorem dX10_comesPerson_16 : decode cX10_comesPerson 16 = .ok (.getfield 25, 3) := by decide +kernel
theorem dX10_comesPerson_19 : decode cX10_comesPerson 19 = .ok (.iload_n 2, 1) := by decide +kernel
theorem dX10_comesPerson_20 : decode cX10_comesPerson 20 = .ok (.iaload, 1) := by decide +kernel
theorem dX10_comesPerson_21 : decode cX10_comesPerson 21 = .ok (.bipush 60, 2) := by decide +kernel
theorem dX10_comesPerson_23 : decode cX10_comesPerson 23 = .ok (.if_icmp .le 5, 3) := by decide +kernel
theorem dX10_comesPerson_26 : decode cX10_comesPerson 26 = .ok (.iconst 0, 1) := by decide +kernel
theorem dX10_comesPerson_27 : decode cX10_comesPerson 27 = .ok (.ireturn, 1) := by decide +kernel
theorem dX10_comesPerson_28 : decode cX10_comesPerson 28 = .ok (.iinc 2 1, 3) := by decide +kernel
theorem dX10_comesPerson_31 : decode cX10_comesPerson 31 = .ok (.goto (-21), 3) := by decide +kernel
theorem dX10_comesPerson_34 : decode cX10_comesPerson 34 = .ok (.aload_n 0, 1) := by decide +kernel
theorem dX10_comesPerson_35 : decode cX10_comesPerson 35 = .ok (.getfield 25, 3) := by decide +kernel
theorem dX10_comesPerson_38 : decode cX10_comesPerson 38 = .ok (.iconst 3, 1) := by decide +kernel
theorem dX10_comesPerson_39 : decode cX10_comesPerson 39 = .ok (.iaload, 1) := by decide +kernel
theorem dX10_comesPerson_40 : decode cX10_comesPerson 40 = .ok (.iconst 1, 1) := by decide +kernel
theorem dX10_comesPerson_41 : decode cX10_comesPerson 41 = .ok (.if_icmp .lt 29, 3) := by decide +kernel
theorem dX10_comesPerson_44 : decode cX10_comesPerson 44 = .ok (.aload_n 0, 1) := by decide +kernel
theorem dX10_comesPerson_45 : decode cX10_comesPerson 45 = .ok (.getfield 25, 3) := by decide +kernel
theorem dX10_comesPerson_48 : decode cX10_comesPerson 48 = .ok (.iconst 3, 1) := by decide +kernel
theorem dX10_comesPerson_49 : decode cX10_comesPerson 49 = .ok (.iaload, 1) := by decide +kernel
theorem dX10_comesPerson_50 : decode cX10_comesPerson 50 = .ok (.bipush 12, 2) := by decide +kernel
theorem dX10_comesPerson_52 : decode cX10_comesPerson 52 = .ok (.if_icmp .gt 18, 3) := by decide +kernel
theorem dX10_comesPerson_55 : decode cX10_comesPerson 55 = .ok (.aload_n 0, 1) := by decide +kernel
theorem dX10_comesPerson_56 : decode cX10_comesPerson 56 = .ok (.getfield 19, 3) := by decide +kernel
theorem dX10_comesPerson_59 : decode cX10_comesPerson 59 = .ok (.iconst 1, 1) := by decide +kernel
theorem dX10_comesPerson_60 : decode cX10_comesPerson 60 = .ok (.iaload, 1) := by decide +kernel
theorem dX10_comesPerson_61 : decode cX10_comesPerson 61 = .ok (.bipush 6, 2) := by decide +kernel
theorem dX10_comesPerson_63 : decode cX10_comesPerson 63 = .ok (.if_icmp .eq 7, 3) := by decide +kernel
theorem dX10_comesPerson_66 : decode cX10_comesPerson 66 = .ok (.iload_n 1, 1) := by decide +kernel
theorem dX10_comesPerson_67 : decode cX10_comesPerson 67 = .ok (.ifCond .ge 5, 3) := by decide +kernel
theorem dX10_comesPerson_70 : decode cX10_comesPerson 70 = .ok (.iconst 0, 1) := by decide +kernel
theorem dX10_comesPerson_71 : decode cX10_comesPerson 71 = .ok (.ireturn, 1) := by decide +kernel
theorem dX10_comesPerson_72 : decode cX10_comesPerson 72 = .ok (.aload_n 0, 1) := by decide +kernel
theorem dX10_comesPerson_73 : decode cX10_comesPerson 73 = .ok (.getfield 19, 3) := by decide +kernel
theorem dX10_comesPerson_76 : decode cX10_comesPerson 76 = .ok (.iconst 1, 1) := by decide +kernel
theorem dX10_comesPerson_77 : decode cX10_comesPerson 77 = .ok (.iaload, 1) := by decide +kernel
theorem dX10_comesPerson_78 : decode cX10_comesPerson 78 = .ok (.istore_n 2, 1) := by decide +kernel
theorem dX10_comesPerson_79 : decode cX10_comesPerson 79 = .ok (.iconst 0, 1) := by decide +kernel
theorem dX10_comesPerson_80 : decode cX10_comesPerson 80 = .ok (.istore_n 3, 1) := by decide +kernel
theorem dX10_comesPerson_81 : decode cX10_comesPerson 81 = .ok (.iload_n 3, 1) := by decide +kernel
theorem dX10_comesPerson_82 : decode cX10_comesPerson 82 = .ok (.iconst 4, 1) := by decide +kernel
theorem dX10_comesPerson_83 : decode cX10_comesPerson 83 = .ok (.if_icmp .ge 28, 3) := by decide +kernel
theorem dX10_comesPerson_86 : decode cX10_comesPerson 86 = .ok (.aload_n 0, 1) := by decide +kernel
theorem dX10_comesPerson_87 : decode cX10_comesPerson 87 = .ok (.getfield 19, 3) := by decide +kernel
theorem dX10_comesPerson_90 : decode cX10_comesPerson 90 = .ok (.bipush 39, 2) := by decide +kernel
theorem dX10_comesPerson_92 : decode cX10_comesPerson 92 = .ok (.iconst 4, 1) := by decide +kernel
theorem dX10_comesPerson_93 : decode cX10_comesPerson 93 = .ok (.iload_n 2, 1) := by decide +kernel
theorem dX10_comesPerson_94 : decode cX10_comesPerson 94 = .ok (.imul, 1) := by decide +kernel
theorem dX10_comesPerson_95 : decode cX10_comesPerson 95 = .ok (.iadd, 1) := by decide +kernel
theorem dX10_comesPerson_96 : decode cX10_comesPerson 96 = .ok (.iload_n 3, 1) := by decide +kernel
theorem dX10_comesPerson_97 : decode cX10_comesPerson 97 = .ok (.iadd, 1) := by decide +kernel
theorem dX10_comesPerson_98 : decode cX10_comesPerson 98 = .ok (.aload_n 0, 1) := by decide +kernel
theorem dX10_comesPerson_99 : decode cX10_comesPerson 99 = .ok (.getfield 25, 3) := by decide +kernel
theorem dX10_comesPerson_102 : decode cX10_comesPerson 102 = .ok (.iload_n 3, 1) := by decide +kernel
theorem dX10_comesPerson_103 : decode cX10_comesPerson 103 = .ok (.iaload, 1) := by decide +kernel
theorem dX10_comesPerson_104 : decode cX10_comesPerson 104 = .ok (.iastore, 1) := by decide +kernel
theorem dX10_comesPerson_105 : decode cX10_comesPerson 105 = .ok (.iinc 3 1, 3) := by decide +kernel
theorem dX10_comesPerson_108 : decode cX10_comesPerson 108 = .ok (.goto (-27), 3) := by decide +kernel
theorem dX10_comesPerson_111 : decode cX10_comesPerson 111 = .ok (.bipush 99, 2) := by decide +kernel
theorem dX10_comesPerson_113 : decode cX10_comesPerson 113 = .ok (.bipush 7, 2) := by decide +kernel
theorem dX10_comesPerson_115 : decode cX10_comesPerson 115 = .ok (.iload_n 1, 1) := by decide +kernel
theorem dX10_comesPerson_116 : decode cX10_comesPerson 116 = .ok (.imul, 1) := by decide +kernel
theorem dX10_comesPerson_117 : decode cX10_comesPerson 117 = .ok (.iadd, 1) := by decide +kernel
theorem dX10_comesPerson_118 : decode cX10_comesPerson 118 = .ok (.istore_n 3, 1) := by decide +kernel
theorem dX10_comesPerson_119 : decode cX10_comesPerson 119 = .ok (.iconst 0, 1) := by decide +kernel
theorem dX10_comesPerson_120 : decode cX10_comesPerson 120 = .ok (.istore 4, 2) := by decide +kernel
theorem dX10_comesPerson_122 : decode cX10_comesPerson 122 = .ok (.iload 4, 2) := by decide +kernel
theorem dX10_comesPerson_124 : decode cX10_comesPerson 124 = .ok (.bipush 7, 2) := by decide +kernel
theorem dX10_comesPerson_126 : decode cX10_comesPerson 126 = .ok (.if_icmp .ge 19, 3) := by decide +kernel
theorem dX10_comesPerson_129 : decode cX10_comesPerson 129 = .ok (.aload_n 0, 1) := by decide +kernel
theorem dX10_comesPerson_130 : decode cX10_comesPerson 130 = .ok (.getfield 19, 3) := by decide +kernel
theorem dX10_comesPerson_133 : decode cX10_comesPerson 133 = .ok (.iload_n 3, 1) := by decide +kernel
theorem dX10_comesPerson_134 : decode cX10_comesPerson 134 = .ok (.iload 4, 2) := by decide +kernel
theorem dX10_comesPerson_136 : decode cX10_comesPerson 136 = .ok (.iadd, 1) := by decide +kernel
theorem dX10_comesPerson_137 : decode cX10_comesPerson 137 = .ok (.iconst 0, 1) := by decide +kernel
theorem dX10_comesPerson_138 : decode cX10_comesPerson 138 = .ok (.iastore, 1) := by decide +kernel
theorem dX10_comesPerson_139 : decode cX10_comesPerson 139 = .ok (.iinc 4 1, 3) := by decide +kernel
theorem dX10_comesPerson_142 : decode cX10_comesPerson 142 = .ok (.goto (-20), 3) := by decide +kernel
theorem dX10_comesPerson_145 : decode cX10_comesPerson 145 = .ok (.aload_n 0, 1) := by decide +kernel
theorem dX10_comesPerson_146 : decode cX10_comesPerson 146 = .ok (.getfield 19, 3) := by decide +kernel
theorem dX10_comesPerson_149 : decode cX10_comesPerson 149 = .ok (.iload_n 3, 1) := by decide +kernel
theorem dX10_comesPerson_150 : decode cX10_comesPerson 150 = .ok (.iconst 0, 1) := by decide +kernel
theorem dX10_comesPerson_151 : decode cX10_comesPerson 151 = .ok (.iadd, 1) := by decide +kernel
theorem dX10_comesPerson_152 : decode cX10_comesPerson 152 = .ok (.iload_n 2, 1) := by decide +kernel
theorem dX10_comesPerson_153 : decode cX10_comesPerson 153 = .ok (.iconst 1, 1) := by decide +kernel
theorem dX10_comesPerson_154 : decode cX10_comesPerson 154 = .ok (.iadd, 1) := by decide +kernel
theorem dX10_comesPerson_155 : decode cX10_comesPerson 155 = .ok (.iastore, 1) := by decide +kernel
theorem dX10_comesPerson_156 : decode cX10_comesPerson 156 = .ok (.aload_n 0, 1) := by decide +kernel
theorem dX10_comesPerson_157 : decode cX10_comesPerson 157 = .ok (.getfield 19, 3) := by decide +kernel
theorem dX10_comesPerson_160 : decode cX10_comesPerson 160 = .ok (.iload_n 3, 1) := by decide +kernel
theorem dX10_comesPerson_161 : decode cX10_comesPerson 161 = .ok (.iconst 1, 1) := by decide +kernel
theorem dX10_comesPerson_162 : decode cX10_comesPerson 162 = .ok (.iadd, 1) := by decide +kernel
theorem dX10_comesPerson_163 : decode cX10_comesPerson 163 = .ok (.bipush 12, 2) := by decide +kernel
theorem dX10_comesPerson_165 : decode cX10_comesPerson 165 = .ok (.iastore, 1) := by decide +kernel
theorem dX10_comesPerson_166 : decode cX10_comesPerson 166 = .ok (.aload_n 0, 1) := by decide +kernel
theorem dX10_comesPerson_167 : decode cX10_comesPerson 167 = .ok (.getfield 19, 3) := by decide +kernel
theorem dX10_comesPerson_170 : decode cX10_comesPerson 170 = .ok (.iload_n 3, 1) := by decide +kernel
theorem dX10_comesPerson_171 : decode cX10_comesPerson 171 = .ok (.iconst 3, 1) := by decide +kernel
theorem dX10_comesPerson_172 : decode cX10_comesPerson 172 = .ok (.iadd, 1) := by decide +kernel
theorem dX10_comesPerson_173 : decode cX10_comesPerson 173 = .ok (.bipush (-9), 2) := by decide +kernel
theorem dX10_comesPerson_175 : decode cX10_comesPerson 175 = .ok (.iastore, 1) := by decide +kernel
theorem dX10_comesPerson_176 : decode cX10_comesPerson 176 = .ok (.aload_n 0, 1) := by decide +kernel
theorem dX10_comesPerson_177 : decode cX10_comesPerson 177 = .ok (.getfield 19, 3) := by decide +kernel
theorem dX10_comesPerson_180 : decode cX10_comesPerson 180 = .ok (.iconst 1, 1) := by decide +kernel
theorem dX10_comesPerson_181 : decode cX10_comesPerson 181 = .ok (.dup2, 1) := by decide +kernel
theorem dX10_comesPerson_182 : decode cX10_comesPerson 182 = .ok (.iaload, 1) := by decide +kernel
theorem dX10_comesPerson_183 : decode cX10_comesPerson 183 = .ok (.iconst 1, 1) := by decide +kernel
theorem dX10_comesPerson_184 : decode cX10_comesPerson 184 = .ok (.iadd, 1) := by decide +kernel
theorem dX10_comesPerson_185 : decode cX10_comesPerson 185 = .ok (.iastore, 1) := by decide +kernel
theorem dX10_comesPerson_186 : decode cX10_comesPerson 186 = .ok (.iconst 1, 1) := by decide +kernel
theorem dX10_comesPerson_187 : decode cX10_comesPerson 187 = .ok (.ireturn, 1) := by decide +kernel
theorem dX10_comes_0 : decode cX10_comes 0 = .ok (.aload_n 0, 1) := by decide +kernel
theorem dX10_comes_1 : decode cX10_comes 1 = .ok (.getfield 25, 3) := by decide +kernel
theorem dX10_comes_4 : decode cX10_comes 4 = .ok (.iconst 0, 1) := by decide +kernel
theorem dX10_comes_5 : decode cX10_comes 5 = .ok (.iaload, 1) := by decide +kernel
theorem dX10_comes_6 : decode cX10_comes 6 = .ok (.istore_n 2, 1) := by decide +kernel
theorem dX10_comes_7 : decode cX10_comes 7 = .ok (.aload_n 0, 1) := by decide +kernel
theorem dX10_comes_8 : decode cX10_comes 8 = .ok (.getfield 25, 3) := by decide +kernel
theorem dX10_comes_11 : decode cX10_comes 11 = .ok (.iconst 1, 1) := by decide +kernel
theorem dX10_comes_12 : decode cX10_comes 12 = .ok (.iaload, 1) := by decide +kernel
theorem dX10_comes_13 : decode cX10_comes 13 = .ok (.istore_n 3, 1) := by decide +kernel
theorem dX10_comes_14 : decode cX10_comes 14 = .ok (.iload_n 1, 1) := by decide +kernel
theorem dX10_comes_15 : decode cX10_comes 15 = .ok (.lookupswitch 151 #[(110, 33), (112, 146), (119, 58)], 33) := by decide +kernel
theorem dX10_comes_48 : decode cX10_comes 48 = .ok (.iload_n 2, 1) := by decide +kernel
theorem dX10_comes_49 : decode cX10_comes 49 = .ok (.bipush 6, 2) := by decide +kernel
theorem dX10_comes_51 : decode cX10_comes 51 = .ok (.if_icmp .gt 11, 3) := by decide +kernel
theorem dX10_comes_54 : decode cX10_comes 54 = .ok (.iload_n 2, 1) := by decide +kernel
theorem dX10_comes_55 : decode cX10_comes 55 = .ok (.aload_n 0, 1) := by decide +kernel
theorem dX10_comes_56 : decode cX10_comes 56 = .ok (.invokevirtual 87, 3) := by decide +kernel
theorem dX10_comes_59 : decode cX10_comes 59 = .ok (.if_icmp .ge 5, 3) := by decide +kernel
theorem dX10_comes_62 : decode cX10_comes 62 = .ok (.iconst 0, 1) := by decide +kernel
theorem dX10_comes_63 : decode cX10_comes 63 = .ok (.ireturn, 1) := by decide +kernel
theorem dX10_comes_64 : decode cX10_comes 64 = .ok (.aload_n 0, 1) := by decide +kernel
theorem dX10_comes_65 : decode cX10_comes 65 = .ok (.getfield 19, 3) := by decide +kernel
theorem dX10_comes_68 : decode cX10_comes 68 = .ok (.iconst 0, 1) := by decide +kernel
theorem dX10_comes_69 : decode cX10_comes 69 = .ok (.iload_n 2, 1) := by decide +kernel
theorem dX10_comes_70 : decode cX10_comes 70 = .ok (.iastore, 1) := by decide +kernel
theorem dX10_comes_71 : decode cX10_comes 71 = .ok (.iconst 1, 1) := by decide +kernel
theorem dX10_comes_72 : decode cX10_comes 72 = .ok (.ireturn, 1) := by decide +kernel
theorem dX10_comes_73 : decode cX10_comes 73 = .ok (.iload_n 2, 1) := by decide +kernel
theorem dX10_comes_74 : decode cX10_comes 74 = .ok (.aload_n 0, 1) := by decide +kernel
theorem dX10_comes_75 : decode cX10_comes 75 = .ok (.getfield 19, 3) := by decide +kernel
theorem dX10_comes_78 : decode cX10_comes 78 = .ok (.iconst 0, 1) := by decide +kernel
theorem dX10_comes_79 : decode cX10_comes 79 = .ok (.iaload, 1) := by decide +kernel
theorem dX10_comes_80 : decode cX10_comes 80 = .ok (.if_icmp .ge 39, 3) := by decide +kernel
theorem dX10_comes_83 : decode cX10_comes 83 = .ok (.iload_n 3, 1) := by decide +kernel
theorem dX10_comes_84 : decode cX10_comes 84 = .ok (.aload_n 0, 1) := by decide +kernel
theorem dX10_comes_85 : decode cX10_comes 85 = .ok (.getfield 19, 3) := by decide +kernel
theorem dX10_comes_88 : decode cX10_comes 88 = .ok (.iconst 0, 1) := by decide +kernel
theorem dX10_comes_89 : decode cX10_comes 89 = .ok (.iaload, 1) := by decide +kernel
theorem dX10_comes_90 : decode cX10_comes 90 = .ok (.if_icmp .ge 29, 3) := by decide +kernel
theorem dX10_comes_93 : decode cX10_comes 93 = .ok (.iload_n 2, 1) := by decide +kernel
theorem dX10_comes_94 : decode cX10_comes 94 = .ok (.iload_n 3, 1) := by decide +kernel
theorem dX10_comes_95 : decode cX10_comes 95 = .ok (.if_icmp .eq 24, 3) := by decide +kernel
theorem dX10_comes_98 : decode cX10_comes 98 = .ok (.aload_n 0, 1) := by decide +kernel
theorem dX10_comes_99 : decode cX10_comes 99 = .ok (.getfield 25, 3) := by decide +kernel
theorem dX10_comes_102 : decode cX10_comes 102 = .ok (.iconst 2, 1) := by decide +kernel
theorem dX10_comes_103 : decode cX10_comes 103 = .ok (.iaload, 1) := by decide +kernel
theorem dX10_comes_104 : decode cX10_comes 104 = .ok (.iconst 1, 1) := by decide +kernel
theorem dX10_comes_105 : decode cX10_comes 105 = .ok (.if_icmp .lt 14, 3) := by decide +kernel
theorem dX10_comes_108 : decode cX10_comes 108 = .ok (.aload_n 0, 1) := by decide +kernel
theorem dX10_comes_109 : decode cX10_comes 109 = .ok (.getfield 25, 3) := by decide +kernel
theorem dX10_comes_112 : decode cX10_comes 112 = .ok (.iconst 2, 1) := by decide +kernel
theorem dX10_comes_113 : decode cX10_comes 113 = .ok (.iaload, 1) := by decide +kernel
theorem dX10_comes_114 : decode cX10_comes 114 = .ok (.bipush 60, 2) := by decide +kernel
theorem dX10_comes_116 : decode cX10_comes 116 = .ok (.if_icmp .le 5, 3) := by decide +kernel
theorem dX10_comes_119 : decode cX10_comes 119 = .ok (.iconst 0, 1) := by decide +kernel
theorem dX10_comes_120 : decode cX10_comes 120 = .ok (.ireturn, 1) := by decide +kernel
theorem dX10_comes_121 : decode cX10_comes 121 = .ok (.aload_n 0, 1) := by decide +kernel
theorem dX10_comes_122 : decode cX10_comes 122 = .ok (.getfield 19, 3) := by decide +kernel
theorem dX10_comes_125 : decode cX10_comes 125 = .ok (.iconst 3, 1) := by decide +kernel
theorem dX10_comes_126 : decode cX10_comes 126 = .ok (.bipush 6, 2) := by decide +kernel
theorem dX10_comes_128 : decode cX10_comes 128 = .ok (.iload_n 2, 1) := by decide +kernel
theorem dX10_comes_129 : decode cX10_comes 129 = .ok (.imul, 1) := by decide +kernel
theorem dX10_comes_130 : decode cX10_comes 130 = .ok (.iadd, 1) := by decide +kernel
theorem dX10_comes_131 : decode cX10_comes 131 = .ok (.iload_n 3, 1) := by decide +kernel
theorem dX10_comes_132 : decode cX10_comes 132 = .ok (.iadd, 1) := by decide +kernel
theorem dX10_comes_133 : decode cX10_comes 133 = .ok (.aload_n 0, 1) := by decide +kernel
theorem dX10_comes_134 : decode cX10_comes 134 = .ok (.getfield 25, 3) := by decide +kernel
theorem dX10_comes_137 : decode cX10_comes 137 = .ok (.iconst 2, 1) := by decide +kernel
theorem dX10_comes_138 : decode cX10_comes 138 = .ok (.iaload, 1) := by decide +kernel
theorem dX10_comes_139 : decode cX10_comes 139 = .ok (.iastore, 1) := by decide +kernel
theorem dX10_comes_140 : decode cX10_comes 140 = .ok (.aload_n 0, 1) := by decide +kernel
theorem dX10_comes_141 : decode cX10_comes 141 = .ok (.getfield 19, 3) := by decide +kernel
theorem dX10_comes_144 : decode cX10_comes 144 = .ok (.iconst 3, 1) := by decide +kernel
theorem dX10_comes_145 : decode cX10_comes 145 = .ok (.bipush 6, 2) := by decide +kernel
theorem dX10_comes_147 : decode cX10_comes 147 = .ok (.iload_n 3, 1) := by decide +kernel
theorem dX10_comes_148 : decode cX10_comes 148 = .ok (.imul, 1) := by decide +kernel
theorem dX10_comes_149 : decode cX10_comes 149 = .ok (.iadd, 1) := by decide +kernel
theorem dX10_comes_150 : decode cX10_comes 150 = .ok (.iload_n 2, 1) := by decide +kernel
theorem dX10_comes_151 : decode cX10_comes 151 = .ok (.iadd, 1) := by decide +kernel
theorem dX10_comes_152 : decode cX10_comes 152 = .ok (.aload_n 0, 1) := by decide +kernel
theorem dX10_comes_153 : decode cX10_comes 153 = .ok (.getfield 25, 3) := by decide +kernel
theorem dX10_comes_156 : decode cX10_comes 156 = .ok (.iconst 2, 1) := by decide +kernel
theorem dX10_comes_157 : decode cX10_comes 157 = .ok (.iaload, 1) := by decide +kernel
theorem dX10_comes_158 : decode cX10_comes 158 = .ok (.iastore, 1) := by decide +kernel
theorem dX10_comes_159 : decode cX10_comes 159 = .ok (.iconst 1, 1) := by decide +kernel
theorem dX10_comes_160 : decode cX10_comes 160 = .ok (.ireturn, 1) := by decide +kernel
theorem dX10_comes_161 : decode cX10_comes 161 = .ok (.aload_n 0, 1) := by decide +kernel
theorem dX10_comes_162 : decode cX10_comes 162 = .ok (.invokevirtual 90, 3) := by decide +kernel
theorem dX10_comes_165 : decode cX10_comes 165 = .ok (.ireturn, 1) := by decide +kernel
theorem dX10_comes_166 : decode cX10_comes 166 = .ok (.iload_n 3, 1) := by decide +kernel
theorem dX10_comes_167 : decode cX10_comes 167 = .ok (.aload_n 0, 1) := by decide +kernel
theorem dX10_comes_168 : decode cX10_comes 168 = .ok (.getfield 19, 3) := by decide +kernel
theorem dX10_comes_171 : decode cX10_comes 171 = .ok (.iconst 0, 1) := by decide +kernel
theorem dX10_comes_172 : decode cX10_comes 172 = .ok (.iaload, 1) := by decide +kernel
theorem dX10_comes_173 : decode cX10_comes 173 = .ok (.if_icmp .ge 18, 3) := by decide +kernel
theorem dX10_comes_176 : decode cX10_comes 176 = .ok (.aload_n 0, 1) := by decide +kernel
theorem dX10_comes_177 : decode cX10_comes 177 = .ok (.getfield 19, 3) := by decide +kernel
theorem dX10_comes_180 : decode cX10_comes 180 = .ok (.iconst 2, 1) := by decide +kernel
theorem dX10_comes_181 : decode cX10_comes 181 = .ok (.iaload, 1) := by decide +kernel
theorem dX10_comes_182 : decode cX10_comes 182 = .ok (.bipush 6, 2) := by decide +kernel
theorem dX10_comes_184 : decode cX10_comes 184 = .ok (.if_icmp .ge 7, 3) := by decide +kernel
theorem dX10_comes_187 : decode cX10_comes 187 = .ok (.iconst 1, 1) := by decide +kernel
theorem dX10_comes_188 : decode cX10_comes 188 = .ok (.goto 4, 3) := by decide +kernel
theorem dX10_comes_191 : decode cX10_comes 191 = .ok (.iconst 0, 1) := by decide +kernel
theorem dX10_comes_192 : decode cX10_comes 192 = .ok (.istore 4, 2) := by decide +kernel
theorem dX10_comes_194 : decode cX10_comes 194 = .ok (.iconst 2, 1) := by decide +kernel
theorem dX10_comes_195 : decode cX10_comes 195 = .ok (.istore 5, 2) := by decide +kernel
theorem dX10_comes_197 : decode cX10_comes 197 = .ok (.iload 5, 2) := by decide +kernel
theorem dX10_comes_199 : decode cX10_comes 199 = .ok (.iconst 5, 1) := by decide +kernel
theorem dX10_comes_200 : decode cX10_comes 200 = .ok (.if_icmp .ge 34, 3) := by decide +kernel
theorem dX10_comes_203 : decode cX10_comes 203 = .ok (.iload 4, 2) := by decide +kernel
theorem dX10_comes_205 : decode cX10_comes 205 = .ok (.ifCond .eq 20, 3) := by decide +kernel
theorem dX10_comes_208 : decode cX10_comes 208 = .ok (.aload_n 0, 1) := by decide +kernel
theorem dX10_comes_209 : decode cX10_comes 209 = .ok (.getfield 25, 3) := by decide +kernel
theorem dX10_comes_212 : decode cX10_comes 212 = .ok (.iload 5, 2) := by decide +kernel
theorem dX10_comes_214 : decode cX10_comes 214 = .ok (.iaload, 1) := by decide +kernel
theorem dX10_comes_215 : decode cX10_comes 215 = .ok (.sipush 200, 3) := by decide +kernel
theorem dX10_comes_218 : decode cX10_comes 218 = .ok (.if_icmp .gt 7, 3) := by decide +kernel
theorem dX10_comes_221 : decode cX10_comes 221 = .ok (.iconst 1, 1) := by decide +kernel
theorem dX10_comes_222 : decode cX10_comes 222 = .ok (.goto 4, 3) := by decide +kernel
theorem dX10_comes_225 : decode cX10_comes 225 = .ok (.iconst 0, 1) := by decide +kernel
theorem dX10_comes_226 : decode cX10_comes 226 = .ok (.istore 4, 2) := by decide +kernel
theorem dX10_comes_228 : decode cX10_comes 228 = .ok (.iinc 5 1, 3) := by decide +kernel
theorem dX10_comes_231 : decode cX10_comes 231 = .ok (.goto (-34), 3) := by decide +kernel
theorem dX10_comes_234 : decode cX10_comes 234 = .ok (.iload 4, 2) := by decide +kernel
theorem dX10_comes_236 : decode cX10_comes 236 = .ok (.ifCond .ne 5, 3) := by decide +kernel
theorem dX10_comes_239 : decode cX10_comes 239 = .ok (.iconst 0, 1) := by decide +kernel
theorem dX10_comes_240 : decode cX10_comes 240 = .ok (.ireturn, 1) := by decide +kernel
theorem dX10_comes_241 : decode cX10_comes 241 = .ok (.iconst 0, 1) := by decide +kernel
theorem dX10_comes_242 : decode cX10_comes 242 = .ok (.istore 5, 2) := by decide +kernel
theorem dX10_comes_244 : decode cX10_comes 244 = .ok (.iload 5, 2) := by decide +kernel
theorem dX10_comes_246 : decode cX10_comes 246 = .ok (.bipush 6, 2) := by decide +kernel
theorem dX10_comes_248 : decode cX10_comes 248 = .ok (.if_icmp .ge 36, 3) := by decide +kernel
theorem dX10_comes_251 : decode cX10_comes 251 = .ok (.aload_n 0, 1) := by decide +kernel
theorem dX10_comes_252 : decode cX10_comes 252 = .ok (.getfield 19, 3) := by decide +kernel
theorem dX10_comes_255 : decode cX10_comes 255 = .ok (.bipush 63, 2) := by decide +kernel
theorem dX10_comes_257 : decode cX10_comes 257 = .ok (.bipush 6, 2) := by decide +kernel
theorem dX10_comes_259 : decode cX10_comes 259 = .ok (.aload_n 0, 1) := by decide +kernel
theorem dX10_comes_260 : decode cX10_comes 260 = .ok (.getfield 19, 3) := by decide +kernel
theorem dX10_comes_263 : decode cX10_comes 263 = .ok (.iconst 2, 1) := by decide +kernel
theorem dX10_comes_264 : decode cX10_comes 264 = .ok (.iaload, 1) := by decide +kernel
theorem dX10_comes_265 : decode cX10_comes 265 = .ok (.imul, 1) := by decide +kernel
theorem dX10_comes_266 : decode cX10_comes 266 = .ok (.iadd, 1) := by decide +kernel
theorem dX10_comes_267 : decode cX10_comes 267 = .ok (.iload 5, 2) := by decide +kernel
theorem dX10_comes_269 : decode cX10_comes 269 = .ok (.iadd, 1) := by decide +kernel
theorem dX10_comes_270 : decode cX10_comes 270 = .ok (.aload_n 0, 1) := by decide +kernel
theorem dX10_comes_271 : decode cX10_comes 271 = .ok (.getfield 25, 3) := by decide +kernel
theorem dX10_comes_274 : decode cX10_comes 274 = .ok (.iload 5, 2) := by decide +kernel
theorem dX10_comes_276 : decode cX10_comes 276 = .ok (.iaload, 1) := by decide +kernel
theorem dX10_comes_277 : decode cX10_comes 277 = .ok (.iastore, 1) := by decide +kernel
theorem dX10_comes_278 : decode cX10_comes 278 = .ok (.iinc 5 1, 3) := by decide +kernel
theorem dX10_comes_281 : decode cX10_comes 281 = .ok (.goto (-37), 3) := by decide +kernel
theorem dX10_comes_284 : decode cX10_comes 284 = .ok (.aload_n 0, 1) := by decide +kernel
theorem dX10_comes_285 : decode cX10_comes 285 = .ok (.getfield 19, 3) := by decide +kernel
theorem dX10_comes_288 : decode cX10_comes 288 = .ok (.iconst 2, 1) := by decide +kernel
theorem dX10_comes_289 : decode cX10_comes 289 = .ok (.dup2, 1) := by decide +kernel
theorem dX10_comes_290 : decode cX10_comes 290 = .ok (.iaload, 1) := by decide +kernel
theorem dX10_comes_291 : decode cX10_comes 291 = .ok (.iconst 1, 1) := by decide +kernel
theorem dX10_comes_292 : decode cX10_comes 292 = .ok (.iadd, 1) := by decide +kernel
theorem dX10_comes_293 : decode cX10_comes 293 = .ok (.iastore, 1) := by decide +kernel
theorem dX10_comes_294 : decode cX10_comes 294 = .ok (.iconst 1, 1) := by decide +kernel
theorem dX10_comes_295 : decode cX10_comes 295 = .ok (.ireturn, 1) := by decide +kernel
theorem dX10_reads_0 : decode cX10_reads 0 = .ok (.aload_n 0, 1) := by decide +kernel
theorem dX10_reads_1 : decode cX10_reads 1 = .ok (.iconst 0, 1) := by decide +kernel
theorem dX10_reads_2 : decode cX10_reads 2 = .ok (.putfield 66, 3) := by decide +kernel
theorem dX10_reads_5 : decode cX10_reads 5 = .ok (.iconst 0, 1) := by decide +kernel
theorem dX10_reads_6 : decode cX10_reads 6 = .ok (.istore_n 1, 1) := by decide +kernel
theorem dX10_reads_7 : decode cX10_reads 7 = .ok (.aload_n 0, 1) := by decide +kernel
theorem dX10_reads_8 : decode cX10_reads 8 = .ok (.invokevirtual 94, 3) := by decide +kernel
theorem dX10_reads_11 : decode cX10_reads 11 = .ok (.ifCond .ne 12, 3) := by decide +kernel
theorem dX10_reads_14 : decode cX10_reads 14 = .ok (.sipush (-1000), 3) := by decide +kernel
theorem dX10_reads_17 : decode cX10_reads 17 = .ok (.aload_n 0, 1) := by decide +kernel
theorem dX10_reads_18 : decode cX10_reads 18 = .ok (.getfield 66, 3) := by decide +kernel
theorem dX10_reads_21 : decode cX10_reads 21 = .ok (.isub, 1) := by decide +kernel
theorem dX10_reads_22 : decode cX10_reads 22 = .ok (.ireturn, 1) := by decide +kernel
theorem dX10_reads_23 : decode cX10_reads 23 = .ok (.iinc 1 1, 3) := by decide +kernel
theorem dX10_reads_26 : decode cX10_reads 26 = .ok (.aload_n 0, 1) := by decide +kernel
theorem dX10_reads_27 : decode cX10_reads 27 = .ok (.getfield 66, 3) := by decide +kernel
theorem dX10_reads_30 : decode cX10_reads 30 = .ok (.aload_n 0, 1) := by decide +kernel
theorem dX10_reads_31 : decode cX10_reads 31 = .ok (.getfield 58, 3) := by decide +kernel
theorem dX10_reads_34 : decode cX10_reads 34 = .ok (.if_icmp .lt (-27), 3) := by decide +kernel
theorem dX10_reads_37 : decode cX10_reads 37 = .ok (.iconst 0, 1) := by decide +kernel
theorem dX10_reads_38 : decode cX10_reads 38 = .ok (.istore_n 2, 1) := by decide +kernel
theorem dX10_reads_39 : decode cX10_reads 39 = .ok (.iload_n 2, 1) := by decide +kernel
theorem dX10_reads_40 : decode cX10_reads 40 = .ok (.sipush 267, 3) := by decide +kernel
theorem dX10_reads_43 : decode cX10_reads 43 = .ok (.if_icmp .ge 21, 3) := by decide +kernel
theorem dX10_reads_46 : decode cX10_reads 46 = .ok (.aload_n 0, 1) := by decide +kernel
theorem dX10_reads_47 : decode cX10_reads 47 = .ok (.getfield 19, 3) := by decide +kernel
theorem dX10_reads_50 : decode cX10_reads 50 = .ok (.iload_n 2, 1) := by decide +kernel
theorem dX10_reads_51 : decode cX10_reads 51 = .ok (.aload_n 0, 1) := by decide +kernel
theorem dX10_reads_52 : decode cX10_reads 52 = .ok (.getfield 13, 3) := by decide +kernel
theorem dX10_reads_55 : decode cX10_reads 55 = .ok (.iload_n 2, 1) := by decide +kernel
theorem dX10_reads_56 : decode cX10_reads 56 = .ok (.iaload, 1) := by decide +kernel
theorem dX10_reads_57 : decode cX10_reads 57 = .ok (.iastore, 1) := by decide +kernel
theorem dX10_reads_58 : decode cX10_reads 58 = .ok (.iinc 2 1, 3) := by decide +kernel
theorem dX10_reads_61 : decode cX10_reads 61 = .ok (.goto (-22), 3) := by decide +kernel
theorem dX10_reads_64 : decode cX10_reads 64 = .ok (.aload_n 0, 1) := by decide +kernel
theorem dX10_reads_65 : decode cX10_reads 65 = .ok (.iconst 0, 1) := by decide +kernel
theorem dX10_reads_66 : decode cX10_reads 66 = .ok (.putfield 66, 3) := by decide +kernel
theorem dX10_reads_69 : decode cX10_reads 69 = .ok (.aload_n 0, 1) := by decide +kernel
theorem dX10_reads_70 : decode cX10_reads 70 = .ok (.getfield 66, 3) := by decide +kernel
theorem dX10_reads_73 : decode cX10_reads 73 = .ok (.aload_n 0, 1) := by decide +kernel
theorem dX10_reads_74 : decode cX10_reads 74 = .ok (.getfield 58, 3) := by decide +kernel
theorem dX10_reads_77 : decode cX10_reads 77 = .ok (.if_icmp .ge 36, 3) := by decide +kernel
theorem dX10_reads_80 : decode cX10_reads 80 = .ok (.aload_n 0, 1) := by decide +kernel
theorem dX10_reads_81 : decode cX10_reads 81 = .ok (.getfield 66, 3) := by decide +kernel
theorem dX10_reads_84 : decode cX10_reads 84 = .ok (.istore_n 2, 1) := by decide +kernel
theorem dX10_reads_85 : decode cX10_reads 85 = .ok (.aload_n 0, 1) := by decide +kernel
theorem dX10_reads_86 : decode cX10_reads 86 = .ok (.invokevirtual 69, 3) := by decide +kernel
theorem dX10_reads_89 : decode cX10_reads 89 = .ok (.istore_n 3, 1) := by decide +kernel
theorem dX10_reads_90 : decode cX10_reads 90 = .ok (.aload_n 0, 1) := by decide +kernel
theorem dX10_reads_91 : decode cX10_reads 91 = .ok (.invokevirtual 94, 3) := by decide +kernel
theorem dX10_reads_94 : decode cX10_reads 94 = .ok (.istore 4, 2) := by decide +kernel
theorem dX10_reads_96 : decode cX10_reads 96 = .ok (.aload_n 0, 1) := by decide +kernel
theorem dX10_reads_97 : decode cX10_reads 97 = .ok (.iload_n 3, 1) := by decide +kernel
theorem dX10_reads_98 : decode cX10_reads 98 = .ok (.invokevirtual 97, 3) := by decide +kernel
theorem dX10_reads_101 : decode cX10_reads 101 = .ok (.ifCond .ne 9, 3) := by decide +kernel
theorem dX10_reads_104 : decode cX10_reads 104 = .ok (.sipush (-2000), 3) := by decide +kernel
theorem dX10_reads_107 : decode cX10_reads 107 = .ok (.iload_n 2, 1) := by decide +kernel
theorem dX10_reads_108 : decode cX10_reads 108 = .ok (.isub, 1) := by decide +kernel
theorem dX10_reads_109 : decode cX10_reads 109 = .ok (.ireturn, 1) := by decide +kernel
theorem dX10_reads_110 : decode cX10_reads 110 = .ok (.goto (-41), 3) := by decide +kernel
theorem dX10_reads_113 : decode cX10_reads 113 = .ok (.iconst 0, 1) := by decide +kernel
theorem dX10_reads_114 : decode cX10_reads 114 = .ok (.istore_n 2, 1) := by decide +kernel
theorem dX10_reads_115 : decode cX10_reads 115 = .ok (.iload_n 2, 1) := by decide +kernel
theorem dX10_reads_116 : decode cX10_reads 116 = .ok (.sipush 267, 3) := by decide +kernel
theorem dX10_reads_119 : decode cX10_reads 119 = .ok (.if_icmp .ge 21, 3) := by decide +kernel
theorem dX10_reads_122 : decode cX10_reads 122 = .ok (.aload_n 0, 1) := by decide +kernel
theorem dX10_reads_123 : decode cX10_reads 123 = .ok (.getfield 13, 3) := by decide +kernel
theorem dX10_reads_126 : decode cX10_reads 126 = .ok (.iload_n 2, 1) := by decide +kernel
theorem dX10_reads_127 : decode cX10_reads 127 = .ok (.aload_n 0, 1) := by decide +kernel
theorem dX10_reads_128 : decode cX10_reads 128 = .ok (.getfield 19, 3) := by decide +kernel
theorem dX10_reads_131 : decode cX10_reads 131 = .ok (.iload_n 2, 1) := by decide +kernel
theorem dX10_reads_132 : decode cX10_reads 132 = .ok (.iaload, 1) := by decide +kernel
theorem dX10_reads_133 : decode cX10_reads 133 = .ok (.iastore, 1) := by decide +kernel
theorem dX10_reads_134 : decode cX10_reads 134 = .ok (.iinc 2 1, 3) := by decide +kernel
theorem dX10_reads_137 : decode cX10_reads 137 = .ok (.goto (-22), 3) := by decide +kernel
theorem dX10_reads_140 : decode cX10_reads 140 = .ok (.iload_n 1, 1) := by decide +kernel
theorem dX10_reads_141 : decode cX10_reads 141 = .ok (.ireturn, 1) := by decide +kernel
theorem dX10_village_0 : decode cX10_village 0 = .ok (.aload_n 0, 1) := by decide +kernel
theorem dX10_village_1 : decode cX10_village 1 = .ok (.invokevirtual 100, 3) := by decide +kernel
theorem dX10_village_4 : decode cX10_village 4 = .ok (.istore_n 1, 1) := by decide +kernel
theorem dX10_village_5 : decode cX10_village 5 = .ok (.aload_n 0, 1) := by decide +kernel
theorem dX10_village_6 : decode cX10_village 6 = .ok (.iconst 0, 1) := by decide +kernel
theorem dX10_village_7 : decode cX10_village 7 = .ok (.putfield 58, 3) := by decide +kernel
theorem dX10_village_10 : decode cX10_village 10 = .ok (.iload_n 1, 1) := by decide +kernel
theorem dX10_village_11 : decode cX10_village 11 = .ok (.ireturn, 1) := by decide +kernel
theorem dX10_leftOf_0 : decode cX10_leftOf 0 = .ok (.iconst 0, 1) := by decide +kernel
theorem dX10_leftOf_1 : decode cX10_leftOf 1 = .ok (.istore_n 2, 1) := by decide +kernel
theorem dX10_leftOf_2 : decode cX10_leftOf 2 = .ok (.iconst 0, 1) := by decide +kernel
theorem dX10_leftOf_3 : decode cX10_leftOf 3 = .ok (.istore_n 3, 1) := by decide +kernel
theorem dX10_leftOf_4 : decode cX10_leftOf 4 = .ok (.iload_n 3, 1) := by decide +kernel
theorem dX10_leftOf_5 : decode cX10_leftOf 5 = .ok (.bipush 24, 2) := by decide +kernel
theorem dX10_leftOf_7 : decode cX10_leftOf 7 = .ok (.if_icmp .ge 34, 3) := by decide +kernel
theorem dX10_leftOf_10 : decode cX10_leftOf 10 = .ok (.iload_n 2, 1) := by decide +kernel
theorem dX10_leftOf_11 : decode cX10_leftOf 11 = .ok (.aload_n 0, 1) := by decide +kernel
theorem dX10_leftOf_12 : decode cX10_leftOf 12 = .ok (.iload_n 3, 1) := by decide +kernel
theorem dX10_leftOf_13 : decode cX10_leftOf 13 = .ok (.iconst 0, 1) := by decide +kernel
theorem dX10_leftOf_14 : decode cX10_leftOf 14 = .ok (.invokevirtual 50, 3) := by decide +kernel
theorem dX10_leftOf_17 : decode cX10_leftOf 17 = .ok (.iload_n 1, 1) := by decide +kernel
theorem dX10_leftOf_18 : decode cX10_leftOf 18 = .ok (.iconst 1, 1) := by decide +kernel
theorem dX10_leftOf_19 : decode cX10_leftOf 19 = .ok (.iadd, 1) := by decide +kernel
theorem dX10_leftOf_20 : decode cX10_leftOf 20 = .ok (.if_icmp .ne 12, 3) := by decide +kernel
theorem dX10_leftOf_23 : decode cX10_leftOf 23 = .ok (.aload_n 0, 1) := by decide +kernel
theorem dX10_leftOf_24 : decode cX10_leftOf 24 = .ok (.iload_n 3, 1) := by decide +kernel
theorem dX10_leftOf_25 : decode cX10_leftOf 25 = .ok (.iconst 1, 1) := by decide +kernel
theorem dX10_leftOf_26 : decode cX10_leftOf 26 = .ok (.invokevirtual 50, 3) := by decide +kernel
theorem dX10_leftOf_29 : decode cX10_leftOf 29 = .ok (.goto 4, 3) := by decide +kernel
theorem dX10_leftOf_32 : decode cX10_leftOf 32 = .ok (.iconst 0, 1) := by decide +kernel
theorem dX10_leftOf_33 : decode cX10_leftOf 33 = .ok (.iadd, 1) := by decide +kernel
theorem dX10_leftOf_34 : decode cX10_leftOf 34 = .ok (.istore_n 2, 1) := by decide +kernel
theorem dX10_leftOf_35 : decode cX10_leftOf 35 = .ok (.iinc 3 1, 3) := by decide +kernel
theorem dX10_leftOf_38 : decode cX10_leftOf 38 = .ok (.goto (-34), 3) := by decide +kernel
theorem dX10_leftOf_41 : decode cX10_leftOf 41 = .ok (.iload_n 2, 1) := by decide +kernel
theorem dX10_leftOf_42 : decode cX10_leftOf 42 = .ok (.ireturn, 1) := by decide +kernel
theorem dX10_partsOf_0 : decode cX10_partsOf 0 = .ok (.iconst 0, 1) := by decide +kernel
theorem dX10_partsOf_1 : decode cX10_partsOf 1 = .ok (.istore_n 2, 1) := by decide +kernel
theorem dX10_partsOf_2 : decode cX10_partsOf 2 = .ok (.iconst 0, 1) := by decide +kernel
theorem dX10_partsOf_3 : decode cX10_partsOf 3 = .ok (.istore_n 3, 1) := by decide +kernel
theorem dX10_partsOf_4 : decode cX10_partsOf 4 = .ok (.iload_n 3, 1) := by decide +kernel
theorem dX10_partsOf_5 : decode cX10_partsOf 5 = .ok (.bipush 24, 2) := by decide +kernel
theorem dX10_partsOf_7 : decode cX10_partsOf 7 = .ok (.if_icmp .ge 29, 3) := by decide +kernel
theorem dX10_partsOf_10 : decode cX10_partsOf 10 = .ok (.iload_n 2, 1) := by decide +kernel
theorem dX10_partsOf_11 : decode cX10_partsOf 11 = .ok (.aload_n 0, 1) := by decide +kernel
theorem dX10_partsOf_12 : decode cX10_partsOf 12 = .ok (.iload_n 3, 1) := by decide +kernel
theorem dX10_partsOf_13 : decode cX10_partsOf 13 = .ok (.iconst 0, 1) := by decide +kernel
theorem dX10_partsOf_14 : decode cX10_partsOf 14 = .ok (.invokevirtual 50, 3) := by decide +kernel
theorem dX10_partsOf_17 : decode cX10_partsOf 17 = .ok (.iload_n 1, 1) := by decide +kernel
theorem dX10_partsOf_18 : decode cX10_partsOf 18 = .ok (.iconst 1, 1) := by decide +kernel
theorem dX10_partsOf_19 : decode cX10_partsOf 19 = .ok (.iadd, 1) := by decide +kernel
theorem dX10_partsOf_20 : decode cX10_partsOf 20 = .ok (.if_icmp .ne 7, 3) := by decide +kernel
theorem dX10_partsOf_23 : decode cX10_partsOf 23 = .ok (.iconst 1, 1) := by decide +kernel
theorem dX10_partsOf_24 : decode cX10_partsOf 24 = .ok (.goto 4, 3) := by decide +kernel
theorem dX10_partsOf_27 : decode cX10_partsOf 27 = .ok (.iconst 0, 1) := by decide +kernel
theorem dX10_partsOf_28 : decode cX10_partsOf 28 = .ok (.iadd, 1) := by decide +kernel
theorem dX10_partsOf_29 : decode cX10_partsOf 29 = .ok (.istore_n 2, 1) := by decide +kernel
theorem dX10_partsOf_30 : decode cX10_partsOf 30 = .ok (.iinc 3 1, 3) := by decide +kernel
theorem dX10_partsOf_33 : decode cX10_partsOf 33 = .ok (.goto (-29), 3) := by decide +kernel
theorem dX10_partsOf_36 : decode cX10_partsOf 36 = .ok (.iload_n 2, 1) := by decide +kernel
theorem dX10_partsOf_37 : decode cX10_partsOf 37 = .ok (.ireturn, 1) := by decide +kernel
theorem dX10_person_0 : decode cX10_person 0 = .ok (.aload_n 0, 1) := by decide +kernel
theorem dX10_person_1 : decode cX10_person 1 = .ok (.iload_n 1, 1) := by decide +kernel
theorem dX10_person_2 : decode cX10_person 2 = .ok (.invokevirtual 103, 3) := by decide +kernel
theorem dX10_person_5 : decode cX10_person 5 = .ok (.ifCond .ne 11, 3) := by decide +kernel
theorem dX10_person_8 : decode cX10_person 8 = .ok (.aload_n 0, 1) := by decide +kernel
theorem dX10_person_9 : decode cX10_person 9 = .ok (.iconst (-1), 1) := by decide +kernel
theorem dX10_person_10 : decode cX10_person 10 = .ok (.invokevirtual 62, 3) := by decide +kernel
theorem dX10_person_13 : decode cX10_person 13 = .ok (.goto 52, 3) := by decide +kernel
theorem dX10_person_16 : decode cX10_person 16 = .ok (.iload_n 2, 1) := by decide +kernel
theorem dX10_person_17 : decode cX10_person 17 = .ok (.iconst 4, 1) := by decide +kernel
theorem dX10_person_18 : decode cX10_person 18 = .ok (.invokestatic 46, 3) := by decide +kernel
theorem dX10_person_21 : decode cX10_person 21 = .ok (.ifCond .eq 12, 3) := by decide +kernel
theorem dX10_person_24 : decode cX10_person 24 = .ok (.aload_n 0, 1) := by decide +kernel
theorem dX10_person_25 : decode cX10_person 25 = .ok (.iload_n 1, 1) := by decide +kernel
theorem dX10_person_26 : decode cX10_person 26 = .ok (.iload_n 2, 1) := by decide +kernel
theorem dX10_person_27 : decode cX10_person 27 = .ok (.invokevirtual 106, 3) := by decide +kernel
theorem dX10_person_30 : decode cX10_person 30 = .ok (.goto 35, 3) := by decide +kernel
theorem dX10_person_33 : decode cX10_person 33 = .ok (.iload_n 2, 1) := by decide +kernel
theorem dX10_person_34 : decode cX10_person 34 = .ok (.iconst 4, 1) := by decide +kernel
theorem dX10_person_35 : decode cX10_person 35 = .ok (.if_icmp .ne 11, 3) := by decide +kernel
theorem dX10_person_38 : decode cX10_person 38 = .ok (.aload_n 0, 1) := by decide +kernel
theorem dX10_person_39 : decode cX10_person 39 = .ok (.iload_n 1, 1) := by decide +kernel
theorem dX10_person_40 : decode cX10_person 40 = .ok (.invokevirtual 109, 3) := by decide +kernel
theorem dX10_person_43 : decode cX10_person 43 = .ok (.goto 22, 3) := by decide +kernel
theorem dX10_person_46 : decode cX10_person 46 = .ok (.iload_n 2, 1) := by decide +kernel
theorem dX10_person_47 : decode cX10_person 47 = .ok (.iconst 5, 1) := by decide +kernel
theorem dX10_person_48 : decode cX10_person 48 = .ok (.if_icmp .ne 11, 3) := by decide +kernel
theorem dX10_person_51 : decode cX10_person 51 = .ok (.aload_n 0, 1) := by decide +kernel
theorem dX10_person_52 : decode cX10_person 52 = .ok (.iload_n 1, 1) := by decide +kernel
theorem dX10_person_53 : decode cX10_person 53 = .ok (.invokevirtual 112, 3) := by decide +kernel
theorem dX10_person_56 : decode cX10_person 56 = .ok (.goto 9, 3) := by decide +kernel
theorem dX10_person_59 : decode cX10_person 59 = .ok (.aload_n 0, 1) := by decide +kernel
theorem dX10_person_60 : decode cX10_person 60 = .ok (.bipush (-2), 2) := by decide +kernel
theorem dX10_person_62 : decode cX10_person 62 = .ok (.invokevirtual 62, 3) := by decide +kernel
theorem dX10_person_65 : decode cX10_person 65 = .ok (.ireturn, 1) := by decide +kernel
theorem dX10_work_0 : decode cX10_work 0 = .ok (.aload_n 0, 1) := by decide +kernel
theorem dX10_work_1 : decode cX10_work 1 = .ok (.iload_n 1, 1) := by decide +kernel
theorem dX10_work_2 : decode cX10_work 2 = .ok (.invokevirtual 115, 3) := by decide +kernel
theorem dX10_work_5 : decode cX10_work 5 = .ok (.ifCond .ne 11, 3) := by decide +kernel
theorem dX10_work_8 : decode cX10_work 8 = .ok (.aload_n 0, 1) := by decide +kernel
theorem dX10_work_9 : decode cX10_work 9 = .ok (.iconst (-1), 1) := by decide +kernel
theorem dX10_work_10 : decode cX10_work 10 = .ok (.invokevirtual 62, 3) := by decide +kernel
theorem dX10_work_13 : decode cX10_work 13 = .ok (.goto 27, 3) := by decide +kernel
theorem dX10_work_16 : decode cX10_work 16 = .ok (.iload_n 2, 1) := by decide +kernel
theorem dX10_work_17 : decode cX10_work 17 = .ok (.bipush 6, 2) := by decide +kernel
theorem dX10_work_19 : decode cX10_work 19 = .ok (.invokestatic 46, 3) := by decide +kernel
theorem dX10_work_22 : decode cX10_work 22 = .ok (.ifCond .eq 12, 3) := by decide +kernel
theorem dX10_work_25 : decode cX10_work 25 = .ok (.aload_n 0, 1) := by decide +kernel
theorem dX10_work_26 : decode cX10_work 26 = .ok (.iload_n 1, 1) := by decide +kernel
theorem dX10_work_27 : decode cX10_work 27 = .ok (.iload_n 2, 1) := by decide +kernel
theorem dX10_work_28 : decode cX10_work 28 = .ok (.invokevirtual 118, 3) := by decide +kernel
theorem dX10_work_31 : decode cX10_work 31 = .ok (.goto 9, 3) := by decide +kernel
theorem dX10_work_34 : decode cX10_work 34 = .ok (.aload_n 0, 1) := by decide +kernel
theorem dX10_work_35 : decode cX10_work 35 = .ok (.bipush (-2), 2) := by decide +kernel
theorem dX10_work_37 : decode cX10_work 37 = .ok (.invokevirtual 62, 3) := by decide +kernel
theorem dX10_work_40 : decode cX10_work 40 = .ok (.ireturn, 1) := by decide +kernel
theorem dX10_findsFar_0 : decode cX10_findsFar 0 = .ok (.iconst 0, 1) := by decide +kernel
theorem dX10_findsFar_1 : decode cX10_findsFar 1 = .ok (.istore_n 1, 1) := by decide +kernel
theorem dX10_findsFar_2 : decode cX10_findsFar 2 = .ok (.iload_n 1, 1) := by decide +kernel
theorem dX10_findsFar_3 : decode cX10_findsFar 3 = .ok (.bipush 6, 2) := by decide +kernel
theorem dX10_findsFar_5 : decode cX10_findsFar 5 = .ok (.if_icmp .ge 67, 3) := by decide +kernel
theorem dX10_findsFar_8 : decode cX10_findsFar 8 = .ok (.iconst 0, 1) := by decide +kernel
theorem dX10_findsFar_9 : decode cX10_findsFar 9 = .ok (.istore_n 2, 1) := by decide +kernel
theorem dX10_findsFar_10 : decode cX10_findsFar 10 = .ok (.iload_n 2, 1) := by decide +kernel
theorem dX10_findsFar_11 : decode cX10_findsFar 11 = .ok (.bipush 6, 2) := by decide +kernel
theorem dX10_findsFar_13 : decode cX10_findsFar 13 = .ok (.if_icmp .ge 53, 3) := by decide +kernel
theorem dX10_findsFar_16 : decode cX10_findsFar 16 = .ok (.aload_n 0, 1) := by decide +kernel
theorem dX10_findsFar_17 : decode cX10_findsFar 17 = .ok (.getfield 13, 3) := by decide +kernel
theorem dX10_findsFar_20 : decode cX10_findsFar 20 = .ok (.iconst 3, 1) := by decide +kernel
theorem dX10_findsFar_21 : decode cX10_findsFar 21 = .ok (.bipush 6, 2) := by decide +kernel
theorem dX10_findsFar_23 : decode cX10_findsFar 23 = .ok (.iload_n 1, 1) := by decide +kernel
theorem dX10_findsFar_24 : decode cX10_findsFar 24 = .ok (.imul, 1) := by decide +kernel
theorem dX10_findsFar_25 : decode cX10_findsFar 25 = .ok (.iadd, 1) := by decide +kernel
theorem dX10_findsFar_26 : decode cX10_findsFar 26 = .ok (.iload_n 2, 1) := by decide +kernel
theorem dX10_findsFar_27 : decode cX10_findsFar 27 = .ok (.iadd, 1) := by decide +kernel
theorem dX10_findsFar_28 : decode cX10_findsFar 28 = .ok (.iaload, 1) := by decide +kernel
theorem dX10_findsFar_29 : decode cX10_findsFar 29 = .ok (.istore_n 3, 1) := by decide +kernel
theorem dX10_findsFar_30 : decode cX10_findsFar 30 = .ok (.aload_n 0, 1) := by decide +kernel
theorem dX10_findsFar_31 : decode cX10_findsFar 31 = .ok (.getfield 28, 3) := by decide +kernel
theorem dX10_findsFar_34 : decode cX10_findsFar 34 = .ok (.bipush 6, 2) := by decide +kernel
theorem dX10_findsFar_36 : decode cX10_findsFar 36 = .ok (.iload_n 1, 1) := by decide +kernel
theorem dX10_findsFar_37 : decode cX10_findsFar 37 = .ok (.imul, 1) := by decide +kernel
theorem dX10_findsFar_38 : decode cX10_findsFar 38 = .ok (.iload_n 2, 1) := by decide +kernel
theorem dX10_findsFar_39 : decode cX10_findsFar 39 = .ok (.iadd, 1) := by decide +kernel
theorem dX10_findsFar_40 : decode cX10_findsFar 40 = .ok (.iload_n 1, 1) := by decide +kernel
theorem dX10_findsFar_41 : decode cX10_findsFar 41 = .ok (.iload_n 2, 1) := by decide +kernel
theorem dX10_findsFar_42 : decode cX10_findsFar 42 = .ok (.if_icmp .ne 7, 3) := by decide +kernel
theorem dX10_findsFar_45 : decode cX10_findsFar 45 = .ok (.iconst 0, 1) := by decide +kernel
theorem dX10_findsFar_46 : decode cX10_findsFar 46 = .ok (.goto 13, 3) := by decide +kernel
theorem dX10_findsFar_49 : decode cX10_findsFar 49 = .ok (.iload_n 3, 1) := by decide +kernel
theorem dX10_findsFar_50 : decode cX10_findsFar 50 = .ok (.ifCond .le 7, 3) := by decide +kernel
theorem dX10_findsFar_53 : decode cX10_findsFar 53 = .ok (.iload_n 3, 1) := by decide +kernel
theorem dX10_findsFar_54 : decode cX10_findsFar 54 = .ok (.goto 5, 3) := by decide +kernel
theorem dX10_findsFar_57 : decode cX10_findsFar 57 = .ok (.ldc 121, 2) := by decide +kernel
theorem dX10_findsFar_59 : decode cX10_findsFar 59 = .ok (.iastore, 1) := by decide +kernel
theorem dX10_findsFar_60 : decode cX10_findsFar 60 = .ok (.iinc 2 1, 3) := by decide +kernel
theorem dX10_findsFar_63 : decode cX10_findsFar 63 = .ok (.goto (-53), 3) := by decide +kernel
theorem dX10_findsFar_66 : decode cX10_findsFar 66 = .ok (.iinc 1 1, 3) := by decide +kernel
theorem dX10_findsFar_69 : decode cX10_findsFar 69 = .ok (.goto (-67), 3) := by decide +kernel
theorem dX10_findsFar_72 : decode cX10_findsFar 72 = .ok (.iconst 0, 1) := by decide +kernel
theorem dX10_findsFar_73 : decode cX10_findsFar 73 = .ok (.istore_n 1, 1) := by decide +kernel
theorem dX10_findsFar_74 : decode cX10_findsFar 74 = .ok (.iload_n 1, 1) := by decide +kernel
theorem dX10_findsFar_75 : decode cX10_findsFar 75 = .ok (.bipush 6, 2) := by decide +kernel
theorem dX10_findsFar_77 : decode cX10_findsFar 77 = .ok (.if_icmp .ge 105, 3) := by decide +kernel
theorem dX10_findsFar_80 : decode cX10_findsFar 80 = .ok (.iconst 0, 1) := by decide +kernel
theorem dX10_findsFar_81 : decode cX10_findsFar 81 = .ok (.istore_n 2, 1) := by decide +kernel
theorem dX10_findsFar_82 : decode cX10_findsFar 82 = .ok (.iload_n 2, 1) := by decide +kernel
theorem dX10_findsFar_83 : decode cX10_findsFar 83 = .ok (.bipush 6, 2) := by decide +kernel
theorem dX10_findsFar_85 : decode cX10_findsFar 85 = .ok (.if_icmp .ge 91, 3) := by decide +kernel
theorem dX10_findsFar_88 : decode cX10_findsFar 88 = .ok (.iconst 0, 1) := by decide +kernel
theorem dX10_findsFar_89 : decode cX10_findsFar 89 = .ok (.istore_n 3, 1) := by decide +kernel
theorem dX10_findsFar_90 : decode cX10_findsFar 90 = .ok (.iload_n 3, 1) := by decide +kernel
theorem dX10_findsFar_91 : decode cX10_findsFar 91 = .ok (.bipush 6, 2) := by decide +kernel
theorem dX10_findsFar_93 : decode cX10_findsFar 93 = .ok (.if_icmp .ge 77, 3) := by decide +kernel
theorem dX10_findsFar_96 : decode cX10_findsFar 96 = .ok (.aload_n 0, 1) := by decide +kernel
theorem dX10_findsFar_97 : decode cX10_findsFar 97 = .ok (.getfield 28, 3) := by decide +kernel
theorem dX10_findsFar_100 : decode cX10_findsFar 100 = .ok (.bipush 6, 2) := by decide +kernel
theorem dX10_findsFar_102 : decode cX10_findsFar 102 = .ok (.iload_n 2, 1) := by decide +kernel
theorem dX10_findsFar_103 : decode cX10_findsFar 103 = .ok (.imul, 1) := by decide +kernel
theorem dX10_findsFar_104 : decode cX10_findsFar 104 = .ok (.iload_n 1, 1) := by decide +kernel
theorem dX10_findsFar_105 : decode cX10_findsFar 105 = .ok (.iadd, 1) := by decide +kernel
theorem dX10_findsFar_106 : decode cX10_findsFar 106 = .ok (.iaload, 1) := by decide +kernel
theorem dX10_findsFar_107 : decode cX10_findsFar 107 = .ok (.aload_n 0, 1) := by decide +kernel
theorem dX10_findsFar_108 : decode cX10_findsFar 108 = .ok (.getfield 28, 3) := by decide +kernel
theorem dX10_findsFar_111 : decode cX10_findsFar 111 = .ok (.bipush 6, 2) := by decide +kernel
theorem dX10_findsFar_113 : decode cX10_findsFar 113 = .ok (.iload_n 1, 1) := by decide +kernel
theorem dX10_findsFar_114 : decode cX10_findsFar 114 = .ok (.imul, 1) := by decide +kernel
theorem dX10_findsFar_115 : decode cX10_findsFar 115 = .ok (.iload_n 3, 1) := by decide +kernel
theorem dX10_findsFar_116 : decode cX10_findsFar 116 = .ok (.iadd, 1) := by decide +kernel
theorem dX10_findsFar_117 : decode cX10_findsFar 117 = .ok (.iaload, 1) := by decide +kernel
theorem dX10_findsFar_118 : decode cX10_findsFar 118 = .ok (.iadd, 1) := by decide +kernel
theorem dX10_findsFar_119 : decode cX10_findsFar 119 = .ok (.istore 4, 2) := by decide +kernel
theorem dX10_findsFar_121 : decode cX10_findsFar 121 = .ok (.aload_n 0, 1) := by decide +kernel
theorem dX10_findsFar_122 : decode cX10_findsFar 122 = .ok (.getfield 28, 3) := by decide +kernel
theorem dX10_findsFar_125 : decode cX10_findsFar 125 = .ok (.bipush 6, 2) := by decide +kernel
theorem dX10_findsFar_127 : decode cX10_findsFar 127 = .ok (.iload_n 2, 1) := by decide +kernel
theorem dX10_findsFar_128 : decode cX10_findsFar 128 = .ok (.imul, 1) := by decide +kernel
theorem dX10_findsFar_129 : decode cX10_findsFar 129 = .ok (.iload_n 3, 1) := by decide +kernel
theorem dX10_findsFar_130 : decode cX10_findsFar 130 = .ok (.iadd, 1) := by decide +kernel
theorem dX10_findsFar_131 : decode cX10_findsFar 131 = .ok (.iload 4, 2) := by decide +kernel
theorem dX10_findsFar_133 : decode cX10_findsFar 133 = .ok (.aload_n 0, 1) := by decide +kernel
theorem dX10_findsFar_134 : decode cX10_findsFar 134 = .ok (.getfield 28, 3) := by decide +kernel
theorem dX10_findsFar_137 : decode cX10_findsFar 137 = .ok (.bipush 6, 2) := by decide +kernel
theorem dX10_findsFar_139 : decode cX10_findsFar 139 = .ok (.iload_n 2, 1) := by decide +kernel
theorem dX10_findsFar_140 : decode cX10_findsFar 140 = .ok (.imul, 1) := by decide +kernel
theorem dX10_findsFar_141 : decode cX10_findsFar 141 = .ok (.iload_n 3, 1) := by decide +kernel
theorem dX10_findsFar_142 : decode cX10_findsFar 142 = .ok (.iadd, 1) := by decide +kernel
theorem dX10_findsFar_143 : decode cX10_findsFar 143 = .ok (.iaload, 1) := by decide +kernel
theorem dX10_findsFar_144 : decode cX10_findsFar 144 = .ok (.if_icmp .ge 8, 3) := by decide +kernel
theorem dX10_findsFar_147 : decode cX10_findsFar 147 = .ok (.iload 4, 2) := by decide +kernel
theorem dX10_findsFar_149 : decode cX10_findsFar 149 = .ok (.goto 14, 3) := by decide +kernel
theorem dX10_findsFar_152 : decode cX10_findsFar 152 = .ok (.aload_n 0, 1) := by decide +kernel
theorem dX10_findsFar_153 : decode cX10_findsFar 153 = .ok (.getfield 28, 3) := by decide +kernel
theorem dX10_findsFar_156 : decode cX10_findsFar 156 = .ok (.bipush 6, 2) := by decide +kernel
theorem dX10_findsFar_158 : decode cX10_findsFar 158 = .ok (.iload_n 2, 1) := by decide +kernel
theorem dX10_findsFar_159 : decode cX10_findsFar 159 = .ok (.imul, 1) := by decide +kernel
theorem dX10_findsFar_160 : decode cX10_findsFar 160 = .ok (.iload_n 3, 1) := by decide +kernel
theorem dX10_findsFar_161 : decode cX10_findsFar 161 = .ok (.iadd, 1) := by decide +kernel
theorem dX10_findsFar_162 : decode cX10_findsFar 162 = .ok (.iaload, 1) := by decide +kernel
theorem dX10_findsFar_163 : decode cX10_findsFar 163 = .ok (.iastore, 1) := by decide +kernel
theorem dX10_findsFar_164 : decode cX10_findsFar 164 = .ok (.iinc 3 1, 3) := by decide +kernel
theorem dX10_findsFar_167 : decode cX10_findsFar 167 = .ok (.goto (-77), 3) := by decide +kernel
theorem dX10_findsFar_170 : decode cX10_findsFar 170 = .ok (.iinc 2 1, 3) := by decide +kernel
theorem dX10_findsFar_173 : decode cX10_findsFar 173 = .ok (.goto (-91), 3) := by decide +kernel
theorem dX10_findsFar_176 : decode cX10_findsFar 176 = .ok (.iinc 1 1, 3) := by decide +kernel
theorem dX10_findsFar_179 : decode cX10_findsFar 179 = .ok (.goto (-105), 3) := by decide +kernel
theorem dX10_findsFar_182 : decode cX10_findsFar 182 = .ok (.return_, 1) := by decide +kernel
theorem dX10_minutesOf_0 : decode cX10_minutesOf 0 = .ok (.aload_n 0, 1) := by decide +kernel
theorem dX10_minutesOf_1 : decode cX10_minutesOf 1 = .ok (.invokevirtual 122, 3) := by decide +kernel
theorem dX10_minutesOf_4 : decode cX10_minutesOf 4 = .ok (.aload_n 0, 1) := by decide +kernel
theorem dX10_minutesOf_5 : decode cX10_minutesOf 5 = .ok (.getfield 28, 3) := by decide +kernel
theorem dX10_minutesOf_8 : decode cX10_minutesOf 8 = .ok (.bipush 6, 2) := by decide +kernel
theorem dX10_minutesOf_10 : decode cX10_minutesOf 10 = .ok (.iload_n 1, 1) := by decide +kernel
theorem dX10_minutesOf_11 : decode cX10_minutesOf 11 = .ok (.imul, 1) := by decide +kernel
theorem dX10_minutesOf_12 : decode cX10_minutesOf 12 = .ok (.iload_n 2, 1) := by decide +kernel
theorem dX10_minutesOf_13 : decode cX10_minutesOf 13 = .ok (.iadd, 1) := by decide +kernel
theorem dX10_minutesOf_14 : decode cX10_minutesOf 14 = .ok (.iaload, 1) := by decide +kernel
theorem dX10_minutesOf_15 : decode cX10_minutesOf 15 = .ok (.ldc 121, 2) := by decide +kernel
theorem dX10_minutesOf_17 : decode cX10_minutesOf 17 = .ok (.if_icmp .ge 17, 3) := by decide +kernel
theorem dX10_minutesOf_20 : decode cX10_minutesOf 20 = .ok (.aload_n 0, 1) := by decide +kernel
theorem dX10_minutesOf_21 : decode cX10_minutesOf 21 = .ok (.getfield 28, 3) := by decide +kernel
theorem dX10_minutesOf_24 : decode cX10_minutesOf 24 = .ok (.bipush 6, 2) := by decide +kernel
theorem dX10_minutesOf_26 : decode cX10_minutesOf 26 = .ok (.iload_n 1, 1) := by decide +kernel
theorem dX10_minutesOf_27 : decode cX10_minutesOf 27 = .ok (.imul, 1) := by decide +kernel
theorem dX10_minutesOf_28 : decode cX10_minutesOf 28 = .ok (.iload_n 2, 1) := by decide +kernel
theorem dX10_minutesOf_29 : decode cX10_minutesOf 29 = .ok (.iadd, 1) := by decide +kernel
theorem dX10_minutesOf_30 : decode cX10_minutesOf 30 = .ok (.iaload, 1) := by decide +kernel
theorem dX10_minutesOf_31 : decode cX10_minutesOf 31 = .ok (.goto 5, 3) := by decide +kernel
theorem dX10_minutesOf_34 : decode cX10_minutesOf 34 = .ok (.bipush (-9), 2) := by decide +kernel
theorem dX10_minutesOf_36 : decode cX10_minutesOf 36 = .ok (.ireturn, 1) := by decide +kernel
theorem dX10_minutes_0 : decode cX10_minutes 0 = .ok (.aload_n 0, 1) := by decide +kernel
theorem dX10_minutes_1 : decode cX10_minutes 1 = .ok (.iload_n 1, 1) := by decide +kernel
theorem dX10_minutes_2 : decode cX10_minutes 2 = .ok (.invokevirtual 125, 3) := by decide +kernel
theorem dX10_minutes_5 : decode cX10_minutes 5 = .ok (.ifCond .eq 20, 3) := by decide +kernel
theorem dX10_minutes_8 : decode cX10_minutes 8 = .ok (.aload_n 0, 1) := by decide +kernel
theorem dX10_minutes_9 : decode cX10_minutes 9 = .ok (.iload_n 2, 1) := by decide +kernel
theorem dX10_minutes_10 : decode cX10_minutes 10 = .ok (.invokevirtual 125, 3) := by decide +kernel
theorem dX10_minutes_13 : decode cX10_minutes 13 = .ok (.ifCond .eq 12, 3) := by decide +kernel
theorem dX10_minutes_16 : decode cX10_minutes 16 = .ok (.aload_n 0, 1) := by decide +kernel
theorem dX10_minutes_17 : decode cX10_minutes 17 = .ok (.iload_n 1, 1) := by decide +kernel
theorem dX10_minutes_18 : decode cX10_minutes 18 = .ok (.iload_n 2, 1) := by decide +kernel
theorem dX10_minutes_19 : decode cX10_minutes 19 = .ok (.invokevirtual 128, 3) := by decide +kernel
theorem dX10_minutes_22 : decode cX10_minutes 22 = .ok (.goto 8, 3) := by decide +kernel
theorem dX10_minutes_25 : decode cX10_minutes 25 = .ok (.aload_n 0, 1) := by decide +kernel
theorem dX10_minutes_26 : decode cX10_minutes 26 = .ok (.iconst (-1), 1) := by decide +kernel
theorem dX10_minutes_27 : decode cX10_minutes 27 = .ok (.invokevirtual 62, 3) := by decide +kernel
theorem dX10_minutes_30 : decode cX10_minutes 30 = .ok (.ireturn, 1) := by decide +kernel
theorem dX10_partOf_0 : decode cX10_partOf 0 = .ok (.aload_n 0, 1) := by decide +kernel
theorem dX10_partOf_1 : decode cX10_partOf 1 = .ok (.iload_n 1, 1) := by decide +kernel
theorem dX10_partOf_2 : decode cX10_partOf 2 = .ok (.invokevirtual 131, 3) := by decide +kernel
theorem dX10_partOf_5 : decode cX10_partOf 5 = .ok (.ifCond .ne 9, 3) := by decide +kernel
theorem dX10_partOf_8 : decode cX10_partOf 8 = .ok (.aload_n 0, 1) := by decide +kernel
theorem dX10_partOf_9 : decode cX10_partOf 9 = .ok (.iconst (-1), 1) := by decide +kernel
theorem dX10_partOf_10 : decode cX10_partOf 10 = .ok (.invokevirtual 62, 3) := by decide +kernel
theorem dX10_partOf_13 : decode cX10_partOf 13 = .ok (.ireturn, 1) := by decide +kernel
theorem dX10_partOf_14 : decode cX10_partOf 14 = .ok (.iload_n 2, 1) := by decide +kernel
theorem dX10_partOf_15 : decode cX10_partOf 15 = .ok (.bipush 7, 2) := by decide +kernel
theorem dX10_partOf_17 : decode cX10_partOf 17 = .ok (.invokestatic 46, 3) := by decide +kernel
theorem dX10_partOf_20 : decode cX10_partOf 20 = .ok (.ifCond .ne 10, 3) := by decide +kernel
theorem dX10_partOf_23 : decode cX10_partOf 23 = .ok (.aload_n 0, 1) := by decide +kernel
theorem dX10_partOf_24 : decode cX10_partOf 24 = .ok (.bipush (-2), 2) := by decide +kernel
theorem dX10_partOf_26 : decode cX10_partOf 26 = .ok (.invokevirtual 62, 3) := by decide +kernel
theorem dX10_partOf_29 : decode cX10_partOf 29 = .ok (.ireturn, 1) := by decide +kernel
theorem dX10_partOf_30 : decode cX10_partOf 30 = .ok (.iload_n 2, 1) := by decide +kernel
theorem dX10_partOf_31 : decode cX10_partOf 31 = .ok (.ifCond .ne 14, 3) := by decide +kernel
theorem dX10_partOf_34 : decode cX10_partOf 34 = .ok (.aload_n 0, 1) := by decide +kernel
theorem dX10_partOf_35 : decode cX10_partOf 35 = .ok (.iload_n 1, 1) := by decide +kernel
theorem dX10_partOf_36 : decode cX10_partOf 36 = .ok (.iconst 0, 1) := by decide +kernel
theorem dX10_partOf_37 : decode cX10_partOf 37 = .ok (.invokevirtual 50, 3) := by decide +kernel
theorem dX10_partOf_40 : decode cX10_partOf 40 = .ok (.iconst 1, 1) := by decide +kernel
theorem dX10_partOf_41 : decode cX10_partOf 41 = .ok (.isub, 1) := by decide +kernel
theorem dX10_partOf_42 : decode cX10_partOf 42 = .ok (.goto 9, 3) := by decide +kernel
theorem dX10_partOf_45 : decode cX10_partOf 45 = .ok (.aload_n 0, 1) := by decide +kernel
theorem dX10_partOf_46 : decode cX10_partOf 46 = .ok (.iload_n 1, 1) := by decide +kernel
theorem dX10_partOf_47 : decode cX10_partOf 47 = .ok (.iload_n 2, 1) := by decide +kernel
theorem dX10_partOf_48 : decode cX10_partOf 48 = .ok (.invokevirtual 50, 3) := by decide +kernel
theorem dX10_partOf_51 : decode cX10_partOf 51 = .ok (.ireturn, 1) := by decide +kernel
theorem dX10_split_0 : decode cX10_split 0 = .ok (.aload_n 0, 1) := by decide +kernel
theorem dX10_split_1 : decode cX10_split 1 = .ok (.iload_n 1, 1) := by decide +kernel
theorem dX10_split_2 : decode cX10_split 2 = .ok (.invokevirtual 131, 3) := by decide +kernel
theorem dX10_split_5 : decode cX10_split 5 = .ok (.ifCond .ne 9, 3) := by decide +kernel
theorem dX10_split_8 : decode cX10_split 8 = .ok (.aload_n 0, 1) := by decide +kernel
theorem dX10_split_9 : decode cX10_split 9 = .ok (.iconst (-1), 1) := by decide +kernel
theorem dX10_split_10 : decode cX10_split 10 = .ok (.invokevirtual 62, 3) := by decide +kernel
theorem dX10_split_13 : decode cX10_split 13 = .ok (.ireturn, 1) := by decide +kernel
theorem dX10_split_14 : decode cX10_split 14 = .ok (.aload_n 0, 1) := by decide +kernel
theorem dX10_split_15 : decode cX10_split 15 = .ok (.aload_n 0, 1) := by decide +kernel
theorem dX10_split_16 : decode cX10_split 16 = .ok (.iload_n 1, 1) := by decide +kernel
theorem dX10_split_17 : decode cX10_split 17 = .ok (.iconst 0, 1) := by decide +kernel
theorem dX10_split_18 : decode cX10_split 18 = .ok (.invokevirtual 50, 3) := by decide +kernel
theorem dX10_split_21 : decode cX10_split 21 = .ok (.iconst 1, 1) := by decide +kernel
theorem dX10_split_22 : decode cX10_split 22 = .ok (.isub, 1) := by decide +kernel
theorem dX10_split_23 : decode cX10_split 23 = .ok (.iconst 3, 1) := by decide +kernel
theorem dX10_split_24 : decode cX10_split 24 = .ok (.invokevirtual 106, 3) := by decide +kernel
theorem dX10_split_27 : decode cX10_split 27 = .ok (.istore_n 3, 1) := by decide +kernel
theorem dX10_split_28 : decode cX10_split 28 = .ok (.iload_n 2, 1) := by decide +kernel
theorem dX10_split_29 : decode cX10_split 29 = .ok (.iload_n 3, 1) := by decide +kernel
theorem dX10_split_30 : decode cX10_split 30 = .ok (.if_icmp .lt 15, 3) := by decide +kernel
theorem dX10_split_33 : decode cX10_split 33 = .ok (.aload_n 0, 1) := by decide +kernel
theorem dX10_split_34 : decode cX10_split 34 = .ok (.iload_n 1, 1) := by decide +kernel
theorem dX10_split_35 : decode cX10_split 35 = .ok (.iconst 1, 1) := by decide +kernel
theorem dX10_split_36 : decode cX10_split 36 = .ok (.invokevirtual 50, 3) := by decide +kernel
theorem dX10_split_39 : decode cX10_split 39 = .ok (.iload_n 3, 1) := by decide +kernel
theorem dX10_split_40 : decode cX10_split 40 = .ok (.isub, 1) := by decide +kernel
theorem dX10_split_41 : decode cX10_split 41 = .ok (.iload_n 2, 1) := by decide +kernel
theorem dX10_split_42 : decode cX10_split 42 = .ok (.if_icmp .ge 10, 3) := by decide +kernel
theorem dX10_split_45 : decode cX10_split 45 = .ok (.aload_n 0, 1) := by decide +kernel
theorem dX10_split_46 : decode cX10_split 46 = .ok (.bipush (-3), 2) := by decide +kernel
theorem dX10_split_48 : decode cX10_split 48 = .ok (.invokevirtual 62, 3) := by decide +kernel
theorem dX10_split_51 : decode cX10_split 51 = .ok (.ireturn, 1) := by decide +kernel
theorem dX10_split_52 : decode cX10_split 52 = .ok (.aload_n 0, 1) := by decide +kernel
theorem dX10_split_53 : decode cX10_split 53 = .ok (.getfield 13, 3) := by decide +kernel
theorem dX10_split_56 : decode cX10_split 56 = .ok (.invokestatic 83, 3) := by decide +kernel
theorem dX10_split_59 : decode cX10_split 59 = .ok (.istore 4, 2) := by decide +kernel
theorem dX10_split_61 : decode cX10_split 61 = .ok (.iload 4, 2) := by decide +kernel
theorem dX10_split_63 : decode cX10_split 63 = .ok (.ifCond .ge 10, 3) := by decide +kernel
theorem dX10_split_66 : decode cX10_split 66 = .ok (.aload_n 0, 1) := by decide +kernel
theorem dX10_split_67 : decode cX10_split 67 = .ok (.bipush (-6), 2) := by decide +kernel
theorem dX10_split_69 : decode cX10_split 69 = .ok (.invokevirtual 62, 3) := by decide +kernel
theorem dX10_split_72 : decode cX10_split 72 = .ok (.ireturn, 1) := by decide +kernel
theorem dX10_split_73 : decode cX10_split 73 = .ok (.iconst 0, 1) := by decide +kernel
theorem dX10_split_74 : decode cX10_split 74 = .ok (.istore 5, 2) := by decide +kernel
theorem dX10_split_76 : decode cX10_split 76 = .ok (.iload 5, 2) := by decide +kernel
theorem dX10_split_78 : decode cX10_split 78 = .ok (.bipush 7, 2) := by decide +kernel
theorem dX10_split_80 : decode cX10_split 80 = .ok (.if_icmp .ge 24, 3) := by decide +kernel
theorem dX10_split_83 : decode cX10_split 83 = .ok (.aload_n 0, 1) := by decide +kernel
theorem dX10_split_84 : decode cX10_split 84 = .ok (.iload 4, 2) := by decide +kernel
theorem dX10_split_86 : decode cX10_split 86 = .ok (.iload 5, 2) := by decide +kernel
theorem dX10_split_88 : decode cX10_split 88 = .ok (.aload_n 0, 1) := by decide +kernel
theorem dX10_split_89 : decode cX10_split 89 = .ok (.iload_n 1, 1) := by decide +kernel
theorem dX10_split_90 : decode cX10_split 90 = .ok (.iload 5, 2) := by decide +kernel
theorem dX10_split_92 : decode cX10_split 92 = .ok (.invokevirtual 50, 3) := by decide +kernel
theorem dX10_split_95 : decode cX10_split 95 = .ok (.invokevirtual 134, 3) := by decide +kernel
theorem dX10_split_98 : decode cX10_split 98 = .ok (.iinc 5 1, 3) := by decide +kernel
theorem dX10_split_101 : decode cX10_split 101 = .ok (.goto (-25), 3) := by decide +kernel
theorem dX10_split_104 : decode cX10_split 104 = .ok (.aload_n 0, 1) := by decide +kernel
theorem dX10_split_105 : decode cX10_split 105 = .ok (.iload 4, 2) := by decide +kernel
theorem dX10_split_107 : decode cX10_split 107 = .ok (.iconst 1, 1) := by decide +kernel
theorem dX10_split_108 : decode cX10_split 108 = .ok (.iload_n 2, 1) := by decide +kernel
theorem dX10_split_109 : decode cX10_split 109 = .ok (.invokevirtual 134, 3) := by decide +kernel
theorem dX10_split_112 : decode cX10_split 112 = .ok (.aload_n 0, 1) := by decide +kernel
theorem dX10_split_113 : decode cX10_split 113 = .ok (.iload 4, 2) := by decide +kernel
theorem dX10_split_115 : decode cX10_split 115 = .ok (.iconst 3, 1) := by decide +kernel
theorem dX10_split_116 : decode cX10_split 116 = .ok (.bipush (-9), 2) := by decide +kernel
theorem dX10_split_118 : decode cX10_split 118 = .ok (.invokevirtual 134, 3) := by decide +kernel
theorem dX10_split_121 : decode cX10_split 121 = .ok (.aload_n 0, 1) := by decide +kernel
theorem dX10_split_122 : decode cX10_split 122 = .ok (.iload_n 1, 1) := by decide +kernel
theorem dX10_split_123 : decode cX10_split 123 = .ok (.iconst 1, 1) := by decide +kernel
theorem dX10_split_124 : decode cX10_split 124 = .ok (.aload_n 0, 1) := by decide +kernel
theorem dX10_split_125 : decode cX10_split 125 = .ok (.iload_n 1, 1) := by decide +kernel
theorem dX10_split_126 : decode cX10_split 126 = .ok (.iconst 1, 1) := by decide +kernel
theorem dX10_split_127 : decode cX10_split 127 = .ok (.invokevirtual 50, 3) := by decide +kernel
theorem dX10_split_130 : decode cX10_split 130 = .ok (.iload_n 2, 1) := by decide +kernel
theorem dX10_split_131 : decode cX10_split 131 = .ok (.isub, 1) := by decide +kernel
theorem dX10_split_132 : decode cX10_split 132 = .ok (.invokevirtual 134, 3) := by decide +kernel
theorem dX10_split_135 : decode cX10_split 135 = .ok (.iload 4, 2) := by decide +kernel
theorem dX10_split_137 : decode cX10_split 137 = .ok (.ireturn, 1) := by decide +kernel
theorem dX10_go_0 : decode cX10_go 0 = .ok (.aload_n 0, 1) := by decide +kernel
theorem dX10_go_1 : decode cX10_go 1 = .ok (.iload_n 1, 1) := by decide +kernel
theorem dX10_go_2 : decode cX10_go 2 = .ok (.invokevirtual 131, 3) := by decide +kernel
theorem dX10_go_5 : decode cX10_go 5 = .ok (.ifCond .eq 11, 3) := by decide +kernel
theorem dX10_go_8 : decode cX10_go 8 = .ok (.aload_n 0, 1) := by decide +kernel
theorem dX10_go_9 : decode cX10_go 9 = .ok (.iload_n 2, 1) := by decide +kernel
theorem dX10_go_10 : decode cX10_go 10 = .ok (.invokevirtual 125, 3) := by decide +kernel
theorem dX10_go_13 : decode cX10_go 13 = .ok (.ifCond .ne 9, 3) := by decide +kernel
theorem dX10_go_16 : decode cX10_go 16 = .ok (.aload_n 0, 1) := by decide +kernel
theorem dX10_go_17 : decode cX10_go 17 = .ok (.iconst (-1), 1) := by decide +kernel
theorem dX10_go_18 : decode cX10_go 18 = .ok (.invokevirtual 62, 3) := by decide +kernel
theorem dX10_go_21 : decode cX10_go 21 = .ok (.ireturn, 1) := by decide +kernel
theorem dX10_go_22 : decode cX10_go 22 = .ok (.aload_n 0, 1) := by decide +kernel
theorem dX10_go_23 : decode cX10_go 23 = .ok (.aload_n 0, 1) := by decide +kernel
theorem dX10_go_24 : decode cX10_go 24 = .ok (.iload_n 1, 1) := by decide +kernel
theorem dX10_go_25 : decode cX10_go 25 = .ok (.iconst 2, 1) := by decide +kernel
theorem dX10_go_26 : decode cX10_go 26 = .ok (.invokevirtual 50, 3) := by decide +kernel
theorem dX10_go_29 : decode cX10_go 29 = .ok (.iload_n 2, 1) := by decide +kernel
theorem dX10_go_30 : decode cX10_go 30 = .ok (.invokevirtual 128, 3) := by decide +kernel
theorem dX10_go_33 : decode cX10_go 33 = .ok (.istore_n 3, 1) := by decide +kernel
theorem dX10_go_34 : decode cX10_go 34 = .ok (.iload_n 3, 1) := by decide +kernel
theorem dX10_go_35 : decode cX10_go 35 = .ok (.ifCond .ge 10, 3) := by decide +kernel
theorem dX10_go_38 : decode cX10_go 38 = .ok (.aload_n 0, 1) := by decide +kernel
theorem dX10_go_39 : decode cX10_go 39 = .ok (.bipush (-3), 2) := by decide +kernel
theorem dX10_go_41 : decode cX10_go 41 = .ok (.invokevirtual 62, 3) := by decide +kernel
theorem dX10_go_44 : decode cX10_go 44 = .ok (.ireturn, 1) := by decide +kernel
theorem dX10_go_45 : decode cX10_go 45 = .ok (.aload_n 0, 1) := by decide +kernel
theorem dX10_go_46 : decode cX10_go 46 = .ok (.iload_n 1, 1) := by decide +kernel
theorem dX10_go_47 : decode cX10_go 47 = .ok (.iconst 4, 1) := by decide +kernel
theorem dX10_go_48 : decode cX10_go 48 = .ok (.aload_n 0, 1) := by decide +kernel
theorem dX10_go_49 : decode cX10_go 49 = .ok (.iload_n 1, 1) := by decide +kernel
theorem dX10_go_50 : decode cX10_go 50 = .ok (.iconst 4, 1) := by decide +kernel
theorem dX10_go_51 : decode cX10_go 51 = .ok (.invokevirtual 50, 3) := by decide +kernel
theorem dX10_go_54 : decode cX10_go 54 = .ok (.iload_n 3, 1) := by decide +kernel
theorem dX10_go_55 : decode cX10_go 55 = .ok (.iadd, 1) := by decide +kernel
theorem dX10_go_56 : decode cX10_go 56 = .ok (.invokevirtual 134, 3) := by decide +kernel
theorem dX10_go_59 : decode cX10_go 59 = .ok (.aload_n 0, 1) := by decide +kernel
theorem dX10_go_60 : decode cX10_go 60 = .ok (.iload_n 1, 1) := by decide +kernel
theorem dX10_go_61 : decode cX10_go 61 = .ok (.iconst 2, 1) := by decide +kernel
theorem dX10_go_62 : decode cX10_go 62 = .ok (.iload_n 2, 1) := by decide +kernel
theorem dX10_go_63 : decode cX10_go 63 = .ok (.invokevirtual 134, 3) := by decide +kernel
theorem dX10_go_66 : decode cX10_go 66 = .ok (.aload_n 0, 1) := by decide +kernel
theorem dX10_go_67 : decode cX10_go 67 = .ok (.iload_n 1, 1) := by decide +kernel
theorem dX10_go_68 : decode cX10_go 68 = .ok (.iconst 3, 1) := by decide +kernel
theorem dX10_go_69 : decode cX10_go 69 = .ok (.bipush (-9), 2) := by decide +kernel
theorem dX10_go_71 : decode cX10_go 71 = .ok (.invokevirtual 134, 3) := by decide +kernel
theorem dX10_go_74 : decode cX10_go 74 = .ok (.aload_n 0, 1) := by decide +kernel
theorem dX10_go_75 : decode cX10_go 75 = .ok (.iload_n 1, 1) := by decide +kernel
theorem dX10_go_76 : decode cX10_go 76 = .ok (.iconst 4, 1) := by decide +kernel
theorem dX10_go_77 : decode cX10_go 77 = .ok (.invokevirtual 50, 3) := by decide +kernel
theorem dX10_go_80 : decode cX10_go 80 = .ok (.ireturn, 1) := by decide +kernel
theorem dX10_bits_0 : decode cX10_bits 0 = .ok (.iconst 0, 1) := by decide +kernel
theorem dX10_bits_1 : decode cX10_bits 1 = .ok (.istore_n 1, 1) := by decide +kernel
theorem dX10_bits_2 : decode cX10_bits 2 = .ok (.iload_n 0, 1) := by decide +kernel
theorem dX10_bits_3 : decode cX10_bits 3 = .ok (.istore_n 2, 1) := by decide +kernel
theorem dX10_bits_4 : decode cX10_bits 4 = .ok (.iload_n 2, 1) := by decide +kernel
theorem dX10_bits_5 : decode cX10_bits 5 = .ok (.ifCond .le 16, 3) := by decide +kernel
theorem dX10_bits_8 : decode cX10_bits 8 = .ok (.iload_n 1, 1) := by decide +kernel
theorem dX10_bits_9 : decode cX10_bits 9 = .ok (.iload_n 2, 1) := by decide +kernel
theorem dX10_bits_10 : decode cX10_bits 10 = .ok (.iconst 1, 1) := by decide +kernel
theorem dX10_bits_11 : decode cX10_bits 11 = .ok (.iand, 1) := by decide +kernel
theorem dX10_bits_12 : decode cX10_bits 12 = .ok (.iadd, 1) := by decide +kernel
theorem dX10_bits_13 : decode cX10_bits 13 = .ok (.istore_n 1, 1) := by decide +kernel
theorem dX10_bits_14 : decode cX10_bits 14 = .ok (.iload_n 2, 1) := by decide +kernel
theorem dX10_bits_15 : decode cX10_bits 15 = .ok (.iconst 1, 1) := by decide +kernel
theorem dX10_bits_16 : decode cX10_bits 16 = .ok (.ishr, 1) := by decide +kernel
theorem dX10_bits_17 : decode cX10_bits 17 = .ok (.istore_n 2, 1) := by decide +kernel
theorem dX10_bits_18 : decode cX10_bits 18 = .ok (.goto (-14), 3) := by decide +kernel
theorem dX10_bits_21 : decode cX10_bits 21 = .ok (.iload_n 1, 1) := by decide +kernel
theorem dX10_bits_22 : decode cX10_bits 22 = .ok (.ireturn, 1) := by decide +kernel
theorem dX10_see_0 : decode cX10_see 0 = .ok (.aload_n 0, 1) := by decide +kernel
theorem dX10_see_1 : decode cX10_see 1 = .ok (.iload_n 1, 1) := by decide +kernel
theorem dX10_see_2 : decode cX10_see 2 = .ok (.invokevirtual 131, 3) := by decide +kernel
theorem dX10_see_5 : decode cX10_see 5 = .ok (.ifCond .ne 9, 3) := by decide +kernel
theorem dX10_see_8 : decode cX10_see 8 = .ok (.aload_n 0, 1) := by decide +kernel
theorem dX10_see_9 : decode cX10_see 9 = .ok (.iconst (-1), 1) := by decide +kernel
theorem dX10_see_10 : decode cX10_see 10 = .ok (.invokevirtual 62, 3) := by decide +kernel
theorem dX10_see_13 : decode cX10_see 13 = .ok (.ireturn, 1) := by decide +kernel
theorem dX10_see_14 : decode cX10_see 14 = .ok (.aload_n 0, 1) := by decide +kernel
theorem dX10_see_15 : decode cX10_see 15 = .ok (.iload_n 1, 1) := by decide +kernel
theorem dX10_see_16 : decode cX10_see 16 = .ok (.bipush 6, 2) := by decide +kernel
theorem dX10_see_18 : decode cX10_see 18 = .ok (.aload_n 0, 1) := by decide +kernel
theorem dX10_see_19 : decode cX10_see 19 = .ok (.iload_n 1, 1) := by decide +kernel
theorem dX10_see_20 : decode cX10_see 20 = .ok (.bipush 6, 2) := by decide +kernel
theorem dX10_see_22 : decode cX10_see 22 = .ok (.invokevirtual 50, 3) := by decide +kernel
theorem dX10_see_25 : decode cX10_see 25 = .ok (.iconst 1, 1) := by decide +kernel
theorem dX10_see_26 : decode cX10_see 26 = .ok (.aload_n 0, 1) := by decide +kernel
theorem dX10_see_27 : decode cX10_see 27 = .ok (.iload_n 1, 1) := by decide +kernel
theorem dX10_see_28 : decode cX10_see 28 = .ok (.iconst 2, 1) := by decide +kernel
theorem dX10_see_29 : decode cX10_see 29 = .ok (.invokevirtual 50, 3) := by decide +kernel
theorem dX10_see_32 : decode cX10_see 32 = .ok (.ishl, 1) := by decide +kernel
theorem dX10_see_33 : decode cX10_see 33 = .ok (.ior, 1) := by decide +kernel
theorem dX10_see_34 : decode cX10_see 34 = .ok (.invokevirtual 134, 3) := by decide +kernel
theorem dX10_see_37 : decode cX10_see 37 = .ok (.aload_n 0, 1) := by decide +kernel
theorem dX10_see_38 : decode cX10_see 38 = .ok (.iload_n 1, 1) := by decide +kernel
theorem dX10_see_39 : decode cX10_see 39 = .ok (.bipush 6, 2) := by decide +kernel
theorem dX10_see_41 : decode cX10_see 41 = .ok (.invokevirtual 50, 3) := by decide +kernel
theorem dX10_see_44 : decode cX10_see 44 = .ok (.invokestatic 138, 3) := by decide +kernel
theorem dX10_see_47 : decode cX10_see 47 = .ok (.ireturn, 1) := by decide +kernel
theorem dX10_greater_0 : decode cX10_greater 0 = .ok (.iload_n 0, 1) := by decide +kernel
theorem dX10_greater_1 : decode cX10_greater 1 = .ok (.iload_n 1, 1) := by decide +kernel
theorem dX10_greater_2 : decode cX10_greater 2 = .ok (.if_icmp .le 7, 3) := by decide +kernel
theorem dX10_greater_5 : decode cX10_greater 5 = .ok (.iload_n 0, 1) := by decide +kernel
theorem dX10_greater_6 : decode cX10_greater 6 = .ok (.goto 4, 3) := by decide +kernel
theorem dX10_greater_9 : decode cX10_greater 9 = .ok (.iload_n 1, 1) := by decide +kernel
theorem dX10_greater_10 : decode cX10_greater 10 = .ok (.ireturn, 1) := by decide +kernel
theorem dX10_join_0 : decode cX10_join 0 = .ok (.aload_n 0, 1) := by decide +kernel
theorem dX10_join_1 : decode cX10_join 1 = .ok (.iload_n 1, 1) := by decide +kernel
theorem dX10_join_2 : decode cX10_join 2 = .ok (.invokevirtual 131, 3) := by decide +kernel
theorem dX10_join_5 : decode cX10_join 5 = .ok (.ifCond .eq 16, 3) := by decide +kernel
theorem dX10_join_8 : decode cX10_join 8 = .ok (.aload_n 0, 1) := by decide +kernel
theorem dX10_join_9 : decode cX10_join 9 = .ok (.iload_n 2, 1) := by decide +kernel
theorem dX10_join_10 : decode cX10_join 10 = .ok (.invokevirtual 131, 3) := by decide +kernel
theorem dX10_join_13 : decode cX10_join 13 = .ok (.ifCond .eq 8, 3) := by decide +kernel
theorem dX10_join_16 : decode cX10_join 16 = .ok (.iload_n 1, 1) := by decide +kernel
theorem dX10_join_17 : decode cX10_join 17 = .ok (.iload_n 2, 1) := by decide +kernel
theorem dX10_join_18 : decode cX10_join 18 = .ok (.if_icmp .ne 9, 3) := by decide +kernel
theorem dX10_join_21 : decode cX10_join 21 = .ok (.aload_n 0, 1) := by decide +kernel
theorem dX10_join_22 : decode cX10_join 22 = .ok (.iconst (-1), 1) := by decide +kernel
theorem dX10_join_23 : decode cX10_join 23 = .ok (.invokevirtual 62, 3) := by decide +kernel
theorem dX10_join_26 : decode cX10_join 26 = .ok (.ireturn, 1) := by decide +kernel
theorem dX10_join_27 : decode cX10_join 27 = .ok (.aload_n 0, 1) := by decide +kernel
theorem dX10_join_28 : decode cX10_join 28 = .ok (.iload_n 1, 1) := by decide +kernel
theorem dX10_join_29 : decode cX10_join 29 = .ok (.iconst 0, 1) := by decide +kernel
theorem dX10_join_30 : decode cX10_join 30 = .ok (.invokevirtual 50, 3) := by decide +kernel
theorem dX10_join_33 : decode cX10_join 33 = .ok (.aload_n 0, 1) := by decide +kernel
theorem dX10_join_34 : decode cX10_join 34 = .ok (.iload_n 2, 1) := by decide +kernel
theorem dX10_join_35 : decode cX10_join 35 = .ok (.iconst 0, 1) := by decide +kernel
theorem dX10_join_36 : decode cX10_join 36 = .ok (.invokevirtual 50, 3) := by decide +kernel
theorem dX10_join_39 : decode cX10_join 39 = .ok (.if_icmp .ne 18, 3) := by decide +kernel
theorem dX10_join_42 : decode cX10_join 42 = .ok (.aload_n 0, 1) := by decide +kernel
theorem dX10_join_43 : decode cX10_join 43 = .ok (.iload_n 1, 1) := by decide +kernel
theorem dX10_join_44 : decode cX10_join 44 = .ok (.iconst 2, 1) := by decide +kernel
theorem dX10_join_45 : decode cX10_join 45 = .ok (.invokevirtual 50, 3) := by decide +kernel
theorem dX10_join_48 : decode cX10_join 48 = .ok (.aload_n 0, 1) := by decide +kernel
theorem dX10_join_49 : decode cX10_join 49 = .ok (.iload_n 2, 1) := by decide +kernel
theorem dX10_join_50 : decode cX10_join 50 = .ok (.iconst 2, 1) := by decide +kernel
theorem dX10_join_51 : decode cX10_join 51 = .ok (.invokevirtual 50, 3) := by decide +kernel
theorem dX10_join_54 : decode cX10_join 54 = .ok (.if_icmp .eq 10, 3) := by decide +kernel
theorem dX10_join_57 : decode cX10_join 57 = .ok (.aload_n 0, 1) := by decide +kernel
theorem dX10_join_58 : decode cX10_join 58 = .ok (.bipush (-3), 2) := by decide +kernel
theorem dX10_join_60 : decode cX10_join 60 = .ok (.invokevirtual 62, 3) := by decide +kernel
theorem dX10_join_63 : decode cX10_join 63 = .ok (.ireturn, 1) := by decide +kernel
theorem dX10_join_64 : decode cX10_join 64 = .ok (.aload_n 0, 1) := by decide +kernel
theorem dX10_join_65 : decode cX10_join 65 = .ok (.iload_n 1, 1) := by decide +kernel
theorem dX10_join_66 : decode cX10_join 66 = .ok (.iconst 1, 1) := by decide +kernel
theorem dX10_join_67 : decode cX10_join 67 = .ok (.aload_n 0, 1) := by decide +kernel
theorem dX10_join_68 : decode cX10_join 68 = .ok (.iload_n 1, 1) := by decide +kernel
theorem dX10_join_69 : decode cX10_join 69 = .ok (.iconst 1, 1) := by decide +kernel
theorem dX10_join_70 : decode cX10_join 70 = .ok (.invokevirtual 50, 3) := by decide +kernel
theorem dX10_join_73 : decode cX10_join 73 = .ok (.aload_n 0, 1) := by decide +kernel
theorem dX10_join_74 : decode cX10_join 74 = .ok (.iload_n 2, 1) := by decide +kernel
theorem dX10_join_75 : decode cX10_join 75 = .ok (.iconst 1, 1) := by decide +kernel
theorem dX10_join_76 : decode cX10_join 76 = .ok (.invokevirtual 50, 3) := by decide +kernel
theorem dX10_join_79 : decode cX10_join 79 = .ok (.iadd, 1) := by decide +kernel
theorem dX10_join_80 : decode cX10_join 80 = .ok (.invokevirtual 134, 3) := by decide +kernel
theorem dX10_join_83 : decode cX10_join 83 = .ok (.aload_n 0, 1) := by decide +kernel
theorem dX10_join_84 : decode cX10_join 84 = .ok (.iload_n 1, 1) := by decide +kernel
theorem dX10_join_85 : decode cX10_join 85 = .ok (.iconst 4, 1) := by decide +kernel
theorem dX10_join_86 : decode cX10_join 86 = .ok (.aload_n 0, 1) := by decide +kernel
theorem dX10_join_87 : decode cX10_join 87 = .ok (.iload_n 1, 1) := by decide +kernel
theorem dX10_join_88 : decode cX10_join 88 = .ok (.iconst 4, 1) := by decide +kernel
theorem dX10_join_89 : decode cX10_join 89 = .ok (.invokevirtual 50, 3) := by decide +kernel
theorem dX10_join_92 : decode cX10_join 92 = .ok (.aload_n 0, 1) := by decide +kernel
theorem dX10_join_93 : decode cX10_join 93 = .ok (.iload_n 2, 1) := by decide +kernel
theorem dX10_join_94 : decode cX10_join 94 = .ok (.iconst 4, 1) := by decide +kernel
theorem dX10_join_95 : decode cX10_join 95 = .ok (.invokevirtual 50, 3) := by decide +kernel
theorem dX10_join_98 : decode cX10_join 98 = .ok (.invokestatic 141, 3) := by decide +kernel
theorem dX10_join_101 : decode cX10_join 101 = .ok (.iconst 1, 1) := by decide +kernel
theorem dX10_join_102 : decode cX10_join 102 = .ok (.iadd, 1) := by decide +kernel
theorem dX10_join_103 : decode cX10_join 103 = .ok (.invokevirtual 134, 3) := by decide +kernel
theorem dX10_join_106 : decode cX10_join 106 = .ok (.aload_n 0, 1) := by decide +kernel
theorem dX10_join_107 : decode cX10_join 107 = .ok (.iload_n 1, 1) := by decide +kernel
theorem dX10_join_108 : decode cX10_join 108 = .ok (.iconst 5, 1) := by decide +kernel
theorem dX10_join_109 : decode cX10_join 109 = .ok (.aload_n 0, 1) := by decide +kernel
theorem dX10_join_110 : decode cX10_join 110 = .ok (.iload_n 1, 1) := by decide +kernel
theorem dX10_join_111 : decode cX10_join 111 = .ok (.iconst 5, 1) := by decide +kernel
theorem dX10_join_112 : decode cX10_join 112 = .ok (.invokevirtual 50, 3) := by decide +kernel
theorem dX10_join_115 : decode cX10_join 115 = .ok (.aload_n 0, 1) := by decide +kernel
theorem dX10_join_116 : decode cX10_join 116 = .ok (.iload_n 2, 1) := by decide +kernel
theorem dX10_join_117 : decode cX10_join 117 = .ok (.iconst 5, 1) := by decide +kernel
theorem dX10_join_118 : decode cX10_join 118 = .ok (.invokevirtual 50, 3) := by decide +kernel
theorem dX10_join_121 : decode cX10_join 121 = .ok (.invokestatic 141, 3) := by decide +kernel
theorem dX10_join_124 : decode cX10_join 124 = .ok (.invokevirtual 134, 3) := by decide +kernel
theorem dX10_join_127 : decode cX10_join 127 = .ok (.aload_n 0, 1) := by decide +kernel
theorem dX10_join_128 : decode cX10_join 128 = .ok (.iload_n 1, 1) := by decide +kernel
theorem dX10_join_129 : decode cX10_join 129 = .ok (.bipush 6, 2) := by decide +kernel
theorem dX10_join_131 : decode cX10_join 131 = .ok (.aload_n 0, 1) := by decide +kernel
theorem dX10_join_132 : decode cX10_join 132 = .ok (.iload_n 1, 1) := by decide +kernel
theorem dX10_join_133 : decode cX10_join 133 = .ok (.bipush 6, 2) := by decide +kernel
theorem dX10_join_135 : decode cX10_join 135 = .ok (.invokevirtual 50, 3) := by decide +kernel
theorem dX10_join_138 : decode cX10_join 138 = .ok (.aload_n 0, 1) := by decide +kernel
theorem dX10_join_139 : decode cX10_join 139 = .ok (.iload_n 2, 1) := by decide +kernel
theorem dX10_join_140 : decode cX10_join 140 = .ok (.bipush 6, 2) := by decide +kernel
theorem dX10_join_142 : decode cX10_join 142 = .ok (.invokevirtual 50, 3) := by decide +kernel
theorem dX10_join_145 : decode cX10_join 145 = .ok (.ior, 1) := by decide +kernel
theorem dX10_join_146 : decode cX10_join 146 = .ok (.invokevirtual 134, 3) := by decide +kernel
theorem dX10_join_149 : decode cX10_join 149 = .ok (.aload_n 0, 1) := by decide +kernel
theorem dX10_join_150 : decode cX10_join 150 = .ok (.iload_n 1, 1) := by decide +kernel
theorem dX10_join_151 : decode cX10_join 151 = .ok (.iconst 3, 1) := by decide +kernel
theorem dX10_join_152 : decode cX10_join 152 = .ok (.bipush (-9), 2) := by decide +kernel
theorem dX10_join_154 : decode cX10_join 154 = .ok (.invokevirtual 134, 3) := by decide +kernel
theorem dX10_join_157 : decode cX10_join 157 = .ok (.aload_n 0, 1) := by decide +kernel
theorem dX10_join_158 : decode cX10_join 158 = .ok (.iload_n 2, 1) := by decide +kernel
theorem dX10_join_159 : decode cX10_join 159 = .ok (.iconst 0, 1) := by decide +kernel
theorem dX10_join_160 : decode cX10_join 160 = .ok (.iconst 0, 1) := by decide +kernel
theorem dX10_join_161 : decode cX10_join 161 = .ok (.invokevirtual 134, 3) := by decide +kernel
theorem dX10_join_164 : decode cX10_join 164 = .ok (.aload_n 0, 1) := by decide +kernel
theorem dX10_join_165 : decode cX10_join 165 = .ok (.iload_n 1, 1) := by decide +kernel
theorem dX10_join_166 : decode cX10_join 166 = .ok (.iconst 1, 1) := by decide +kernel
theorem dX10_join_167 : decode cX10_join 167 = .ok (.invokevirtual 50, 3) := by decide +kernel
theorem dX10_join_170 : decode cX10_join 170 = .ok (.ireturn, 1) := by decide +kernel
theorem dX10_at_0 : decode cX10_at 0 = .ok (.aload_n 0, 1) := by decide +kernel
theorem dX10_at_1 : decode cX10_at 1 = .ok (.iload_n 1, 1) := by decide +kernel
theorem dX10_at_2 : decode cX10_at 2 = .ok (.invokevirtual 131, 3) := by decide +kernel
theorem dX10_at_5 : decode cX10_at 5 = .ok (.ifCond .eq 16, 3) := by decide +kernel
theorem dX10_at_8 : decode cX10_at 8 = .ok (.iload_n 2, 1) := by decide +kernel
theorem dX10_at_9 : decode cX10_at 9 = .ok (.iconst (-1), 1) := by decide +kernel
theorem dX10_at_10 : decode cX10_at 10 = .ok (.if_icmp .eq 17, 3) := by decide +kernel
theorem dX10_at_13 : decode cX10_at 13 = .ok (.aload_n 0, 1) := by decide +kernel
theorem dX10_at_14 : decode cX10_at 14 = .ok (.iload_n 2, 1) := by decide +kernel
theorem dX10_at_15 : decode cX10_at 15 = .ok (.invokevirtual 115, 3) := by decide +kernel
theorem dX10_at_18 : decode cX10_at 18 = .ok (.ifCond .ne 9, 3) := by decide +kernel
theorem dX10_at_21 : decode cX10_at 21 = .ok (.aload_n 0, 1) := by decide +kernel
theorem dX10_at_22 : decode cX10_at 22 = .ok (.iconst (-1), 1) := by decide +kernel
theorem dX10_at_23 : decode cX10_at 23 = .ok (.invokevirtual 62, 3) := by decide +kernel
theorem dX10_at_26 : decode cX10_at 26 = .ok (.ireturn, 1) := by decide +kernel
theorem dX10_at_27 : decode cX10_at 27 = .ok (.iload_n 2, 1) := by decide +kernel
theorem dX10_at_28 : decode cX10_at 28 = .ok (.ifCond .lt 25, 3) := by decide +kernel
theorem dX10_at_31 : decode cX10_at 31 = .ok (.aload_n 0, 1) := by decide +kernel
theorem dX10_at_32 : decode cX10_at 32 = .ok (.iload_n 2, 1) := by decide +kernel
theorem dX10_at_33 : decode cX10_at 33 = .ok (.iconst 1, 1) := by decide +kernel
theorem dX10_at_34 : decode cX10_at 34 = .ok (.invokevirtual 118, 3) := by decide +kernel
theorem dX10_at_37 : decode cX10_at 37 = .ok (.aload_n 0, 1) := by decide +kernel
theorem dX10_at_38 : decode cX10_at 38 = .ok (.iload_n 1, 1) := by decide +kernel
theorem dX10_at_39 : decode cX10_at 39 = .ok (.iconst 2, 1) := by decide +kernel
theorem dX10_at_40 : decode cX10_at 40 = .ok (.invokevirtual 50, 3) := by decide +kernel
theorem dX10_at_43 : decode cX10_at 43 = .ok (.if_icmp .eq 10, 3) := by decide +kernel
theorem dX10_at_46 : decode cX10_at 46 = .ok (.aload_n 0, 1) := by decide +kernel
theorem dX10_at_47 : decode cX10_at 47 = .ok (.bipush (-3), 2) := by decide +kernel
theorem dX10_at_49 : decode cX10_at 49 = .ok (.invokevirtual 62, 3) := by decide +kernel
theorem dX10_at_52 : decode cX10_at 52 = .ok (.ireturn, 1) := by decide +kernel
theorem dX10_at_53 : decode cX10_at 53 = .ok (.aload_n 0, 1) := by decide +kernel
theorem dX10_at_54 : decode cX10_at 54 = .ok (.iload_n 1, 1) := by decide +kernel
theorem dX10_at_55 : decode cX10_at 55 = .ok (.iconst 3, 1) := by decide +kernel
theorem dX10_at_56 : decode cX10_at 56 = .ok (.invokevirtual 50, 3) := by decide +kernel
theorem dX10_at_59 : decode cX10_at 59 = .ok (.istore_n 3, 1) := by decide +kernel
theorem dX10_at_60 : decode cX10_at 60 = .ok (.aload_n 0, 1) := by decide +kernel
theorem dX10_at_61 : decode cX10_at 61 = .ok (.iload_n 1, 1) := by decide +kernel
theorem dX10_at_62 : decode cX10_at 62 = .ok (.iconst 3, 1) := by decide +kernel
theorem dX10_at_63 : decode cX10_at 63 = .ok (.iload_n 2, 1) := by decide +kernel
theorem dX10_at_64 : decode cX10_at 64 = .ok (.ifCond .ge 8, 3) := by decide +kernel
theorem dX10_at_67 : decode cX10_at 67 = .ok (.bipush (-9), 2) := by decide +kernel
theorem dX10_at_69 : decode cX10_at 69 = .ok (.goto 4, 3) := by decide +kernel
theorem dX10_at_72 : decode cX10_at 72 = .ok (.iload_n 2, 1) := by decide +kernel
theorem dX10_at_73 : decode cX10_at 73 = .ok (.invokevirtual 134, 3) := by decide +kernel
theorem dX10_at_76 : decode cX10_at 76 = .ok (.iload_n 3, 1) := by decide +kernel
theorem dX10_at_77 : decode cX10_at 77 = .ok (.ireturn, 1) := by decide +kernel
theorem dX10_toil_0 : decode cX10_toil 0 = .ok (.aload_n 0, 1) := by decide +kernel
theorem dX10_toil_1 : decode cX10_toil 1 = .ok (.iload_n 1, 1) := by decide +kernel
theorem dX10_toil_2 : decode cX10_toil 2 = .ok (.invokevirtual 131, 3) := by decide +kernel
theorem dX10_toil_5 : decode cX10_toil 5 = .ok (.ifCond .eq 14, 3) := by decide +kernel
theorem dX10_toil_8 : decode cX10_toil 8 = .ok (.iload_n 2, 1) := by decide +kernel
theorem dX10_toil_9 : decode cX10_toil 9 = .ok (.iconst 1, 1) := by decide +kernel
theorem dX10_toil_10 : decode cX10_toil 10 = .ok (.sipush 600, 3) := by decide +kernel
theorem dX10_toil_13 : decode cX10_toil 13 = .ok (.invokestatic 54, 3) := by decide +kernel
theorem dX10_toil_16 : decode cX10_toil 16 = .ok (.goto 4, 3) := by decide +kernel
theorem dX10_toil_19 : decode cX10_toil 19 = .ok (.iconst (-1), 1) := by decide +kernel
theorem dX10_toil_20 : decode cX10_toil 20 = .ok (.istore_n 3, 1) := by decide +kernel
theorem dX10_toil_21 : decode cX10_toil 21 = .ok (.iload_n 3, 1) := by decide +kernel
theorem dX10_toil_22 : decode cX10_toil 22 = .ok (.ifCond .ne 15, 3) := by decide +kernel
theorem dX10_toil_25 : decode cX10_toil 25 = .ok (.aload_n 0, 1) := by decide +kernel
theorem dX10_toil_26 : decode cX10_toil 26 = .ok (.iload_n 1, 1) := by decide +kernel
theorem dX10_toil_27 : decode cX10_toil 27 = .ok (.iconst 3, 1) := by decide +kernel
theorem dX10_toil_28 : decode cX10_toil 28 = .ok (.invokevirtual 50, 3) := by decide +kernel
theorem dX10_toil_31 : decode cX10_toil 31 = .ok (.ifCond .ge 6, 3) := by decide +kernel
theorem dX10_toil_34 : decode cX10_toil 34 = .ok (.bipush (-3), 2) := by decide +kernel
theorem dX10_toil_36 : decode cX10_toil 36 = .ok (.istore_n 3, 1) := by decide +kernel
theorem dX10_toil_37 : decode cX10_toil 37 = .ok (.iload_n 3, 1) := by decide +kernel
theorem dX10_toil_38 : decode cX10_toil 38 = .ok (.ifCond .eq 9, 3) := by decide +kernel
theorem dX10_toil_41 : decode cX10_toil 41 = .ok (.aload_n 0, 1) := by decide +kernel
theorem dX10_toil_42 : decode cX10_toil 42 = .ok (.iload_n 3, 1) := by decide +kernel
theorem dX10_toil_43 : decode cX10_toil 43 = .ok (.invokevirtual 62, 3) := by decide +kernel
theorem dX10_toil_46 : decode cX10_toil 46 = .ok (.ireturn, 1) := by decide +kernel
theorem dX10_toil_47 : decode cX10_toil 47 = .ok (.aload_n 0, 1) := by decide +kernel
theorem dX10_toil_48 : decode cX10_toil 48 = .ok (.iload_n 1, 1) := by decide +kernel
theorem dX10_toil_49 : decode cX10_toil 49 = .ok (.iconst 4, 1) := by decide +kernel
theorem dX10_toil_50 : decode cX10_toil 50 = .ok (.aload_n 0, 1) := by decide +kernel
theorem dX10_toil_51 : decode cX10_toil 51 = .ok (.iload_n 1, 1) := by decide +kernel
theorem dX10_toil_52 : decode cX10_toil 52 = .ok (.iconst 4, 1) := by decide +kernel
theorem dX10_toil_53 : decode cX10_toil 53 = .ok (.invokevirtual 50, 3) := by decide +kernel
theorem dX10_toil_56 : decode cX10_toil 56 = .ok (.iload_n 2, 1) := by decide +kernel
theorem dX10_toil_57 : decode cX10_toil 57 = .ok (.iadd, 1) := by decide +kernel
theorem dX10_toil_58 : decode cX10_toil 58 = .ok (.invokevirtual 134, 3) := by decide +kernel
theorem dX10_toil_61 : decode cX10_toil 61 = .ok (.aload_n 0, 1) := by decide +kernel
theorem dX10_toil_62 : decode cX10_toil 62 = .ok (.iload_n 1, 1) := by decide +kernel
theorem dX10_toil_63 : decode cX10_toil 63 = .ok (.iconst 5, 1) := by decide +kernel
theorem dX10_toil_64 : decode cX10_toil 64 = .ok (.aload_n 0, 1) := by decide +kernel
theorem dX10_toil_65 : decode cX10_toil 65 = .ok (.iload_n 1, 1) := by decide +kernel
theorem dX10_toil_66 : decode cX10_toil 66 = .ok (.iconst 5, 1) := by decide +kernel
theorem dX10_toil_67 : decode cX10_toil 67 = .ok (.invokevirtual 50, 3) := by decide +kernel
theorem dX10_toil_70 : decode cX10_toil 70 = .ok (.iload_n 2, 1) := by decide +kernel
theorem dX10_toil_71 : decode cX10_toil 71 = .ok (.bipush 12, 2) := by decide +kernel
theorem dX10_toil_73 : decode cX10_toil 73 = .ok (.imul, 1) := by decide +kernel
theorem dX10_toil_74 : decode cX10_toil 74 = .ok (.aload_n 0, 1) := by decide +kernel
theorem dX10_toil_75 : decode cX10_toil 75 = .ok (.iload_n 1, 1) := by decide +kernel
theorem dX10_toil_76 : decode cX10_toil 76 = .ok (.iconst 1, 1) := by decide +kernel
theorem dX10_toil_77 : decode cX10_toil 77 = .ok (.invokevirtual 50, 3) := by decide +kernel
theorem dX10_toil_80 : decode cX10_toil 80 = .ok (.idiv, 1) := by decide +kernel
theorem dX10_toil_81 : decode cX10_toil 81 = .ok (.iadd, 1) := by decide +kernel
theorem dX10_toil_82 : decode cX10_toil 82 = .ok (.invokevirtual 134, 3) := by decide +kernel
theorem dX10_toil_85 : decode cX10_toil 85 = .ok (.aload_n 0, 1) := by decide +kernel
theorem dX10_toil_86 : decode cX10_toil 86 = .ok (.iload_n 1, 1) := by decide +kernel
theorem dX10_toil_87 : decode cX10_toil 87 = .ok (.iconst 5, 1) := by decide +kernel
theorem dX10_toil_88 : decode cX10_toil 88 = .ok (.invokevirtual 50, 3) := by decide +kernel
theorem dX10_toil_91 : decode cX10_toil 91 = .ok (.ireturn, 1) := by decide +kernel
theorem dX10_rest_0 : decode cX10_rest 0 = .ok (.aload_n 0, 1) := by decide +kernel
theorem dX10_rest_1 : decode cX10_rest 1 = .ok (.iload_n 1, 1) := by decide +kernel
theorem dX10_rest_2 : decode cX10_rest 2 = .ok (.invokevirtual 131, 3) := by decide +kernel
theorem dX10_rest_5 : decode cX10_rest 5 = .ok (.ifCond .eq 14, 3) := by decide +kernel
theorem dX10_rest_8 : decode cX10_rest 8 = .ok (.iload_n 2, 1) := by decide +kernel
theorem dX10_rest_9 : decode cX10_rest 9 = .ok (.iconst 1, 1) := by decide +kernel
theorem dX10_rest_10 : decode cX10_rest 10 = .ok (.sipush 600, 3) := by decide +kernel
theorem dX10_rest_13 : decode cX10_rest 13 = .ok (.invokestatic 54, 3) := by decide +kernel
theorem dX10_rest_16 : decode cX10_rest 16 = .ok (.goto 4, 3) := by decide +kernel
theorem dX10_rest_19 : decode cX10_rest 19 = .ok (.iconst (-1), 1) := by decide +kernel
theorem dX10_rest_20 : decode cX10_rest 20 = .ok (.istore_n 3, 1) := by decide +kernel
theorem dX10_rest_21 : decode cX10_rest 21 = .ok (.iload_n 3, 1) := by decide +kernel
theorem dX10_rest_22 : decode cX10_rest 22 = .ok (.ifCond .eq 9, 3) := by decide +kernel
theorem dX10_rest_25 : decode cX10_rest 25 = .ok (.aload_n 0, 1) := by decide +kernel
theorem dX10_rest_26 : decode cX10_rest 26 = .ok (.iload_n 3, 1) := by decide +kernel
theorem dX10_rest_27 : decode cX10_rest 27 = .ok (.invokevirtual 62, 3) := by decide +kernel
theorem dX10_rest_30 : decode cX10_rest 30 = .ok (.ireturn, 1) := by decide +kernel
theorem dX10_rest_31 : decode cX10_rest 31 = .ok (.aload_n 0, 1) := by decide +kernel
theorem dX10_rest_32 : decode cX10_rest 32 = .ok (.iload_n 1, 1) := by decide +kernel
theorem dX10_rest_33 : decode cX10_rest 33 = .ok (.iconst 4, 1) := by decide +kernel
theorem dX10_rest_34 : decode cX10_rest 34 = .ok (.aload_n 0, 1) := by decide +kernel
theorem dX10_rest_35 : decode cX10_rest 35 = .ok (.iload_n 1, 1) := by decide +kernel
theorem dX10_rest_36 : decode cX10_rest 36 = .ok (.iconst 4, 1) := by decide +kernel
theorem dX10_rest_37 : decode cX10_rest 37 = .ok (.invokevirtual 50, 3) := by decide +kernel
theorem dX10_rest_40 : decode cX10_rest 40 = .ok (.iload_n 2, 1) := by decide +kernel
theorem dX10_rest_41 : decode cX10_rest 41 = .ok (.iadd, 1) := by decide +kernel
theorem dX10_rest_42 : decode cX10_rest 42 = .ok (.invokevirtual 134, 3) := by decide +kernel
theorem dX10_rest_45 : decode cX10_rest 45 = .ok (.aload_n 0, 1) := by decide +kernel
theorem dX10_rest_46 : decode cX10_rest 46 = .ok (.iload_n 1, 1) := by decide +kernel
theorem dX10_rest_47 : decode cX10_rest 47 = .ok (.iconst 5, 1) := by decide +kernel
theorem dX10_rest_48 : decode cX10_rest 48 = .ok (.iconst 0, 1) := by decide +kernel
theorem dX10_rest_49 : decode cX10_rest 49 = .ok (.aload_n 0, 1) := by decide +kernel
theorem dX10_rest_50 : decode cX10_rest 50 = .ok (.iload_n 1, 1) := by decide +kernel
theorem dX10_rest_51 : decode cX10_rest 51 = .ok (.iconst 5, 1) := by decide +kernel
theorem dX10_rest_52 : decode cX10_rest 52 = .ok (.invokevirtual 50, 3) := by decide +kernel
theorem dX10_rest_55 : decode cX10_rest 55 = .ok (.iconst 2, 1) := by decide +kernel
theorem dX10_rest_56 : decode cX10_rest 56 = .ok (.iload_n 2, 1) := by decide +kernel
theorem dX10_rest_57 : decode cX10_rest 57 = .ok (.imul, 1) := by decide +kernel
theorem dX10_rest_58 : decode cX10_rest 58 = .ok (.isub, 1) := by decide +kernel
theorem dX10_rest_59 : decode cX10_rest 59 = .ok (.invokestatic 141, 3) := by decide +kernel
theorem dX10_rest_62 : decode cX10_rest 62 = .ok (.invokevirtual 134, 3) := by decide +kernel
theorem dX10_rest_65 : decode cX10_rest 65 = .ok (.aload_n 0, 1) := by decide +kernel
theorem dX10_rest_66 : decode cX10_rest 66 = .ok (.iload_n 1, 1) := by decide +kernel
theorem dX10_rest_67 : decode cX10_rest 67 = .ok (.iconst 5, 1) := by decide +kernel
theorem dX10_rest_68 : decode cX10_rest 68 = .ok (.invokevirtual 50, 3) := by decide +kernel
theorem dX10_rest_71 : decode cX10_rest 71 = .ok (.ireturn, 1) := by decide +kernel
theorem dX10_lose_0 : decode cX10_lose 0 = .ok (.aload_n 0, 1) := by decide +kernel
theorem dX10_lose_1 : decode cX10_lose 1 = .ok (.iload_n 1, 1) := by decide +kernel
theorem dX10_lose_2 : decode cX10_lose 2 = .ok (.invokevirtual 131, 3) := by decide +kernel
theorem dX10_lose_5 : decode cX10_lose 5 = .ok (.ifCond .ne 9, 3) := by decide +kernel
theorem dX10_lose_8 : decode cX10_lose 8 = .ok (.aload_n 0, 1) := by decide +kernel
theorem dX10_lose_9 : decode cX10_lose 9 = .ok (.iconst (-1), 1) := by decide +kernel
theorem dX10_lose_10 : decode cX10_lose 10 = .ok (.invokevirtual 62, 3) := by decide +kernel
theorem dX10_lose_13 : decode cX10_lose 13 = .ok (.ireturn, 1) := by decide +kernel
theorem dX10_lose_14 : decode cX10_lose 14 = .ok (.aload_n 0, 1) := by decide +kernel
theorem dX10_lose_15 : decode cX10_lose 15 = .ok (.iload_n 1, 1) := by decide +kernel
theorem dX10_lose_16 : decode cX10_lose 16 = .ok (.iconst 0, 1) := by decide +kernel
theorem dX10_lose_17 : decode cX10_lose 17 = .ok (.iconst 0, 1) := by decide +kernel
theorem dX10_lose_18 : decode cX10_lose 18 = .ok (.invokevirtual 134, 3) := by decide +kernel
theorem dX10_lose_21 : decode cX10_lose 21 = .ok (.aload_n 0, 1) := by decide +kernel
theorem dX10_lose_22 : decode cX10_lose 22 = .ok (.iload_n 1, 1) := by decide +kernel
theorem dX10_lose_23 : decode cX10_lose 23 = .ok (.iconst 1, 1) := by decide +kernel
theorem dX10_lose_24 : decode cX10_lose 24 = .ok (.invokevirtual 50, 3) := by decide +kernel
theorem dX10_lose_27 : decode cX10_lose 27 = .ok (.ireturn, 1) := by decide +kernel
theorem dX10_begins_0 : decode cX10_begins 0 = .ok (.iconst 0, 1) := by decide +kernel
theorem dX10_begins_1 : decode cX10_begins 1 = .ok (.istore_n 1, 1) := by decide +kernel
theorem dX10_begins_2 : decode cX10_begins 2 = .ok (.iload_n 1, 1) := by decide +kernel
theorem dX10_begins_3 : decode cX10_begins 3 = .ok (.iconst 3, 1) := by decide +kernel
theorem dX10_begins_4 : decode cX10_begins 4 = .ok (.if_icmp .ge 16, 3) := by decide +kernel
theorem dX10_begins_7 : decode cX10_begins 7 = .ok (.aload_n 0, 1) := by decide +kernel
theorem dX10_begins_8 : decode cX10_begins 8 = .ok (.getfield 31, 3) := by decide +kernel
theorem dX10_begins_11 : decode cX10_begins 11 = .ok (.iload_n 1, 1) := by decide +kernel
theorem dX10_begins_12 : decode cX10_begins 12 = .ok (.iconst 0, 1) := by decide +kernel
theorem dX10_begins_13 : decode cX10_begins 13 = .ok (.iastore, 1) := by decide +kernel
theorem dX10_begins_14 : decode cX10_begins 14 = .ok (.iinc 1 1, 3) := by decide +kernel
theorem dX10_begins_17 : decode cX10_begins 17 = .ok (.goto (-15), 3) := by decide +kernel
theorem dX10_begins_20 : decode cX10_begins 20 = .ok (.aload_n 0, 1) := by decide +kernel
theorem dX10_begins_21 : decode cX10_begins 21 = .ok (.iconst 0, 1) := by decide +kernel
theorem dX10_begins_22 : decode cX10_begins 22 = .ok (.putfield 144, 3) := by decide +kernel
theorem dX10_begins_25 : decode cX10_begins 25 = .ok (.return_, 1) := by decide +kernel
theorem dX10_giftOf_0 : decode cX10_giftOf 0 = .ok (.iload 4, 2) := by decide +kernel
theorem dX10_giftOf_2 : decode cX10_giftOf 2 = .ok (.sipush 240, 3) := by decide +kernel
theorem dX10_giftOf_5 : decode cX10_giftOf 5 = .ok (.if_icmp .le 5, 3) := by decide +kernel
theorem dX10_giftOf_8 : decode cX10_giftOf 8 = .ok (.iconst 0, 1) := by decide +kernel
theorem dX10_giftOf_9 : decode cX10_giftOf 9 = .ok (.ireturn, 1) := by decide +kernel
theorem dX10_giftOf_10 : decode cX10_giftOf 10 = .ok (.iload_n 0, 1) := by decide +kernel
theorem dX10_giftOf_11 : decode cX10_giftOf 11 = .ok (.iconst 1, 1) := by decide +kernel
theorem dX10_giftOf_12 : decode cX10_giftOf 12 = .ok (.if_icmp .ne 9, 3) := by decide +kernel
theorem dX10_giftOf_15 : decode cX10_giftOf 15 = .ok (.iload_n 3, 1) := by decide +kernel
theorem dX10_giftOf_16 : decode cX10_giftOf 16 = .ok (.bipush 12, 2) := by decide +kernel
theorem dX10_giftOf_18 : decode cX10_giftOf 18 = .ok (.if_icmp .lt 19, 3) := by decide +kernel
theorem dX10_giftOf_21 : decode cX10_giftOf 21 = .ok (.iload_n 0, 1) := by decide +kernel
theorem dX10_giftOf_22 : decode cX10_giftOf 22 = .ok (.iconst 2, 1) := by decide +kernel
theorem dX10_giftOf_23 : decode cX10_giftOf 23 = .ok (.if_icmp .eq 8, 3) := by decide +kernel
theorem dX10_giftOf_26 : decode cX10_giftOf 26 = .ok (.iload_n 0, 1) := by decide +kernel
theorem dX10_giftOf_27 : decode cX10_giftOf 27 = .ok (.iconst 5, 1) := by decide +kernel
theorem dX10_giftOf_28 : decode cX10_giftOf 28 = .ok (.if_icmp .ne 11, 3) := by decide +kernel
theorem dX10_giftOf_31 : decode cX10_giftOf 31 = .ok (.iload_n 3, 1) := by decide +kernel
theorem dX10_giftOf_32 : decode cX10_giftOf 32 = .ok (.bipush 8, 2) := by decide +kernel
theorem dX10_giftOf_34 : decode cX10_giftOf 34 = .ok (.if_icmp .ge 5, 3) := by decide +kernel
theorem dX10_giftOf_37 : decode cX10_giftOf 37 = .ok (.iconst 0, 1) := by decide +kernel
theorem dX10_giftOf_38 : decode cX10_giftOf 38 = .ok (.ireturn, 1) := by decide +kernel
theorem dX10_giftOf_39 : decode cX10_giftOf 39 = .ok (.iload_n 1, 1) := by decide +kernel
theorem dX10_giftOf_40 : decode cX10_giftOf 40 = .ok (.istore 5, 2) := by decide +kernel
theorem dX10_giftOf_42 : decode cX10_giftOf 42 = .ok (.iload_n 0, 1) := by decide +kernel
theorem dX10_giftOf_43 : decode cX10_giftOf 43 = .ok (.iconst 5, 1) := by decide +kernel
theorem dX10_giftOf_44 : decode cX10_giftOf 44 = .ok (.if_icmp .ne 17, 3) := by decide +kernel
theorem dX10_giftOf_47 : decode cX10_giftOf 47 = .ok (.iload_n 2, 1) := by decide +kernel
theorem dX10_giftOf_48 : decode cX10_giftOf 48 = .ok (.ifCond .ne 13, 3) := by decide +kernel
theorem dX10_giftOf_51 : decode cX10_giftOf 51 = .ok (.iconst 0, 1) := by decide +kernel
theorem dX10_giftOf_52 : decode cX10_giftOf 52 = .ok (.iload_n 1, 1) := by decide +kernel
theorem dX10_giftOf_53 : decode cX10_giftOf 53 = .ok (.iload 4, 2) := by decide +kernel
theorem dX10_giftOf_55 : decode cX10_giftOf 55 = .ok (.isub, 1) := by decide +kernel
theorem dX10_giftOf_56 : decode cX10_giftOf 56 = .ok (.invokestatic 141, 3) := by decide +kernel
theorem dX10_giftOf_59 : decode cX10_giftOf 59 = .ok (.istore 5, 2) := by decide +kernel
theorem dX10_giftOf_61 : decode cX10_giftOf 61 = .ok (.iload_n 0, 1) := by decide +kernel
theorem dX10_giftOf_62 : decode cX10_giftOf 62 = .ok (.iconst 4, 1) := by decide +kernel
theorem dX10_giftOf_63 : decode cX10_giftOf 63 = .ok (.if_icmp .ne 13, 3) := by decide +kernel
theorem dX10_giftOf_66 : decode cX10_giftOf 66 = .ok (.iload_n 2, 1) := by decide +kernel
theorem dX10_giftOf_67 : decode cX10_giftOf 67 = .ok (.iconst 1, 1) := by decide +kernel
theorem dX10_giftOf_68 : decode cX10_giftOf 68 = .ok (.if_icmp .ne 8, 3) := by decide +kernel
theorem dX10_giftOf_71 : decode cX10_giftOf 71 = .ok (.iconst 2, 1) := by decide +kernel
theorem dX10_giftOf_72 : decode cX10_giftOf 72 = .ok (.iload_n 1, 1) := by decide +kernel
theorem dX10_giftOf_73 : decode cX10_giftOf 73 = .ok (.imul, 1) := by decide +kernel
theorem dX10_giftOf_74 : decode cX10_giftOf 74 = .ok (.istore 5, 2) := by decide +kernel
theorem dX10_giftOf_76 : decode cX10_giftOf 76 = .ok (.iload 5, 2) := by decide +kernel
theorem dX10_giftOf_78 : decode cX10_giftOf 78 = .ok (.iload_n 3, 1) := by decide +kernel
theorem dX10_giftOf_79 : decode cX10_giftOf 79 = .ok (.imul, 1) := by decide +kernel
theorem dX10_giftOf_80 : decode cX10_giftOf 80 = .ok (.ireturn, 1) := by decide +kernel
theorem dX10_gives_0 : decode cX10_gives 0 = .ok (.iconst 0, 1) := by decide +kernel
theorem dX10_gives_1 : decode cX10_gives 1 = .ok (.istore 5, 2) := by decide +kernel
theorem dX10_gives_3 : decode cX10_gives 3 = .ok (.iload 5, 2) := by decide +kernel
theorem dX10_gives_5 : decode cX10_gives 5 = .ok (.iconst 3, 1) := by decide +kernel
theorem dX10_gives_6 : decode cX10_gives 6 = .ok (.if_icmp .ge 35, 3) := by decide +kernel
theorem dX10_gives_9 : decode cX10_gives 9 = .ok (.aload_n 0, 1) := by decide +kernel
theorem dX10_gives_10 : decode cX10_gives 10 = .ok (.getfield 31, 3) := by decide +kernel
theorem dX10_gives_13 : decode cX10_gives 13 = .ok (.iload 5, 2) := by decide +kernel
theorem dX10_gives_15 : decode cX10_gives 15 = .ok (.dup2, 1) := by decide +kernel
theorem dX10_gives_16 : decode cX10_gives 16 = .ok (.iaload, 1) := by decide +kernel
theorem dX10_gives_17 : decode cX10_gives 17 = .ok (.iload_n 1, 1) := by decide +kernel
theorem dX10_gives_18 : decode cX10_gives 18 = .ok (.aload_n 0, 1) := by decide +kernel
theorem dX10_gives_19 : decode cX10_gives 19 = .ok (.iload_n 2, 1) := by decide +kernel
theorem dX10_gives_20 : decode cX10_gives 20 = .ok (.iload 5, 2) := by decide +kernel
theorem dX10_gives_22 : decode cX10_gives 22 = .ok (.invokevirtual 106, 3) := by decide +kernel
theorem dX10_gives_25 : decode cX10_gives 25 = .ok (.iload 5, 2) := by decide +kernel
theorem dX10_gives_27 : decode cX10_gives 27 = .ok (.iload_n 3, 1) := by decide +kernel
theorem dX10_gives_28 : decode cX10_gives 28 = .ok (.iload 4, 2) := by decide +kernel
theorem dX10_gives_30 : decode cX10_gives 30 = .ok (.invokestatic 147, 3) := by decide +kernel
theorem dX10_gives_33 : decode cX10_gives 33 = .ok (.iadd, 1) := by decide +kernel
theorem dX10_gives_34 : decode cX10_gives 34 = .ok (.iastore, 1) := by decide +kernel
theorem dX10_gives_35 : decode cX10_gives 35 = .ok (.iinc 5 1, 3) := by decide +kernel
theorem dX10_gives_38 : decode cX10_gives 38 = .ok (.goto (-35), 3) := by decide +kernel
theorem dX10_gives_41 : decode cX10_gives 41 = .ok (.aload_n 0, 1) := by decide +kernel
theorem dX10_gives_42 : decode cX10_gives 42 = .ok (.dup, 1) := by decide +kernel
theorem dX10_gives_43 : decode cX10_gives 43 = .ok (.getfield 144, 3) := by decide +kernel
theorem dX10_gives_46 : decode cX10_gives 46 = .ok (.iconst 1, 1) := by decide +kernel
theorem dX10_gives_47 : decode cX10_gives 47 = .ok (.iload_n 2, 1) := by decide +kernel
theorem dX10_gives_48 : decode cX10_gives 48 = .ok (.ishl, 1) := by decide +kernel
theorem dX10_gives_49 : decode cX10_gives 49 = .ok (.ior, 1) := by decide +kernel
theorem dX10_gives_50 : decode cX10_gives 50 = .ok (.putfield 144, 3) := by decide +kernel
theorem dX10_gives_53 : decode cX10_gives 53 = .ok (.return_, 1) := by decide +kernel
theorem dX10_doesOf_0 : decode cX10_doesOf 0 = .ok (.iload_n 1, 1) := by decide +kernel
theorem dX10_doesOf_1 : decode cX10_doesOf 1 = .ok (.iconst 3, 1) := by decide +kernel
theorem dX10_doesOf_2 : decode cX10_doesOf 2 = .ok (.if_icmp .ne 27, 3) := by decide +kernel
theorem dX10_doesOf_5 : decode cX10_doesOf 5 = .ok (.aload_n 0, 1) := by decide +kernel
theorem dX10_doesOf_6 : decode cX10_doesOf 6 = .ok (.getfield 144, 3) := by decide +kernel
theorem dX10_doesOf_9 : decode cX10_doesOf 9 = .ok (.invokestatic 138, 3) := by decide +kernel
theorem dX10_doesOf_12 : decode cX10_doesOf 12 = .ok (.iconst 1, 1) := by decide +kernel
theorem dX10_doesOf_13 : decode cX10_doesOf 13 = .ok (.if_icmp .le 16, 3) := by decide +kernel
theorem dX10_doesOf_16 : decode cX10_doesOf 16 = .ok (.aload_n 0, 1) := by decide +kernel
theorem dX10_doesOf_17 : decode cX10_doesOf 17 = .ok (.getfield 31, 3) := by decide +kernel
theorem dX10_doesOf_20 : decode cX10_doesOf 20 = .ok (.iload_n 2, 1) := by decide +kernel
theorem dX10_doesOf_21 : decode cX10_doesOf 21 = .ok (.iaload, 1) := by decide +kernel
theorem dX10_doesOf_22 : decode cX10_doesOf 22 = .ok (.iconst 3, 1) := by decide +kernel
theorem dX10_doesOf_23 : decode cX10_doesOf 23 = .ok (.imul, 1) := by decide +kernel
theorem dX10_doesOf_24 : decode cX10_doesOf 24 = .ok (.iconst 2, 1) := by decide +kernel
theorem dX10_doesOf_25 : decode cX10_doesOf 25 = .ok (.idiv, 1) := by decide +kernel
theorem dX10_doesOf_26 : decode cX10_doesOf 26 = .ok (.goto 9, 3) := by decide +kernel
theorem dX10_doesOf_29 : decode cX10_doesOf 29 = .ok (.aload_n 0, 1) := by decide +kernel
theorem dX10_doesOf_30 : decode cX10_doesOf 30 = .ok (.getfield 31, 3) := by decide +kernel
theorem dX10_doesOf_33 : decode cX10_doesOf 33 = .ok (.iload_n 2, 1) := by decide +kernel
theorem dX10_doesOf_34 : decode cX10_doesOf 34 = .ok (.iaload, 1) := by decide +kernel
theorem dX10_doesOf_35 : decode cX10_doesOf 35 = .ok (.ireturn, 1) := by decide +kernel
theorem dX10_gathers_0 : decode cX10_gathers 0 = .ok (.aload_n 0, 1) := by decide +kernel
theorem dX10_gathers_1 : decode cX10_gathers 1 = .ok (.invokevirtual 151, 3) := by decide +kernel
theorem dX10_gathers_4 : decode cX10_gathers 4 = .ok (.iconst 0, 1) := by decide +kernel
theorem dX10_gathers_5 : decode cX10_gathers 5 = .ok (.istore_n 2, 1) := by decide +kernel
theorem dX10_gathers_6 : decode cX10_gathers 6 = .ok (.iload_n 2, 1) := by decide +kernel
theorem dX10_gathers_7 : decode cX10_gathers 7 = .ok (.bipush 24, 2) := by decide +kernel
theorem dX10_gathers_9 : decode cX10_gathers 9 = .ok (.if_icmp .ge 58, 3) := by decide +kernel
theorem dX10_gathers_12 : decode cX10_gathers 12 = .ok (.aload_n 0, 1) := by decide +kernel
theorem dX10_gathers_13 : decode cX10_gathers 13 = .ok (.iload_n 2, 1) := by decide +kernel
theorem dX10_gathers_14 : decode cX10_gathers 14 = .ok (.iconst 0, 1) := by decide +kernel
theorem dX10_gathers_15 : decode cX10_gathers 15 = .ok (.invokevirtual 50, 3) := by decide +kernel
theorem dX10_gathers_18 : decode cX10_gathers 18 = .ok (.ifCond .le 43, 3) := by decide +kernel
theorem dX10_gathers_21 : decode cX10_gathers 21 = .ok (.aload_n 0, 1) := by decide +kernel
theorem dX10_gathers_22 : decode cX10_gathers 22 = .ok (.iload_n 2, 1) := by decide +kernel
theorem dX10_gathers_23 : decode cX10_gathers 23 = .ok (.iconst 3, 1) := by decide +kernel
theorem dX10_gathers_24 : decode cX10_gathers 24 = .ok (.invokevirtual 50, 3) := by decide +kernel
theorem dX10_gathers_27 : decode cX10_gathers 27 = .ok (.iload_n 1, 1) := by decide +kernel
theorem dX10_gathers_28 : decode cX10_gathers 28 = .ok (.if_icmp .ne 33, 3) := by decide +kernel
theorem dX10_gathers_31 : decode cX10_gathers 31 = .ok (.aload_n 0, 1) := by decide +kernel
theorem dX10_gathers_32 : decode cX10_gathers 32 = .ok (.aload_n 0, 1) := by decide +kernel
theorem dX10_gathers_33 : decode cX10_gathers 33 = .ok (.iload_n 1, 1) := by decide +kernel
theorem dX10_gathers_34 : decode cX10_gathers 34 = .ok (.iconst 0, 1) := by decide +kernel
theorem dX10_gathers_35 : decode cX10_gathers 35 = .ok (.invokevirtual 118, 3) := by decide +kernel
theorem dX10_gathers_38 : decode cX10_gathers 38 = .ok (.aload_n 0, 1) := by decide +kernel
theorem dX10_gathers_39 : decode cX10_gathers 39 = .ok (.iload_n 2, 1) := by decide +kernel
theorem dX10_gathers_40 : decode cX10_gathers 40 = .ok (.iconst 0, 1) := by decide +kernel
theorem dX10_gathers_41 : decode cX10_gathers 41 = .ok (.invokevirtual 50, 3) := by decide +kernel
theorem dX10_gathers_44 : decode cX10_gathers 44 = .ok (.iconst 1, 1) := by decide +kernel
theorem dX10_gathers_45 : decode cX10_gathers 45 = .ok (.isub, 1) := by decide +kernel
theorem dX10_gathers_46 : decode cX10_gathers 46 = .ok (.aload_n 0, 1) := by decide +kernel
theorem dX10_gathers_47 : decode cX10_gathers 47 = .ok (.iload_n 2, 1) := by decide +kernel
theorem dX10_gathers_48 : decode cX10_gathers 48 = .ok (.iconst 1, 1) := by decide +kernel
theorem dX10_gathers_49 : decode cX10_gathers 49 = .ok (.invokevirtual 50, 3) := by decide +kernel
theorem dX10_gathers_52 : decode cX10_gathers 52 = .ok (.aload_n 0, 1) := by decide +kernel
theorem dX10_gathers_53 : decode cX10_gathers 53 = .ok (.iload_n 2, 1) := by decide +kernel
theorem dX10_gathers_54 : decode cX10_gathers 54 = .ok (.iconst 5, 1) := by decide +kernel
theorem dX10_gathers_55 : decode cX10_gathers 55 = .ok (.invokevirtual 50, 3) := by decide +kernel
theorem dX10_gathers_58 : decode cX10_gathers 58 = .ok (.invokevirtual 154, 3) := by decide +kernel
theorem dX10_gathers_61 : decode cX10_gathers 61 = .ok (.iinc 2 1, 3) := by decide +kernel
theorem dX10_gathers_64 : decode cX10_gathers 64 = .ok (.goto (-58), 3) := by decide +kernel
theorem dX10_gathers_67 : decode cX10_gathers 67 = .ok (.return_, 1) := by decide +kernel
theorem dX10_does_0 : decode cX10_does 0 = .ok (.aload_n 0, 1) := by decide +kernel
theorem dX10_does_1 : decode cX10_does 1 = .ok (.iload_n 1, 1) := by decide +kernel
theorem dX10_does_2 : decode cX10_does 2 = .ok (.invokevirtual 115, 3) := by decide +kernel
theorem dX10_does_5 : decode cX10_does 5 = .ok (.ifCond .ne 9, 3) := by decide +kernel
theorem dX10_does_8 : decode cX10_does 8 = .ok (.aload_n 0, 1) := by decide +kernel
theorem dX10_does_9 : decode cX10_does 9 = .ok (.iconst (-1), 1) := by decide +kernel
theorem dX10_does_10 : decode cX10_does 10 = .ok (.invokevirtual 62, 3) := by decide +kernel
theorem dX10_does_13 : decode cX10_does 13 = .ok (.ireturn, 1) := by decide +kernel
theorem dX10_does_14 : decode cX10_does 14 = .ok (.iload_n 2, 1) := by decide +kernel
theorem dX10_does_15 : decode cX10_does 15 = .ok (.iconst 3, 1) := by decide +kernel
theorem dX10_does_16 : decode cX10_does 16 = .ok (.invokestatic 46, 3) := by decide +kernel
theorem dX10_does_19 : decode cX10_does 19 = .ok (.ifCond .ne 10, 3) := by decide +kernel
theorem dX10_does_22 : decode cX10_does 22 = .ok (.aload_n 0, 1) := by decide +kernel
theorem dX10_does_23 : decode cX10_does 23 = .ok (.bipush (-2), 2) := by decide +kernel
theorem dX10_does_25 : decode cX10_does 25 = .ok (.invokevirtual 62, 3) := by decide +kernel
theorem dX10_does_28 : decode cX10_does 28 = .ok (.ireturn, 1) := by decide +kernel
theorem dX10_does_29 : decode cX10_does 29 = .ok (.aload_n 0, 1) := by decide +kernel
theorem dX10_does_30 : decode cX10_does 30 = .ok (.iload_n 1, 1) := by decide +kernel
theorem dX10_does_31 : decode cX10_does 31 = .ok (.invokevirtual 158, 3) := by decide +kernel
theorem dX10_does_34 : decode cX10_does 34 = .ok (.aload_n 0, 1) := by decide +kernel
theorem dX10_does_35 : decode cX10_does 35 = .ok (.aload_n 0, 1) := by decide +kernel
theorem dX10_does_36 : decode cX10_does 36 = .ok (.iload_n 1, 1) := by decide +kernel
theorem dX10_does_37 : decode cX10_does 37 = .ok (.iconst 0, 1) := by decide +kernel
theorem dX10_does_38 : decode cX10_does 38 = .ok (.invokevirtual 118, 3) := by decide +kernel
theorem dX10_does_41 : decode cX10_does 41 = .ok (.iload_n 2, 1) := by decide +kernel
theorem dX10_does_42 : decode cX10_does 42 = .ok (.invokevirtual 162, 3) := by decide +kernel
theorem dX10_does_45 : decode cX10_does 45 = .ok (.ireturn, 1) := by decide +kernel
theorem dX10_findsWell_0 : decode cX10_findsWell 0 = .ok (.aload_n 0, 1) := by decide +kernel
theorem dX10_findsWell_1 : decode cX10_findsWell 1 = .ok (.iconst 1, 1) := by decide +kernel
theorem dX10_findsWell_2 : decode cX10_findsWell 2 = .ok (.putfield 165, 3) := by decide +kernel
theorem dX10_findsWell_5 : decode cX10_findsWell 5 = .ok (.aload_n 0, 1) := by decide +kernel
theorem dX10_findsWell_6 : decode cX10_findsWell 6 = .ok (.iconst 1, 1) := by decide +kernel
theorem dX10_findsWell_7 : decode cX10_findsWell 7 = .ok (.putfield 168, 3) := by decide +kernel
theorem dX10_findsWell_10 : decode cX10_findsWell 10 = .ok (.iconst 0, 1) := by decide +kernel
theorem dX10_findsWell_11 : decode cX10_findsWell 11 = .ok (.istore_n 2, 1) := by decide +kernel
theorem dX10_findsWell_12 : decode cX10_findsWell 12 = .ok (.iload_n 2, 1) := by decide +kernel
theorem dX10_findsWell_13 : decode cX10_findsWell 13 = .ok (.iconst 3, 1) := by decide +kernel
theorem dX10_findsWell_14 : decode cX10_findsWell 14 = .ok (.if_icmp .ge 71, 3) := by decide +kernel
theorem dX10_findsWell_17 : decode cX10_findsWell 17 = .ok (.bipush 12, 2) := by decide +kernel
theorem dX10_findsWell_19 : decode cX10_findsWell 19 = .ok (.aload_n 0, 1) := by decide +kernel
theorem dX10_findsWell_20 : decode cX10_findsWell 20 = .ok (.iload_n 1, 1) := by decide +kernel
theorem dX10_findsWell_21 : decode cX10_findsWell 21 = .ok (.iconst 2, 1) := by decide +kernel
theorem dX10_findsWell_22 : decode cX10_findsWell 22 = .ok (.iload_n 2, 1) := by decide +kernel
theorem dX10_findsWell_23 : decode cX10_findsWell 23 = .ok (.iadd, 1) := by decide +kernel
theorem dX10_findsWell_24 : decode cX10_findsWell 24 = .ok (.invokevirtual 118, 3) := by decide +kernel
theorem dX10_findsWell_27 : decode cX10_findsWell 27 = .ok (.imul, 1) := by decide +kernel
theorem dX10_findsWell_28 : decode cX10_findsWell 28 = .ok (.istore_n 3, 1) := by decide +kernel
theorem dX10_findsWell_29 : decode cX10_findsWell 29 = .ok (.iload_n 3, 1) := by decide +kernel
theorem dX10_findsWell_30 : decode cX10_findsWell 30 = .ok (.ifCond .ne 6, 3) := by decide +kernel
theorem dX10_findsWell_33 : decode cX10_findsWell 33 = .ok (.goto 46, 3) := by decide +kernel
theorem dX10_findsWell_36 : decode cX10_findsWell 36 = .ok (.aload_n 0, 1) := by decide +kernel
theorem dX10_findsWell_37 : decode cX10_findsWell 37 = .ok (.aload_n 0, 1) := by decide +kernel
theorem dX10_findsWell_38 : decode cX10_findsWell 38 = .ok (.iload_n 1, 1) := by decide +kernel
theorem dX10_findsWell_39 : decode cX10_findsWell 39 = .ok (.iconst 0, 1) := by decide +kernel
theorem dX10_findsWell_40 : decode cX10_findsWell 40 = .ok (.invokevirtual 118, 3) := by decide +kernel
theorem dX10_findsWell_43 : decode cX10_findsWell 43 = .ok (.iload_n 2, 1) := by decide +kernel
theorem dX10_findsWell_44 : decode cX10_findsWell 44 = .ok (.invokevirtual 162, 3) := by decide +kernel
theorem dX10_findsWell_47 : decode cX10_findsWell 47 = .ok (.istore 4, 2) := by decide +kernel
theorem dX10_findsWell_49 : decode cX10_findsWell 49 = .ok (.iload 4, 2) := by decide +kernel
theorem dX10_findsWell_51 : decode cX10_findsWell 51 = .ok (.aload_n 0, 1) := by decide +kernel
theorem dX10_findsWell_52 : decode cX10_findsWell 52 = .ok (.getfield 168, 3) := by decide +kernel
theorem dX10_findsWell_55 : decode cX10_findsWell 55 = .ok (.imul, 1) := by decide +kernel
theorem dX10_findsWell_56 : decode cX10_findsWell 56 = .ok (.aload_n 0, 1) := by decide +kernel
theorem dX10_findsWell_57 : decode cX10_findsWell 57 = .ok (.getfield 165, 3) := by decide +kernel
theorem dX10_findsWell_60 : decode cX10_findsWell 60 = .ok (.iload_n 3, 1) := by decide +kernel
theorem dX10_findsWell_61 : decode cX10_findsWell 61 = .ok (.imul, 1) := by decide +kernel
theorem dX10_findsWell_62 : decode cX10_findsWell 62 = .ok (.if_icmp .lt 6, 3) := by decide +kernel
theorem dX10_findsWell_65 : decode cX10_findsWell 65 = .ok (.goto 14, 3) := by decide +kernel
theorem dX10_findsWell_68 : decode cX10_findsWell 68 = .ok (.aload_n 0, 1) := by decide +kernel
theorem dX10_findsWell_69 : decode cX10_findsWell 69 = .ok (.iload 4, 2) := by decide +kernel
theorem dX10_findsWell_71 : decode cX10_findsWell 71 = .ok (.putfield 165, 3) := by decide +kernel
theorem dX10_findsWell_74 : decode cX10_findsWell 74 = .ok (.aload_n 0, 1) := by decide +kernel
theorem dX10_findsWell_75 : decode cX10_findsWell 75 = .ok (.iload_n 3, 1) := by decide +kernel
theorem dX10_findsWell_76 : decode cX10_findsWell 76 = .ok (.putfield 168, 3) := by decide +kernel
theorem dX10_findsWell_79 : decode cX10_findsWell 79 = .ok (.iinc 2 1, 3) := by decide +kernel
theorem dX10_findsWell_82 : decode cX10_findsWell 82 = .ok (.goto (-70), 3) := by decide +kernel
theorem dX10_findsWell_85 : decode cX10_findsWell 85 = .ok (.return_, 1) := by decide +kernel
theorem dX10_isDoneNow_0 : decode cX10_isDoneNow 0 = .ok (.aload_n 0, 1) := by decide +kernel
theorem dX10_isDoneNow_1 : decode cX10_isDoneNow 1 = .ok (.iload_n 1, 1) := by decide +kernel
theorem dX10_isDoneNow_2 : decode cX10_isDoneNow 2 = .ok (.invokevirtual 171, 3) := by decide +kernel
theorem dX10_isDoneNow_5 : decode cX10_isDoneNow 5 = .ok (.aload_n 0, 1) := by decide +kernel
theorem dX10_isDoneNow_6 : decode cX10_isDoneNow 6 = .ok (.getfield 165, 3) := by decide +kernel
theorem dX10_isDoneNow_9 : decode cX10_isDoneNow 9 = .ok (.aload_n 0, 1) := by decide +kernel
theorem dX10_isDoneNow_10 : decode cX10_isDoneNow 10 = .ok (.getfield 168, 3) := by decide +kernel
theorem dX10_isDoneNow_13 : decode cX10_isDoneNow 13 = .ok (.if_icmp .ne 7, 3) := by decide +kernel
theorem dX10_isDoneNow_16 : decode cX10_isDoneNow 16 = .ok (.iconst 1, 1) := by decide +kernel
theorem dX10_isDoneNow_17 : decode cX10_isDoneNow 17 = .ok (.goto 4, 3) := by decide +kernel
theorem dX10_isDoneNow_20 : decode cX10_isDoneNow 20 = .ok (.iconst 0, 1) := by decide +kernel
theorem dX10_isDoneNow_21 : decode cX10_isDoneNow 21 = .ok (.ireturn, 1) := by decide +kernel
theorem dX10_common_0 : decode cX10_common 0 = .ok (.iload_n 1, 1) := by decide +kernel
theorem dX10_common_1 : decode cX10_common 1 = .ok (.ifCond .ne 7, 3) := by decide +kernel
theorem dX10_common_4 : decode cX10_common 4 = .ok (.iload_n 0, 1) := by decide +kernel
theorem dX10_common_5 : decode cX10_common 5 = .ok (.goto 10, 3) := by decide +kernel
theorem dX10_common_8 : decode cX10_common 8 = .ok (.iload_n 1, 1) := by decide +kernel
theorem dX10_common_9 : decode cX10_common 9 = .ok (.iload_n 0, 1) := by decide +kernel
theorem dX10_common_10 : decode cX10_common 10 = .ok (.iload_n 1, 1) := by decide +kernel
theorem dX10_common_11 : decode cX10_common 11 = .ok (.irem, 1) := by decide +kernel
theorem dX10_common_12 : decode cX10_common 12 = .ok (.invokestatic 174, 3) := by decide +kernel
theorem dX10_common_15 : decode cX10_common 15 = .ok (.ireturn, 1) := by decide +kernel
theorem dX10_well_0 : decode cX10_well 0 = .ok (.aload_n 0, 1) := by decide +kernel
theorem dX10_well_1 : decode cX10_well 1 = .ok (.iload_n 1, 1) := by decide +kernel
theorem dX10_well_2 : decode cX10_well 2 = .ok (.invokevirtual 115, 3) := by decide +kernel
theorem dX10_well_5 : decode cX10_well 5 = .ok (.ifCond .ne 9, 3) := by decide +kernel
theorem dX10_well_8 : decode cX10_well 8 = .ok (.aload_n 0, 1) := by decide +kernel
theorem dX10_well_9 : decode cX10_well 9 = .ok (.iconst (-1), 1) := by decide +kernel
theorem dX10_well_10 : decode cX10_well 10 = .ok (.invokevirtual 62, 3) := by decide +kernel
theorem dX10_well_13 : decode cX10_well 13 = .ok (.ireturn, 1) := by decide +kernel
theorem dX10_well_14 : decode cX10_well 14 = .ok (.iload_n 2, 1) := by decide +kernel
theorem dX10_well_15 : decode cX10_well 15 = .ok (.iconst 2, 1) := by decide +kernel
theorem dX10_well_16 : decode cX10_well 16 = .ok (.invokestatic 46, 3) := by decide +kernel
theorem dX10_well_19 : decode cX10_well 19 = .ok (.ifCond .ne 10, 3) := by decide +kernel
theorem dX10_well_22 : decode cX10_well 22 = .ok (.aload_n 0, 1) := by decide +kernel
theorem dX10_well_23 : decode cX10_well 23 = .ok (.bipush (-2), 2) := by decide +kernel
theorem dX10_well_25 : decode cX10_well 25 = .ok (.invokevirtual 62, 3) := by decide +kernel
theorem dX10_well_28 : decode cX10_well 28 = .ok (.ireturn, 1) := by decide +kernel
theorem dX10_well_29 : decode cX10_well 29 = .ok (.aload_n 0, 1) := by decide +kernel
theorem dX10_well_30 : decode cX10_well 30 = .ok (.iload_n 1, 1) := by decide +kernel
theorem dX10_well_31 : decode cX10_well 31 = .ok (.invokevirtual 158, 3) := by decide +kernel
theorem dX10_well_34 : decode cX10_well 34 = .ok (.aload_n 0, 1) := by decide +kernel
theorem dX10_well_35 : decode cX10_well 35 = .ok (.iload_n 1, 1) := by decide +kernel
theorem dX10_well_36 : decode cX10_well 36 = .ok (.invokevirtual 171, 3) := by decide +kernel
theorem dX10_well_39 : decode cX10_well 39 = .ok (.aload_n 0, 1) := by decide +kernel
theorem dX10_well_40 : decode cX10_well 40 = .ok (.getfield 168, 3) := by decide +kernel
theorem dX10_well_43 : decode cX10_well 43 = .ok (.aload_n 0, 1) := by decide +kernel
theorem dX10_well_44 : decode cX10_well 44 = .ok (.getfield 165, 3) := by decide +kernel
theorem dX10_well_47 : decode cX10_well 47 = .ok (.invokestatic 174, 3) := by decide +kernel
theorem dX10_well_50 : decode cX10_well 50 = .ok (.istore_n 3, 1) := by decide +kernel
theorem dX10_well_51 : decode cX10_well 51 = .ok (.iload_n 2, 1) := by decide +kernel
theorem dX10_well_52 : decode cX10_well 52 = .ok (.ifCond .ne 12, 3) := by decide +kernel
theorem dX10_well_55 : decode cX10_well 55 = .ok (.aload_n 0, 1) := by decide +kernel
theorem dX10_well_56 : decode cX10_well 56 = .ok (.getfield 165, 3) := by decide +kernel
theorem dX10_well_59 : decode cX10_well 59 = .ok (.iload_n 3, 1) := by decide +kernel
theorem dX10_well_60 : decode cX10_well 60 = .ok (.idiv, 1) := by decide +kernel
theorem dX10_well_61 : decode cX10_well 61 = .ok (.goto 9, 3) := by decide +kernel
theorem dX10_well_64 : decode cX10_well 64 = .ok (.aload_n 0, 1) := by decide +kernel
theorem dX10_well_65 : decode cX10_well 65 = .ok (.getfield 168, 3) := by decide +kernel
theorem dX10_well_68 : decode cX10_well 68 = .ok (.iload_n 3, 1) := by decide +kernel
theorem dX10_well_69 : decode cX10_well 69 = .ok (.idiv, 1) := by decide +kernel
theorem dX10_well_70 : decode cX10_well 70 = .ok (.ireturn, 1) := by decide +kernel
theorem dX10_gathersBy_0 : decode cX10_gathersBy 0 = .ok (.aload_n 0, 1) := by decide +kernel
theorem dX10_gathersBy_1 : decode cX10_gathersBy 1 = .ok (.invokevirtual 151, 3) := by decide +kernel
theorem dX10_gathersBy_4 : decode cX10_gathersBy 4 = .ok (.iconst 0, 1) := by decide +kernel
theorem dX10_gathersBy_5 : decode cX10_gathersBy 5 = .ok (.istore 4, 2) := by decide +kernel
theorem dX10_gathersBy_7 : decode cX10_gathersBy 7 = .ok (.iload 4, 2) := by decide +kernel
theorem dX10_gathersBy_9 : decode cX10_gathersBy 9 = .ok (.aload_n 0, 1) := by decide +kernel
theorem dX10_gathersBy_10 : decode cX10_gathersBy 10 = .ok (.getfield 13, 3) := by decide +kernel
theorem dX10_gathersBy_13 : decode cX10_gathersBy 13 = .ok (.iconst 1, 1) := by decide +kernel
theorem dX10_gathersBy_14 : decode cX10_gathersBy 14 = .ok (.iaload, 1) := by decide +kernel
theorem dX10_gathersBy_15 : decode cX10_gathersBy 15 = .ok (.if_icmp .ge 49, 3) := by decide +kernel
theorem dX10_gathersBy_18 : decode cX10_gathersBy 18 = .ok (.aload_n 0, 1) := by decide +kernel
theorem dX10_gathersBy_19 : decode cX10_gathersBy 19 = .ok (.getfield 34, 3) := by decide +kernel
theorem dX10_gathersBy_22 : decode cX10_gathersBy 22 = .ok (.bipush 6, 2) := by decide +kernel
theorem dX10_gathersBy_24 : decode cX10_gathersBy 24 = .ok (.iload 4, 2) := by decide +kernel
theorem dX10_gathersBy_26 : decode cX10_gathersBy 26 = .ok (.imul, 1) := by decide +kernel
theorem dX10_gathersBy_27 : decode cX10_gathersBy 27 = .ok (.iload_n 1, 1) := by decide +kernel
theorem dX10_gathersBy_28 : decode cX10_gathersBy 28 = .ok (.iadd, 1) := by decide +kernel
theorem dX10_gathersBy_29 : decode cX10_gathersBy 29 = .ok (.iaload, 1) := by decide +kernel
theorem dX10_gathersBy_30 : decode cX10_gathersBy 30 = .ok (.ifCond .le 28, 3) := by decide +kernel
theorem dX10_gathersBy_33 : decode cX10_gathersBy 33 = .ok (.aload_n 0, 1) := by decide +kernel
theorem dX10_gathersBy_34 : decode cX10_gathersBy 34 = .ok (.aload_n 0, 1) := by decide +kernel
theorem dX10_gathersBy_35 : decode cX10_gathersBy 35 = .ok (.iload_n 1, 1) := by decide +kernel
theorem dX10_gathersBy_36 : decode cX10_gathersBy 36 = .ok (.iconst 0, 1) := by decide +kernel
theorem dX10_gathersBy_37 : decode cX10_gathersBy 37 = .ok (.invokevirtual 118, 3) := by decide +kernel
theorem dX10_gathersBy_40 : decode cX10_gathersBy 40 = .ok (.iload 4, 2) := by decide +kernel
theorem dX10_gathersBy_42 : decode cX10_gathersBy 42 = .ok (.aload_n 0, 1) := by decide +kernel
theorem dX10_gathersBy_43 : decode cX10_gathersBy 43 = .ok (.getfield 34, 3) := by decide +kernel
theorem dX10_gathersBy_46 : decode cX10_gathersBy 46 = .ok (.bipush 6, 2) := by decide +kernel
theorem dX10_gathersBy_48 : decode cX10_gathersBy 48 = .ok (.iload 4, 2) := by decide +kernel
theorem dX10_gathersBy_50 : decode cX10_gathersBy 50 = .ok (.imul, 1) := by decide +kernel
theorem dX10_gathersBy_51 : decode cX10_gathersBy 51 = .ok (.iload_n 1, 1) := by decide +kernel
theorem dX10_gathersBy_52 : decode cX10_gathersBy 52 = .ok (.iadd, 1) := by decide +kernel
theorem dX10_gathersBy_53 : decode cX10_gathersBy 53 = .ok (.iaload, 1) := by decide +kernel
theorem dX10_gathersBy_54 : decode cX10_gathersBy 54 = .ok (.iconst 0, 1) := by decide +kernel
theorem dX10_gathersBy_55 : decode cX10_gathersBy 55 = .ok (.invokevirtual 154, 3) := by decide +kernel
theorem dX10_gathersBy_58 : decode cX10_gathersBy 58 = .ok (.iinc 4 1, 3) := by decide +kernel
theorem dX10_gathersBy_61 : decode cX10_gathersBy 61 = .ok (.goto (-54), 3) := by decide +kernel
theorem dX10_gathersBy_64 : decode cX10_gathersBy 64 = .ok (.iload_n 3, 1) := by decide +kernel
theorem dX10_gathersBy_65 : decode cX10_gathersBy 65 = .ok (.ifCond .le 16, 3) := by decide +kernel
theorem dX10_gathersBy_68 : decode cX10_gathersBy 68 = .ok (.aload_n 0, 1) := by decide +kernel
theorem dX10_gathersBy_69 : decode cX10_gathersBy 69 = .ok (.aload_n 0, 1) := by decide +kernel
theorem dX10_gathersBy_70 : decode cX10_gathersBy 70 = .ok (.iload_n 1, 1) := by decide +kernel
theorem dX10_gathersBy_71 : decode cX10_gathersBy 71 = .ok (.iconst 0, 1) := by decide +kernel
theorem dX10_gathersBy_72 : decode cX10_gathersBy 72 = .ok (.invokevirtual 118, 3) := by decide +kernel
theorem dX10_gathersBy_75 : decode cX10_gathersBy 75 = .ok (.iload_n 2, 1) := by decide +kernel
theorem dX10_gathersBy_76 : decode cX10_gathersBy 76 = .ok (.iload_n 3, 1) := by decide +kernel
theorem dX10_gathersBy_77 : decode cX10_gathersBy 77 = .ok (.iconst 0, 1) := by decide +kernel
theorem dX10_gathersBy_78 : decode cX10_gathersBy 78 = .ok (.invokevirtual 154, 3) := by decide +kernel
theorem dX10_gathersBy_81 : decode cX10_gathersBy 81 = .ok (.return_, 1) := by decide +kernel
theorem dX10_isDoneBy_0 : decode cX10_isDoneBy 0 = .ok (.aload_n 0, 1) := by decide +kernel
theorem dX10_isDoneBy_1 : decode cX10_isDoneBy 1 = .ok (.iload_n 1, 1) := by decide +kernel
theorem dX10_isDoneBy_2 : decode cX10_isDoneBy 2 = .ok (.iload_n 2, 1) := by decide +kernel
theorem dX10_isDoneBy_3 : decode cX10_isDoneBy 3 = .ok (.iload_n 3, 1) := by decide +kernel
theorem dX10_isDoneBy_4 : decode cX10_isDoneBy 4 = .ok (.invokevirtual 177, 3) := by decide +kernel
theorem dX10_isDoneBy_7 : decode cX10_isDoneBy 7 = .ok (.aload_n 0, 1) := by decide +kernel
theorem dX10_isDoneBy_8 : decode cX10_isDoneBy 8 = .ok (.iload_n 1, 1) := by decide +kernel
theorem dX10_isDoneBy_9 : decode cX10_isDoneBy 9 = .ok (.invokevirtual 180, 3) := by decide +kernel
theorem dX10_isDoneBy_12 : decode cX10_isDoneBy 12 = .ok (.ireturn, 1) := by decide +kernel
theorem dX10_helps_0 : decode cX10_helps 0 = .ok (.aload_n 0, 1) := by decide +kernel
theorem dX10_helps_1 : decode cX10_helps 1 = .ok (.iload_n 1, 1) := by decide +kernel
theorem dX10_helps_2 : decode cX10_helps 2 = .ok (.iconst 0, 1) := by decide +kernel
theorem dX10_helps_3 : decode cX10_helps 3 = .ok (.invokevirtual 118, 3) := by decide +kernel
theorem dX10_helps_6 : decode cX10_helps 6 = .ok (.istore 4, 2) := by decide +kernel
theorem dX10_helps_8 : decode cX10_helps 8 = .ok (.aload_n 0, 1) := by decide +kernel
theorem dX10_helps_9 : decode cX10_helps 9 = .ok (.iload_n 1, 1) := by decide +kernel
theorem dX10_helps_10 : decode cX10_helps 10 = .ok (.iload_n 2, 1) := by decide +kernel
theorem dX10_helps_11 : decode cX10_helps 11 = .ok (.iconst 0, 1) := by decide +kernel
theorem dX10_helps_12 : decode cX10_helps 12 = .ok (.invokevirtual 177, 3) := by decide +kernel
theorem dX10_helps_15 : decode cX10_helps 15 = .ok (.iconst 0, 1) := by decide +kernel
theorem dX10_helps_16 : decode cX10_helps 16 = .ok (.istore 5, 2) := by decide +kernel
theorem dX10_helps_18 : decode cX10_helps 18 = .ok (.iload 5, 2) := by decide +kernel
theorem dX10_helps_20 : decode cX10_helps 20 = .ok (.iconst 3, 1) := by decide +kernel
theorem dX10_helps_21 : decode cX10_helps 21 = .ok (.if_icmp .ge 24, 3) := by decide +kernel
theorem dX10_helps_24 : decode cX10_helps 24 = .ok (.aload_n 0, 1) := by decide +kernel
theorem dX10_helps_25 : decode cX10_helps 25 = .ok (.getfield 37, 3) := by decide +kernel
theorem dX10_helps_28 : decode cX10_helps 28 = .ok (.iload 5, 2) := by decide +kernel
theorem dX10_helps_30 : decode cX10_helps 30 = .ok (.aload_n 0, 1) := by decide +kernel
theorem dX10_helps_31 : decode cX10_helps 31 = .ok (.iload 4, 2) := by decide +kernel
theorem dX10_helps_33 : decode cX10_helps 33 = .ok (.iload 5, 2) := by decide +kernel
theorem dX10_helps_35 : decode cX10_helps 35 = .ok (.invokevirtual 162, 3) := by decide +kernel
theorem dX10_helps_38 : decode cX10_helps 38 = .ok (.iastore, 1) := by decide +kernel
theorem dX10_helps_39 : decode cX10_helps 39 = .ok (.iinc 5 1, 3) := by decide +kernel
theorem dX10_helps_42 : decode cX10_helps 42 = .ok (.goto (-24), 3) := by decide +kernel
theorem dX10_helps_45 : decode cX10_helps 45 = .ok (.aload_n 0, 1) := by decide +kernel
theorem dX10_helps_46 : decode cX10_helps 46 = .ok (.iload_n 1, 1) := by decide +kernel
theorem dX10_helps_47 : decode cX10_helps 47 = .ok (.iload_n 2, 1) := by decide +kernel
theorem dX10_helps_48 : decode cX10_helps 48 = .ok (.iload_n 3, 1) := by decide +kernel
theorem dX10_helps_49 : decode cX10_helps 49 = .ok (.invokevirtual 177, 3) := by decide +kernel
theorem dX10_helps_52 : decode cX10_helps 52 = .ok (.iconst 0, 1) := by decide +kernel
theorem dX10_helps_53 : decode cX10_helps 53 = .ok (.istore 5, 2) := by decide +kernel
theorem dX10_helps_55 : decode cX10_helps 55 = .ok (.iload 5, 2) := by decide +kernel
theorem dX10_helps_57 : decode cX10_helps 57 = .ok (.iconst 3, 1) := by decide +kernel
theorem dX10_helps_58 : decode cX10_helps 58 = .ok (.if_icmp .ge 41, 3) := by decide +kernel
theorem dX10_helps_61 : decode cX10_helps 61 = .ok (.aload_n 0, 1) := by decide +kernel
theorem dX10_helps_62 : decode cX10_helps 62 = .ok (.iload_n 1, 1) := by decide +kernel
theorem dX10_helps_63 : decode cX10_helps 63 = .ok (.iconst 2, 1) := by decide +kernel
theorem dX10_helps_64 : decode cX10_helps 64 = .ok (.iload 5, 2) := by decide +kernel
theorem dX10_helps_66 : decode cX10_helps 66 = .ok (.iadd, 1) := by decide +kernel
theorem dX10_helps_67 : decode cX10_helps 67 = .ok (.invokevirtual 118, 3) := by decide +kernel
theorem dX10_helps_70 : decode cX10_helps 70 = .ok (.ifCond .le 23, 3) := by decide +kernel
theorem dX10_helps_73 : decode cX10_helps 73 = .ok (.aload_n 0, 1) := by decide +kernel
theorem dX10_helps_74 : decode cX10_helps 74 = .ok (.iload 4, 2) := by decide +kernel
theorem dX10_helps_76 : decode cX10_helps 76 = .ok (.iload 5, 2) := by decide +kernel
theorem dX10_helps_78 : decode cX10_helps 78 = .ok (.invokevirtual 162, 3) := by decide +kernel
theorem dX10_helps_81 : decode cX10_helps 81 = .ok (.aload_n 0, 1) := by decide +kernel
theorem dX10_helps_82 : decode cX10_helps 82 = .ok (.getfield 37, 3) := by decide +kernel
theorem dX10_helps_85 : decode cX10_helps 85 = .ok (.iload 5, 2) := by decide +kernel
theorem dX10_helps_87 : decode cX10_helps 87 = .ok (.iaload, 1) := by decide +kernel
theorem dX10_helps_88 : decode cX10_helps 88 = .ok (.if_icmp .le 5, 3) := by decide +kernel
theorem dX10_helps_91 : decode cX10_helps 91 = .ok (.iconst 1, 1) := by decide +kernel
theorem dX10_helps_92 : decode cX10_helps 92 = .ok (.ireturn, 1) := by decide +kernel
theorem dX10_helps_93 : decode cX10_helps 93 = .ok (.iinc 5 1, 3) := by decide +kernel
theorem dX10_helps_96 : decode cX10_helps 96 = .ok (.goto (-41), 3) := by decide +kernel
theorem dX10_helps_99 : decode cX10_helps 99 = .ok (.iconst 0, 1) := by decide +kernel
theorem dX10_helps_100 : decode cX10_helps 100 = .ok (.ireturn, 1) := by decide +kernel
theorem dX10_plansWholes_0 : decode cX10_plansWholes 0 = .ok (.iconst 0, 1) := by decide +kernel
theorem dX10_plansWholes_1 : decode cX10_plansWholes 1 = .ok (.istore_n 1, 1) := by decide +kernel
theorem dX10_plansWholes_2 : decode cX10_plansWholes 2 = .ok (.iload_n 1, 1) := by decide +kernel
theorem dX10_plansWholes_3 : decode cX10_plansWholes 3 = .ok (.aload_n 0, 1) := by decide +kernel
theorem dX10_plansWholes_4 : decode cX10_plansWholes 4 = .ok (.getfield 13, 3) := by decide +kernel
theorem dX10_plansWholes_7 : decode cX10_plansWholes 7 = .ok (.iconst 1, 1) := by decide +kernel
theorem dX10_plansWholes_8 : decode cX10_plansWholes 8 = .ok (.iaload, 1) := by decide +kernel
theorem dX10_plansWholes_9 : decode cX10_plansWholes 9 = .ok (.if_icmp .ge 67, 3) := by decide +kernel
theorem dX10_plansWholes_12 : decode cX10_plansWholes 12 = .ok (.iconst 0, 1) := by decide +kernel
theorem dX10_plansWholes_13 : decode cX10_plansWholes 13 = .ok (.istore_n 2, 1) := by decide +kernel
theorem dX10_plansWholes_14 : decode cX10_plansWholes 14 = .ok (.iload_n 2, 1) := by decide +kernel
theorem dX10_plansWholes_15 : decode cX10_plansWholes 15 = .ok (.aload_n 0, 1) := by decide +kernel
theorem dX10_plansWholes_16 : decode cX10_plansWholes 16 = .ok (.getfield 13, 3) := by decide +kernel
theorem dX10_plansWholes_19 : decode cX10_plansWholes 19 = .ok (.iconst 2, 1) := by decide +kernel
theorem dX10_plansWholes_20 : decode cX10_plansWholes 20 = .ok (.iaload, 1) := by decide +kernel
theorem dX10_plansWholes_21 : decode cX10_plansWholes 21 = .ok (.if_icmp .ge 49, 3) := by decide +kernel
theorem dX10_plansWholes_24 : decode cX10_plansWholes 24 = .ok (.aload_n 0, 1) := by decide +kernel
theorem dX10_plansWholes_25 : decode cX10_plansWholes 25 = .ok (.iload_n 2, 1) := by decide +kernel
theorem dX10_plansWholes_26 : decode cX10_plansWholes 26 = .ok (.iload_n 1, 1) := by decide +kernel
theorem dX10_plansWholes_27 : decode cX10_plansWholes 27 = .ok (.iconst 0, 1) := by decide +kernel
theorem dX10_plansWholes_28 : decode cX10_plansWholes 28 = .ok (.invokevirtual 183, 3) := by decide +kernel
theorem dX10_plansWholes_31 : decode cX10_plansWholes 31 = .ok (.ifCond .ne 33, 3) := by decide +kernel
theorem dX10_plansWholes_34 : decode cX10_plansWholes 34 = .ok (.aload_n 0, 1) := by decide +kernel
theorem dX10_plansWholes_35 : decode cX10_plansWholes 35 = .ok (.iload_n 2, 1) := by decide +kernel
theorem dX10_plansWholes_36 : decode cX10_plansWholes 36 = .ok (.iload_n 1, 1) := by decide +kernel
theorem dX10_plansWholes_37 : decode cX10_plansWholes 37 = .ok (.bipush 12, 2) := by decide +kernel
theorem dX10_plansWholes_39 : decode cX10_plansWholes 39 = .ok (.invokevirtual 187, 3) := by decide +kernel
theorem dX10_plansWholes_42 : decode cX10_plansWholes 42 = .ok (.ifCond .ne 6, 3) := by decide +kernel
theorem dX10_plansWholes_45 : decode cX10_plansWholes 45 = .ok (.goto 19, 3) := by decide +kernel
theorem dX10_plansWholes_48 : decode cX10_plansWholes 48 = .ok (.aload_n 0, 1) := by decide +kernel
theorem dX10_plansWholes_49 : decode cX10_plansWholes 49 = .ok (.getfield 34, 3) := by decide +kernel
theorem dX10_plansWholes_52 : decode cX10_plansWholes 52 = .ok (.bipush 6, 2) := by decide +kernel
theorem dX10_plansWholes_54 : decode cX10_plansWholes 54 = .ok (.iload_n 1, 1) := by decide +kernel
theorem dX10_plansWholes_55 : decode cX10_plansWholes 55 = .ok (.imul, 1) := by decide +kernel
theorem dX10_plansWholes_56 : decode cX10_plansWholes 56 = .ok (.iload_n 2, 1) := by decide +kernel
theorem dX10_plansWholes_57 : decode cX10_plansWholes 57 = .ok (.iadd, 1) := by decide +kernel
theorem dX10_plansWholes_58 : decode cX10_plansWholes 58 = .ok (.bipush 12, 2) := by decide +kernel
theorem dX10_plansWholes_60 : decode cX10_plansWholes 60 = .ok (.iastore, 1) := by decide +kernel
theorem dX10_plansWholes_61 : decode cX10_plansWholes 61 = .ok (.goto 9, 3) := by decide +kernel
theorem dX10_plansWholes_64 : decode cX10_plansWholes 64 = .ok (.iinc 2 1, 3) := by decide +kernel
theorem dX10_plansWholes_67 : decode cX10_plansWholes 67 = .ok (.goto (-53), 3) := by decide +kernel
theorem dX10_plansWholes_70 : decode cX10_plansWholes 70 = .ok (.iinc 1 1, 3) := by decide +kernel
theorem dX10_plansWholes_73 : decode cX10_plansWholes 73 = .ok (.goto (-71), 3) := by decide +kernel
theorem dX10_plansWholes_76 : decode cX10_plansWholes 76 = .ok (.return_, 1) := by decide +kernel
theorem dX10_plansEven_0 : decode cX10_plansEven 0 = .ok (.aload_n 0, 1) := by decide +kernel
theorem dX10_plansEven_1 : decode cX10_plansEven 1 = .ok (.getfield 13, 3) := by decide +kernel
theorem dX10_plansEven_4 : decode cX10_plansEven 4 = .ok (.iconst 2, 1) := by decide +kernel
theorem dX10_plansEven_5 : decode cX10_plansEven 5 = .ok (.iaload, 1) := by decide +kernel
theorem dX10_plansEven_6 : decode cX10_plansEven 6 = .ok (.ifCond .ne 4, 3) := by decide +kernel
theorem dX10_plansEven_9 : decode cX10_plansEven 9 = .ok (.return_, 1) := by decide +kernel
theorem dX10_plansEven_10 : decode cX10_plansEven 10 = .ok (.bipush 12, 2) := by decide +kernel
theorem dX10_plansEven_12 : decode cX10_plansEven 12 = .ok (.aload_n 0, 1) := by decide +kernel
theorem dX10_plansEven_13 : decode cX10_plansEven 13 = .ok (.getfield 13, 3) := by decide +kernel
theorem dX10_plansEven_16 : decode cX10_plansEven 16 = .ok (.iconst 2, 1) := by decide +kernel
theorem dX10_plansEven_17 : decode cX10_plansEven 17 = .ok (.iaload, 1) := by decide +kernel
theorem dX10_plansEven_18 : decode cX10_plansEven 18 = .ok (.idiv, 1) := by decide +kernel
theorem dX10_plansEven_19 : decode cX10_plansEven 19 = .ok (.istore_n 1, 1) := by decide +kernel
theorem dX10_plansEven_20 : decode cX10_plansEven 20 = .ok (.iconst 0, 1) := by decide +kernel
theorem dX10_plansEven_21 : decode cX10_plansEven 21 = .ok (.istore_n 2, 1) := by decide +kernel
theorem dX10_plansEven_22 : decode cX10_plansEven 22 = .ok (.iload_n 2, 1) := by decide +kernel
theorem dX10_plansEven_23 : decode cX10_plansEven 23 = .ok (.aload_n 0, 1) := by decide +kernel
theorem dX10_plansEven_24 : decode cX10_plansEven 24 = .ok (.getfield 13, 3) := by decide +kernel
theorem dX10_plansEven_27 : decode cX10_plansEven 27 = .ok (.iconst 1, 1) := by decide +kernel
theorem dX10_plansEven_28 : decode cX10_plansEven 28 = .ok (.iaload, 1) := by decide +kernel
theorem dX10_plansEven_29 : decode cX10_plansEven 29 = .ok (.if_icmp .ge 49, 3) := by decide +kernel
theorem dX10_plansEven_32 : decode cX10_plansEven 32 = .ok (.iconst 0, 1) := by decide +kernel
theorem dX10_plansEven_33 : decode cX10_plansEven 33 = .ok (.istore_n 3, 1) := by decide +kernel
theorem dX10_plansEven_34 : decode cX10_plansEven 34 = .ok (.iload_n 3, 1) := by decide +kernel
theorem dX10_plansEven_35 : decode cX10_plansEven 35 = .ok (.aload_n 0, 1) := by decide +kernel
theorem dX10_plansEven_36 : decode cX10_plansEven 36 = .ok (.getfield 13, 3) := by decide +kernel
theorem dX10_plansEven_39 : decode cX10_plansEven 39 = .ok (.iconst 2, 1) := by decide +kernel
theorem dX10_plansEven_40 : decode cX10_plansEven 40 = .ok (.iaload, 1) := by decide +kernel
theorem dX10_plansEven_41 : decode cX10_plansEven 41 = .ok (.if_icmp .ge 31, 3) := by decide +kernel
theorem dX10_plansEven_44 : decode cX10_plansEven 44 = .ok (.iload_n 1, 1) := by decide +kernel
theorem dX10_plansEven_45 : decode cX10_plansEven 45 = .ok (.aload_n 0, 1) := by decide +kernel
theorem dX10_plansEven_46 : decode cX10_plansEven 46 = .ok (.iload_n 2, 1) := by decide +kernel
theorem dX10_plansEven_47 : decode cX10_plansEven 47 = .ok (.iconst 3, 1) := by decide +kernel
theorem dX10_plansEven_48 : decode cX10_plansEven 48 = .ok (.invokevirtual 106, 3) := by decide +kernel
theorem dX10_plansEven_51 : decode cX10_plansEven 51 = .ok (.if_icmp .lt 21, 3) := by decide +kernel
theorem dX10_plansEven_54 : decode cX10_plansEven 54 = .ok (.aload_n 0, 1) := by decide +kernel
theorem dX10_plansEven_55 : decode cX10_plansEven 55 = .ok (.getfield 34, 3) := by decide +kernel
theorem dX10_plansEven_58 : decode cX10_plansEven 58 = .ok (.bipush 6, 2) := by decide +kernel
theorem dX10_plansEven_60 : decode cX10_plansEven 60 = .ok (.iload_n 2, 1) := by decide +kernel
theorem dX10_plansEven_61 : decode cX10_plansEven 61 = .ok (.imul, 1) := by decide +kernel
theorem dX10_plansEven_62 : decode cX10_plansEven 62 = .ok (.iload_n 3, 1) := by decide +kernel
theorem dX10_plansEven_63 : decode cX10_plansEven 63 = .ok (.iadd, 1) := by decide +kernel
theorem dX10_plansEven_64 : decode cX10_plansEven 64 = .ok (.iload_n 1, 1) := by decide +kernel
theorem dX10_plansEven_65 : decode cX10_plansEven 65 = .ok (.iastore, 1) := by decide +kernel
theorem dX10_plansEven_66 : decode cX10_plansEven 66 = .ok (.iinc 3 1, 3) := by decide +kernel
theorem dX10_plansEven_69 : decode cX10_plansEven 69 = .ok (.goto (-35), 3) := by decide +kernel
theorem dX10_plansEven_72 : decode cX10_plansEven 72 = .ok (.iinc 2 1, 3) := by decide +kernel
theorem dX10_plansEven_75 : decode cX10_plansEven 75 = .ok (.goto (-53), 3) := by decide +kernel
theorem dX10_plansEven_78 : decode cX10_plansEven 78 = .ok (.return_, 1) := by decide +kernel
theorem dX10_givenOf_0 : decode cX10_givenOf 0 = .ok (.iconst 0, 1) := by decide +kernel
theorem dX10_givenOf_1 : decode cX10_givenOf 1 = .ok (.istore_n 2, 1) := by decide +kernel
theorem dX10_givenOf_2 : decode cX10_givenOf 2 = .ok (.iconst 0, 1) := by decide +kernel
theorem dX10_givenOf_3 : decode cX10_givenOf 3 = .ok (.istore_n 3, 1) := by decide +kernel
theorem dX10_givenOf_4 : decode cX10_givenOf 4 = .ok (.iload_n 3, 1) := by decide +kernel
theorem dX10_givenOf_5 : decode cX10_givenOf 5 = .ok (.bipush 6, 2) := by decide +kernel
theorem dX10_givenOf_7 : decode cX10_givenOf 7 = .ok (.if_icmp .ge 23, 3) := by decide +kernel
theorem dX10_givenOf_10 : decode cX10_givenOf 10 = .ok (.iload_n 2, 1) := by decide +kernel
theorem dX10_givenOf_11 : decode cX10_givenOf 11 = .ok (.aload_n 0, 1) := by decide +kernel
theorem dX10_givenOf_12 : decode cX10_givenOf 12 = .ok (.getfield 34, 3) := by decide +kernel
theorem dX10_givenOf_15 : decode cX10_givenOf 15 = .ok (.bipush 6, 2) := by decide +kernel
theorem dX10_givenOf_17 : decode cX10_givenOf 17 = .ok (.iload_n 1, 1) := by decide +kernel
theorem dX10_givenOf_18 : decode cX10_givenOf 18 = .ok (.imul, 1) := by decide +kernel
theorem dX10_givenOf_19 : decode cX10_givenOf 19 = .ok (.iload_n 3, 1) := by decide +kernel
theorem dX10_givenOf_20 : decode cX10_givenOf 20 = .ok (.iadd, 1) := by decide +kernel
theorem dX10_givenOf_21 : decode cX10_givenOf 21 = .ok (.iaload, 1) := by decide +kernel
theorem dX10_givenOf_22 : decode cX10_givenOf 22 = .ok (.iadd, 1) := by decide +kernel
theorem dX10_givenOf_23 : decode cX10_givenOf 23 = .ok (.istore_n 2, 1) := by decide +kernel
theorem dX10_givenOf_24 : decode cX10_givenOf 24 = .ok (.iinc 3 1, 3) := by decide +kernel
theorem dX10_givenOf_27 : decode cX10_givenOf 27 = .ok (.goto (-23), 3) := by decide +kernel
theorem dX10_givenOf_30 : decode cX10_givenOf 30 = .ok (.iload_n 2, 1) := by decide +kernel
theorem dX10_givenOf_31 : decode cX10_givenOf 31 = .ok (.ireturn, 1) := by decide +kernel
theorem dX10_plansNeed_0 : decode cX10_plansNeed 0 = .ok (.iconst 0, 1) := by decide +kernel
theorem dX10_plansNeed_1 : decode cX10_plansNeed 1 = .ok (.istore_n 2, 1) := by decide +kernel
theorem dX10_plansNeed_2 : decode cX10_plansNeed 2 = .ok (.iload_n 2, 1) := by decide +kernel
theorem dX10_plansNeed_3 : decode cX10_plansNeed 3 = .ok (.aload_n 0, 1) := by decide +kernel
theorem dX10_plansNeed_4 : decode cX10_plansNeed 4 = .ok (.getfield 13, 3) := by decide +kernel
theorem dX10_plansNeed_7 : decode cX10_plansNeed 7 = .ok (.iconst 2, 1) := by decide +kernel
theorem dX10_plansNeed_8 : decode cX10_plansNeed 8 = .ok (.iaload, 1) := by decide +kernel
theorem dX10_plansNeed_9 : decode cX10_plansNeed 9 = .ok (.if_icmp .ge 146, 3) := by decide +kernel
theorem dX10_plansNeed_12 : decode cX10_plansNeed 12 = .ok (.iconst 0, 1) := by decide +kernel
theorem dX10_plansNeed_13 : decode cX10_plansNeed 13 = .ok (.istore_n 3, 1) := by decide +kernel
theorem dX10_plansNeed_14 : decode cX10_plansNeed 14 = .ok (.iload_n 3, 1) := by decide +kernel
theorem dX10_plansNeed_15 : decode cX10_plansNeed 15 = .ok (.aload_n 0, 1) := by decide +kernel
theorem dX10_plansNeed_16 : decode cX10_plansNeed 16 = .ok (.getfield 13, 3) := by decide +kernel
theorem dX10_plansNeed_19 : decode cX10_plansNeed 19 = .ok (.iconst 1, 1) := by decide +kernel
theorem dX10_plansNeed_20 : decode cX10_plansNeed 20 = .ok (.iaload, 1) := by decide +kernel
theorem dX10_plansNeed_21 : decode cX10_plansNeed 21 = .ok (.if_icmp .ge 128, 3) := by decide +kernel
theorem dX10_plansNeed_24 : decode cX10_plansNeed 24 = .ok (.aload_n 0, 1) := by decide +kernel
theorem dX10_plansNeed_25 : decode cX10_plansNeed 25 = .ok (.iload_n 2, 1) := by decide +kernel
theorem dX10_plansNeed_26 : decode cX10_plansNeed 26 = .ok (.iload_n 3, 1) := by decide +kernel
theorem dX10_plansNeed_27 : decode cX10_plansNeed 27 = .ok (.iconst 0, 1) := by decide +kernel
theorem dX10_plansNeed_28 : decode cX10_plansNeed 28 = .ok (.invokevirtual 183, 3) := by decide +kernel
theorem dX10_plansNeed_31 : decode cX10_plansNeed 31 = .ok (.ifCond .ne 118, 3) := by decide +kernel
theorem dX10_plansNeed_34 : decode cX10_plansNeed 34 = .ok (.aload_n 0, 1) := by decide +kernel
theorem dX10_plansNeed_35 : decode cX10_plansNeed 35 = .ok (.iload_n 3, 1) := by decide +kernel
theorem dX10_plansNeed_36 : decode cX10_plansNeed 36 = .ok (.iconst 3, 1) := by decide +kernel
theorem dX10_plansNeed_37 : decode cX10_plansNeed 37 = .ok (.invokevirtual 106, 3) := by decide +kernel
theorem dX10_plansNeed_40 : decode cX10_plansNeed 40 = .ok (.istore 4, 2) := by decide +kernel
theorem dX10_plansNeed_42 : decode cX10_plansNeed 42 = .ok (.bipush 12, 2) := by decide +kernel
theorem dX10_plansNeed_44 : decode cX10_plansNeed 44 = .ok (.aload_n 0, 1) := by decide +kernel
theorem dX10_plansNeed_45 : decode cX10_plansNeed 45 = .ok (.iload_n 3, 1) := by decide +kernel
theorem dX10_plansNeed_46 : decode cX10_plansNeed 46 = .ok (.invokevirtual 190, 3) := by decide +kernel
theorem dX10_plansNeed_49 : decode cX10_plansNeed 49 = .ok (.isub, 1) := by decide +kernel
theorem dX10_plansNeed_50 : decode cX10_plansNeed 50 = .ok (.iload_n 1, 1) := by decide +kernel
theorem dX10_plansNeed_51 : decode cX10_plansNeed 51 = .ok (.ifCond .eq 8, 3) := by decide +kernel
theorem dX10_plansNeed_54 : decode cX10_plansNeed 54 = .ok (.iload 4, 2) := by decide +kernel
theorem dX10_plansNeed_56 : decode cX10_plansNeed 56 = .ok (.goto 4, 3) := by decide +kernel
theorem dX10_plansNeed_59 : decode cX10_plansNeed 59 = .ok (.iconst 0, 1) := by decide +kernel
theorem dX10_plansNeed_60 : decode cX10_plansNeed 60 = .ok (.isub, 1) := by decide +kernel
theorem dX10_plansNeed_61 : decode cX10_plansNeed 61 = .ok (.istore 5, 2) := by decide +kernel
theorem dX10_plansNeed_63 : decode cX10_plansNeed 63 = .ok (.iconst 0, 1) := by decide +kernel
theorem dX10_plansNeed_64 : decode cX10_plansNeed 64 = .ok (.istore 6, 2) := by decide +kernel
theorem dX10_plansNeed_66 : decode cX10_plansNeed 66 = .ok (.iload 5, 2) := by decide +kernel
theorem dX10_plansNeed_68 : decode cX10_plansNeed 68 = .ok (.istore 7, 2) := by decide +kernel
theorem dX10_plansNeed_70 : decode cX10_plansNeed 70 = .ok (.iload 7, 2) := by decide +kernel
theorem dX10_plansNeed_72 : decode cX10_plansNeed 72 = .ok (.iload 4, 2) := by decide +kernel
theorem dX10_plansNeed_74 : decode cX10_plansNeed 74 = .ok (.if_icmp .lt 29, 3) := by decide +kernel
theorem dX10_plansNeed_77 : decode cX10_plansNeed 77 = .ok (.aload_n 0, 1) := by decide +kernel
theorem dX10_plansNeed_78 : decode cX10_plansNeed 78 = .ok (.iload_n 2, 1) := by decide +kernel
theorem dX10_plansNeed_79 : decode cX10_plansNeed 79 = .ok (.iload_n 3, 1) := by decide +kernel
theorem dX10_plansNeed_80 : decode cX10_plansNeed 80 = .ok (.iload 7, 2) := by decide +kernel
theorem dX10_plansNeed_82 : decode cX10_plansNeed 82 = .ok (.invokevirtual 183, 3) := by decide +kernel
theorem dX10_plansNeed_85 : decode cX10_plansNeed 85 = .ok (.ifCond .eq 8, 3) := by decide +kernel
theorem dX10_plansNeed_88 : decode cX10_plansNeed 88 = .ok (.iload 7, 2) := by decide +kernel
theorem dX10_plansNeed_90 : decode cX10_plansNeed 90 = .ok (.goto 5, 3) := by decide +kernel
theorem dX10_plansNeed_93 : decode cX10_plansNeed 93 = .ok (.iload 6, 2) := by decide +kernel
theorem dX10_plansNeed_95 : decode cX10_plansNeed 95 = .ok (.istore 6, 2) := by decide +kernel
theorem dX10_plansNeed_97 : decode cX10_plansNeed 97 = .ok (.iinc 7 (-1), 3) := by decide +kernel
theorem dX10_plansNeed_100 : decode cX10_plansNeed 100 = .ok (.goto (-30), 3) := by decide +kernel
theorem dX10_plansNeed_103 : decode cX10_plansNeed 103 = .ok (.iload 6, 2) := by decide +kernel
theorem dX10_plansNeed_105 : decode cX10_plansNeed 105 = .ok (.ifCond .ne 25, 3) := by decide +kernel
theorem dX10_plansNeed_108 : decode cX10_plansNeed 108 = .ok (.iload 5, 2) := by decide +kernel
theorem dX10_plansNeed_110 : decode cX10_plansNeed 110 = .ok (.iload 4, 2) := by decide +kernel
theorem dX10_plansNeed_112 : decode cX10_plansNeed 112 = .ok (.if_icmp .lt 18, 3) := by decide +kernel
theorem dX10_plansNeed_115 : decode cX10_plansNeed 115 = .ok (.aload_n 0, 1) := by decide +kernel
theorem dX10_plansNeed_116 : decode cX10_plansNeed 116 = .ok (.iload_n 2, 1) := by decide +kernel
theorem dX10_plansNeed_117 : decode cX10_plansNeed 117 = .ok (.iload_n 3, 1) := by decide +kernel
theorem dX10_plansNeed_118 : decode cX10_plansNeed 118 = .ok (.iload 5, 2) := by decide +kernel
theorem dX10_plansNeed_120 : decode cX10_plansNeed 120 = .ok (.invokevirtual 187, 3) := by decide +kernel
theorem dX10_plansNeed_123 : decode cX10_plansNeed 123 = .ok (.ifCond .eq 7, 3) := by decide +kernel
theorem dX10_plansNeed_126 : decode cX10_plansNeed 126 = .ok (.iload 5, 2) := by decide +kernel
theorem dX10_plansNeed_128 : decode cX10_plansNeed 128 = .ok (.istore 6, 2) := by decide +kernel
theorem dX10_plansNeed_130 : decode cX10_plansNeed 130 = .ok (.aload_n 0, 1) := by decide +kernel
theorem dX10_plansNeed_131 : decode cX10_plansNeed 131 = .ok (.getfield 34, 3) := by decide +kernel
theorem dX10_plansNeed_134 : decode cX10_plansNeed 134 = .ok (.bipush 6, 2) := by decide +kernel
theorem dX10_plansNeed_136 : decode cX10_plansNeed 136 = .ok (.iload_n 3, 1) := by decide +kernel
theorem dX10_plansNeed_137 : decode cX10_plansNeed 137 = .ok (.imul, 1) := by decide +kernel
theorem dX10_plansNeed_138 : decode cX10_plansNeed 138 = .ok (.iload_n 2, 1) := by decide +kernel
theorem dX10_plansNeed_139 : decode cX10_plansNeed 139 = .ok (.iadd, 1) := by decide +kernel
theorem dX10_plansNeed_140 : decode cX10_plansNeed 140 = .ok (.iload 6, 2) := by decide +kernel
theorem dX10_plansNeed_142 : decode cX10_plansNeed 142 = .ok (.iastore, 1) := by decide +kernel
theorem dX10_plansNeed_143 : decode cX10_plansNeed 143 = .ok (.iinc 3 1, 3) := by decide +kernel
theorem dX10_plansNeed_146 : decode cX10_plansNeed 146 = .ok (.goto (-132), 3) := by decide +kernel
theorem dX10_plansNeed_149 : decode cX10_plansNeed 149 = .ok (.iinc 2 1, 3) := by decide +kernel
theorem dX10_plansNeed_152 : decode cX10_plansNeed 152 = .ok (.goto (-150), 3) := by decide +kernel
theorem dX10_plansNeed_155 : decode cX10_plansNeed 155 = .ok (.return_, 1) := by decide +kernel
theorem dX10_plans_0 : decode cX10_plans 0 = .ok (.iconst 0, 1) := by decide +kernel
theorem dX10_plans_1 : decode cX10_plans 1 = .ok (.istore_n 2, 1) := by decide +kernel
theorem dX10_plans_2 : decode cX10_plans 2 = .ok (.iload_n 2, 1) := by decide +kernel
theorem dX10_plans_3 : decode cX10_plans 3 = .ok (.bipush 36, 2) := by decide +kernel
theorem dX10_plans_5 : decode cX10_plans 5 = .ok (.if_icmp .ge 16, 3) := by decide +kernel
theorem dX10_plans_8 : decode cX10_plans 8 = .ok (.aload_n 0, 1) := by decide +kernel
theorem dX10_plans_9 : decode cX10_plans 9 = .ok (.getfield 34, 3) := by decide +kernel
theorem dX10_plans_12 : decode cX10_plans 12 = .ok (.iload_n 2, 1) := by decide +kernel
theorem dX10_plans_13 : decode cX10_plans 13 = .ok (.iconst 0, 1) := by decide +kernel
theorem dX10_plans_14 : decode cX10_plans 14 = .ok (.iastore, 1) := by decide +kernel
theorem dX10_plans_15 : decode cX10_plans 15 = .ok (.iinc 2 1, 3) := by decide +kernel
theorem dX10_plans_18 : decode cX10_plans 18 = .ok (.goto (-16), 3) := by decide +kernel
theorem dX10_plans_21 : decode cX10_plans 21 = .ok (.iload_n 1, 1) := by decide +kernel
theorem dX10_plans_22 : decode cX10_plans 22 = .ok (.lookupswitch 40 #[(0, 26), (1, 33)], 26) := by decide +kernel
theorem dX10_plans_48 : decode cX10_plans 48 = .ok (.aload_n 0, 1) := by decide +kernel
theorem dX10_plans_49 : decode cX10_plans 49 = .ok (.invokevirtual 193, 3) := by decide +kernel
theorem dX10_plans_52 : decode cX10_plans 52 = .ok (.goto 24, 3) := by decide +kernel
theorem dX10_plans_55 : decode cX10_plans 55 = .ok (.aload_n 0, 1) := by decide +kernel
theorem dX10_plans_56 : decode cX10_plans 56 = .ok (.invokevirtual 196, 3) := by decide +kernel
theorem dX10_plans_59 : decode cX10_plans 59 = .ok (.goto 17, 3) := by decide +kernel
theorem dX10_plans_62 : decode cX10_plans 62 = .ok (.aload_n 0, 1) := by decide +kernel
theorem dX10_plans_63 : decode cX10_plans 63 = .ok (.iload_n 1, 1) := by decide +kernel
theorem dX10_plans_64 : decode cX10_plans 64 = .ok (.iconst 3, 1) := by decide +kernel
theorem dX10_plans_65 : decode cX10_plans 65 = .ok (.if_icmp .ne 7, 3) := by decide +kernel
theorem dX10_plans_68 : decode cX10_plans 68 = .ok (.iconst 1, 1) := by decide +kernel
theorem dX10_plans_69 : decode cX10_plans 69 = .ok (.goto 4, 3) := by decide +kernel
theorem dX10_plans_72 : decode cX10_plans 72 = .ok (.iconst 0, 1) := by decide +kernel
theorem dX10_plans_73 : decode cX10_plans 73 = .ok (.invokevirtual 199, 3) := by decide +kernel
theorem dX10_plans_76 : decode cX10_plans 76 = .ok (.return_, 1) := by decide +kernel
theorem dX10_worthOf_0 : decode cX10_worthOf 0 = .ok (.iconst 0, 1) := by decide +kernel
theorem dX10_worthOf_1 : decode cX10_worthOf 1 = .ok (.istore_n 1, 1) := by decide +kernel
theorem dX10_worthOf_2 : decode cX10_worthOf 2 = .ok (.iconst 0, 1) := by decide +kernel
theorem dX10_worthOf_3 : decode cX10_worthOf 3 = .ok (.istore_n 2, 1) := by decide +kernel
theorem dX10_worthOf_4 : decode cX10_worthOf 4 = .ok (.iload_n 2, 1) := by decide +kernel
theorem dX10_worthOf_5 : decode cX10_worthOf 5 = .ok (.aload_n 0, 1) := by decide +kernel
theorem dX10_worthOf_6 : decode cX10_worthOf 6 = .ok (.getfield 13, 3) := by decide +kernel
theorem dX10_worthOf_9 : decode cX10_worthOf 9 = .ok (.iconst 2, 1) := by decide +kernel
theorem dX10_worthOf_10 : decode cX10_worthOf 10 = .ok (.iaload, 1) := by decide +kernel
theorem dX10_worthOf_11 : decode cX10_worthOf 11 = .ok (.if_icmp .ge 32, 3) := by decide +kernel
theorem dX10_worthOf_14 : decode cX10_worthOf 14 = .ok (.iload_n 1, 1) := by decide +kernel
theorem dX10_worthOf_15 : decode cX10_worthOf 15 = .ok (.aload_n 0, 1) := by decide +kernel
theorem dX10_worthOf_16 : decode cX10_worthOf 16 = .ok (.iload_n 2, 1) := by decide +kernel
theorem dX10_worthOf_17 : decode cX10_worthOf 17 = .ok (.iconst 0, 1) := by decide +kernel
theorem dX10_worthOf_18 : decode cX10_worthOf 18 = .ok (.iconst 0, 1) := by decide +kernel
theorem dX10_worthOf_19 : decode cX10_worthOf 19 = .ok (.invokevirtual 183, 3) := by decide +kernel
theorem dX10_worthOf_22 : decode cX10_worthOf 22 = .ok (.ifCond .eq 12, 3) := by decide +kernel
theorem dX10_worthOf_25 : decode cX10_worthOf 25 = .ok (.aload_n 0, 1) := by decide +kernel
theorem dX10_worthOf_26 : decode cX10_worthOf 26 = .ok (.iload_n 2, 1) := by decide +kernel
theorem dX10_worthOf_27 : decode cX10_worthOf 27 = .ok (.iconst 5, 1) := by decide +kernel
theorem dX10_worthOf_28 : decode cX10_worthOf 28 = .ok (.invokevirtual 118, 3) := by decide +kernel
theorem dX10_worthOf_31 : decode cX10_worthOf 31 = .ok (.goto 4, 3) := by decide +kernel
theorem dX10_worthOf_34 : decode cX10_worthOf 34 = .ok (.iconst 0, 1) := by decide +kernel
theorem dX10_worthOf_35 : decode cX10_worthOf 35 = .ok (.iadd, 1) := by decide +kernel
theorem dX10_worthOf_36 : decode cX10_worthOf 36 = .ok (.istore_n 1, 1) := by decide +kernel
theorem dX10_worthOf_37 : decode cX10_worthOf 37 = .ok (.iinc 2 1, 3) := by decide +kernel
theorem dX10_worthOf_40 : decode cX10_worthOf 40 = .ok (.goto (-36), 3) := by decide +kernel
theorem dX10_worthOf_43 : decode cX10_worthOf 43 = .ok (.iload_n 1, 1) := by decide +kernel
theorem dX10_worthOf_44 : decode cX10_worthOf 44 = .ok (.ireturn, 1) := by decide +kernel
theorem dX10_plan_0 : decode cX10_plan 0 = .ok (.iload_n 1, 1) := by decide +kernel
theorem dX10_plan_1 : decode cX10_plan 1 = .ok (.iconst 4, 1) := by decide +kernel
theorem dX10_plan_2 : decode cX10_plan 2 = .ok (.invokestatic 46, 3) := by decide +kernel
theorem dX10_plan_5 : decode cX10_plan 5 = .ok (.ifCond .ne 10, 3) := by decide +kernel
theorem dX10_plan_8 : decode cX10_plan 8 = .ok (.aload_n 0, 1) := by decide +kernel
theorem dX10_plan_9 : decode cX10_plan 9 = .ok (.bipush (-2), 2) := by decide +kernel
theorem dX10_plan_11 : decode cX10_plan 11 = .ok (.invokevirtual 62, 3) := by decide +kernel
theorem dX10_plan_14 : decode cX10_plan 14 = .ok (.ireturn, 1) := by decide +kernel
theorem dX10_plan_15 : decode cX10_plan 15 = .ok (.aload_n 0, 1) := by decide +kernel
theorem dX10_plan_16 : decode cX10_plan 16 = .ok (.iload_n 1, 1) := by decide +kernel
theorem dX10_plan_17 : decode cX10_plan 17 = .ok (.invokevirtual 203, 3) := by decide +kernel
theorem dX10_plan_20 : decode cX10_plan 20 = .ok (.aload_n 0, 1) := by decide +kernel
theorem dX10_plan_21 : decode cX10_plan 21 = .ok (.invokevirtual 206, 3) := by decide +kernel
theorem dX10_plan_24 : decode cX10_plan 24 = .ok (.ireturn, 1) := by decide +kernel
theorem dX10_planned_0 : decode cX10_planned 0 = .ok (.iload_n 1, 1) := by decide +kernel
theorem dX10_planned_1 : decode cX10_planned 1 = .ok (.iconst 4, 1) := by decide +kernel
theorem dX10_planned_2 : decode cX10_planned 2 = .ok (.invokestatic 46, 3) := by decide +kernel
theorem dX10_planned_5 : decode cX10_planned 5 = .ok (.ifCond .ne 10, 3) := by decide +kernel
theorem dX10_planned_8 : decode cX10_planned 8 = .ok (.aload_n 0, 1) := by decide +kernel
theorem dX10_planned_9 : decode cX10_planned 9 = .ok (.bipush (-2), 2) := by decide +kernel
theorem dX10_planned_11 : decode cX10_planned 11 = .ok (.invokevirtual 62, 3) := by decide +kernel
theorem dX10_planned_14 : decode cX10_planned 14 = .ok (.ireturn, 1) := by decide +kernel
theorem dX10_planned_15 : decode cX10_planned 15 = .ok (.aload_n 0, 1) := by decide +kernel
theorem dX10_planned_16 : decode cX10_planned 16 = .ok (.iload_n 2, 1) := by decide +kernel
theorem dX10_planned_17 : decode cX10_planned 17 = .ok (.invokevirtual 103, 3) := by decide +kernel
theorem dX10_planned_20 : decode cX10_planned 20 = .ok (.ifCond .eq 11, 3) := by decide +kernel
theorem dX10_planned_23 : decode cX10_planned 23 = .ok (.aload_n 0, 1) := by decide +kernel
theorem dX10_planned_24 : decode cX10_planned 24 = .ok (.iload_n 3, 1) := by decide +kernel
theorem dX10_planned_25 : decode cX10_planned 25 = .ok (.invokevirtual 115, 3) := by decide +kernel
theorem dX10_planned_28 : decode cX10_planned 28 = .ok (.ifCond .ne 9, 3) := by decide +kernel
theorem dX10_planned_31 : decode cX10_planned 31 = .ok (.aload_n 0, 1) := by decide +kernel
theorem dX10_planned_32 : decode cX10_planned 32 = .ok (.iconst (-1), 1) := by decide +kernel
theorem dX10_planned_33 : decode cX10_planned 33 = .ok (.invokevirtual 62, 3) := by decide +kernel
theorem dX10_planned_36 : decode cX10_planned 36 = .ok (.ireturn, 1) := by decide +kernel
theorem dX10_planned_37 : decode cX10_planned 37 = .ok (.aload_n 0, 1) := by decide +kernel
theorem dX10_planned_38 : decode cX10_planned 38 = .ok (.iload_n 1, 1) := by decide +kernel
theorem dX10_planned_39 : decode cX10_planned 39 = .ok (.invokevirtual 203, 3) := by decide +kernel
theorem dX10_planned_42 : decode cX10_planned 42 = .ok (.aload_n 0, 1) := by decide +kernel
theorem dX10_planned_43 : decode cX10_planned 43 = .ok (.getfield 34, 3) := by decide +kernel
theorem dX10_planned_46 : decode cX10_planned 46 = .ok (.bipush 6, 2) := by decide +kernel
theorem dX10_planned_48 : decode cX10_planned 48 = .ok (.iload_n 2, 1) := by decide +kernel
theorem dX10_planned_49 : decode cX10_planned 49 = .ok (.imul, 1) := by decide +kernel
theorem dX10_planned_50 : decode cX10_planned 50 = .ok (.iload_n 3, 1) := by decide +kernel
theorem dX10_planned_51 : decode cX10_planned 51 = .ok (.iadd, 1) := by decide +kernel
theorem dX10_planned_52 : decode cX10_planned 52 = .ok (.iaload, 1) := by decide +kernel
theorem dX10_planned_53 : decode cX10_planned 53 = .ok (.ireturn, 1) := by decide +kernel
theorem dX10_worthByQuarters_0 : decode cX10_worthByQuarters 0 = .ok (.iconst 0, 1) := by decide +kernel
theorem dX10_worthByQuarters_1 : decode cX10_worthByQuarters 1 = .ok (.istore_n 1, 1) := by decide +kernel
theorem dX10_worthByQuarters_2 : decode cX10_worthByQuarters 2 = .ok (.iconst 0, 1) := by decide +kernel
theorem dX10_worthByQuarters_3 : decode cX10_worthByQuarters 3 = .ok (.istore_n 2, 1) := by decide +kernel
theorem dX10_worthByQuarters_4 : decode cX10_worthByQuarters 4 = .ok (.iload_n 2, 1) := by decide +kernel
theorem dX10_worthByQuarters_5 : decode cX10_worthByQuarters 5 = .ok (.aload_n 0, 1) := by decide +kernel
theorem dX10_worthByQuarters_6 : decode cX10_worthByQuarters 6 = .ok (.getfield 13, 3) := by decide +kernel
theorem dX10_worthByQuarters_9 : decode cX10_worthByQuarters 9 = .ok (.iconst 2, 1) := by decide +kernel
theorem dX10_worthByQuarters_10 : decode cX10_worthByQuarters 10 = .ok (.iaload, 1) := by decide +kernel
theorem dX10_worthByQuarters_11 : decode cX10_worthByQuarters 11 = .ok (.if_icmp .ge 112, 3) := by decide +kernel
theorem dX10_worthByQuarters_14 : decode cX10_worthByQuarters 14 = .ok (.aload_n 0, 1) := by decide +kernel
theorem dX10_worthByQuarters_15 : decode cX10_worthByQuarters 15 = .ok (.invokevirtual 151, 3) := by decide +kernel
theorem dX10_worthByQuarters_18 : decode cX10_worthByQuarters 18 = .ok (.iconst 0, 1) := by decide +kernel
theorem dX10_worthByQuarters_19 : decode cX10_worthByQuarters 19 = .ok (.istore_n 3, 1) := by decide +kernel
theorem dX10_worthByQuarters_20 : decode cX10_worthByQuarters 20 = .ok (.iload_n 3, 1) := by decide +kernel
theorem dX10_worthByQuarters_21 : decode cX10_worthByQuarters 21 = .ok (.aload_n 0, 1) := by decide +kernel
theorem dX10_worthByQuarters_22 : decode cX10_worthByQuarters 22 = .ok (.getfield 13, 3) := by decide +kernel
theorem dX10_worthByQuarters_25 : decode cX10_worthByQuarters 25 = .ok (.iconst 1, 1) := by decide +kernel
theorem dX10_worthByQuarters_26 : decode cX10_worthByQuarters 26 = .ok (.iaload, 1) := by decide +kernel
theorem dX10_worthByQuarters_27 : decode cX10_worthByQuarters 27 = .ok (.if_icmp .ge 69, 3) := by decide +kernel
theorem dX10_worthByQuarters_30 : decode cX10_worthByQuarters 30 = .ok (.iconst 3, 1) := by decide +kernel
theorem dX10_worthByQuarters_31 : decode cX10_worthByQuarters 31 = .ok (.aload_n 0, 1) := by decide +kernel
theorem dX10_worthByQuarters_32 : decode cX10_worthByQuarters 32 = .ok (.getfield 34, 3) := by decide +kernel
theorem dX10_worthByQuarters_35 : decode cX10_worthByQuarters 35 = .ok (.bipush 6, 2) := by decide +kernel
theorem dX10_worthByQuarters_37 : decode cX10_worthByQuarters 37 = .ok (.iload_n 3, 1) := by decide +kernel
theorem dX10_worthByQuarters_38 : decode cX10_worthByQuarters 38 = .ok (.imul, 1) := by decide +kernel
theorem dX10_worthByQuarters_39 : decode cX10_worthByQuarters 39 = .ok (.iload_n 2, 1) := by decide +kernel
theorem dX10_worthByQuarters_40 : decode cX10_worthByQuarters 40 = .ok (.iadd, 1) := by decide +kernel
theorem dX10_worthByQuarters_41 : decode cX10_worthByQuarters 41 = .ok (.iaload, 1) := by decide +kernel
theorem dX10_worthByQuarters_42 : decode cX10_worthByQuarters 42 = .ok (.imul, 1) := by decide +kernel
theorem dX10_worthByQuarters_43 : decode cX10_worthByQuarters 43 = .ok (.istore 4, 2) := by decide +kernel
theorem dX10_worthByQuarters_45 : decode cX10_worthByQuarters 45 = .ok (.iload 4, 2) := by decide +kernel
theorem dX10_worthByQuarters_47 : decode cX10_worthByQuarters 47 = .ok (.ifCond .ne 6, 3) := by decide +kernel
theorem dX10_worthByQuarters_50 : decode cX10_worthByQuarters 50 = .ok (.goto 40, 3) := by decide +kernel
theorem dX10_worthByQuarters_53 : decode cX10_worthByQuarters 53 = .ok (.iload 4, 2) := by decide +kernel
theorem dX10_worthByQuarters_55 : decode cX10_worthByQuarters 55 = .ok (.aload_n 0, 1) := by decide +kernel
theorem dX10_worthByQuarters_56 : decode cX10_worthByQuarters 56 = .ok (.iload_n 3, 1) := by decide +kernel
theorem dX10_worthByQuarters_57 : decode cX10_worthByQuarters 57 = .ok (.iconst 3, 1) := by decide +kernel
theorem dX10_worthByQuarters_58 : decode cX10_worthByQuarters 58 = .ok (.invokevirtual 106, 3) := by decide +kernel
theorem dX10_worthByQuarters_61 : decode cX10_worthByQuarters 61 = .ok (.if_icmp .lt 17, 3) := by decide +kernel
theorem dX10_worthByQuarters_64 : decode cX10_worthByQuarters 64 = .ok (.aload_n 0, 1) := by decide +kernel
theorem dX10_worthByQuarters_65 : decode cX10_worthByQuarters 65 = .ok (.aload_n 0, 1) := by decide +kernel
theorem dX10_worthByQuarters_66 : decode cX10_worthByQuarters 66 = .ok (.iload_n 2, 1) := by decide +kernel
theorem dX10_worthByQuarters_67 : decode cX10_worthByQuarters 67 = .ok (.iconst 0, 1) := by decide +kernel
theorem dX10_worthByQuarters_68 : decode cX10_worthByQuarters 68 = .ok (.invokevirtual 118, 3) := by decide +kernel
theorem dX10_worthByQuarters_71 : decode cX10_worthByQuarters 71 = .ok (.iload_n 3, 1) := by decide +kernel
theorem dX10_worthByQuarters_72 : decode cX10_worthByQuarters 72 = .ok (.iload 4, 2) := by decide +kernel
theorem dX10_worthByQuarters_74 : decode cX10_worthByQuarters 74 = .ok (.iconst 0, 1) := by decide +kernel
theorem dX10_worthByQuarters_75 : decode cX10_worthByQuarters 75 = .ok (.invokevirtual 154, 3) := by decide +kernel
theorem dX10_worthByQuarters_78 : decode cX10_worthByQuarters 78 = .ok (.aload_n 0, 1) := by decide +kernel
theorem dX10_worthByQuarters_79 : decode cX10_worthByQuarters 79 = .ok (.dup, 1) := by decide +kernel
theorem dX10_worthByQuarters_80 : decode cX10_worthByQuarters 80 = .ok (.getfield 144, 3) := by decide +kernel
theorem dX10_worthByQuarters_83 : decode cX10_worthByQuarters 83 = .ok (.iconst 1, 1) := by decide +kernel
theorem dX10_worthByQuarters_84 : decode cX10_worthByQuarters 84 = .ok (.iload_n 3, 1) := by decide +kernel
theorem dX10_worthByQuarters_85 : decode cX10_worthByQuarters 85 = .ok (.ishl, 1) := by decide +kernel
theorem dX10_worthByQuarters_86 : decode cX10_worthByQuarters 86 = .ok (.ior, 1) := by decide +kernel
theorem dX10_worthByQuarters_87 : decode cX10_worthByQuarters 87 = .ok (.putfield 144, 3) := by decide +kernel
theorem dX10_worthByQuarters_90 : decode cX10_worthByQuarters 90 = .ok (.iinc 3 1, 3) := by decide +kernel
theorem dX10_worthByQuarters_93 : decode cX10_worthByQuarters 93 = .ok (.goto (-73), 3) := by decide +kernel
theorem dX10_worthByQuarters_96 : decode cX10_worthByQuarters 96 = .ok (.iload_n 1, 1) := by decide +kernel
theorem dX10_worthByQuarters_97 : decode cX10_worthByQuarters 97 = .ok (.aload_n 0, 1) := by decide +kernel
theorem dX10_worthByQuarters_98 : decode cX10_worthByQuarters 98 = .ok (.iload_n 2, 1) := by decide +kernel
theorem dX10_worthByQuarters_99 : decode cX10_worthByQuarters 99 = .ok (.invokevirtual 180, 3) := by decide +kernel
theorem dX10_worthByQuarters_102 : decode cX10_worthByQuarters 102 = .ok (.ifCond .eq 12, 3) := by decide +kernel
theorem dX10_worthByQuarters_105 : decode cX10_worthByQuarters 105 = .ok (.aload_n 0, 1) := by decide +kernel
theorem dX10_worthByQuarters_106 : decode cX10_worthByQuarters 106 = .ok (.iload_n 2, 1) := by decide +kernel
theorem dX10_worthByQuarters_107 : decode cX10_worthByQuarters 107 = .ok (.iconst 5, 1) := by decide +kernel
theorem dX10_worthByQuarters_108 : decode cX10_worthByQuarters 108 = .ok (.invokevirtual 118, 3) := by decide +kernel
theorem dX10_worthByQuarters_111 : decode cX10_worthByQuarters 111 = .ok (.goto 4, 3) := by decide +kernel
theorem dX10_worthByQuarters_114 : decode cX10_worthByQuarters 114 = .ok (.iconst 0, 1) := by decide +kernel
theorem dX10_worthByQuarters_115 : decode cX10_worthByQuarters 115 = .ok (.iadd, 1) := by decide +kernel
theorem dX10_worthByQuarters_116 : decode cX10_worthByQuarters 116 = .ok (.istore_n 1, 1) := by decide +kernel
theorem dX10_worthByQuarters_117 : decode cX10_worthByQuarters 117 = .ok (.iinc 2 1, 3) := by decide +kernel
theorem dX10_worthByQuarters_120 : decode cX10_worthByQuarters 120 = .ok (.goto (-116), 3) := by decide +kernel
theorem dX10_worthByQuarters_123 : decode cX10_worthByQuarters 123 = .ok (.iload_n 1, 1) := by decide +kernel
theorem dX10_worthByQuarters_124 : decode cX10_worthByQuarters 124 = .ok (.ireturn, 1) := by decide +kernel
theorem dX10_quartersFrom_0 : decode cX10_quartersFrom 0 = .ok (.iload_n 1, 1) := by decide +kernel
theorem dX10_quartersFrom_1 : decode cX10_quartersFrom 1 = .ok (.aload_n 0, 1) := by decide +kernel
theorem dX10_quartersFrom_2 : decode cX10_quartersFrom 2 = .ok (.getfield 13, 3) := by decide +kernel
theorem dX10_quartersFrom_5 : decode cX10_quartersFrom 5 = .ok (.iconst 1, 1) := by decide +kernel
theorem dX10_quartersFrom_6 : decode cX10_quartersFrom 6 = .ok (.iaload, 1) := by decide +kernel
theorem dX10_quartersFrom_7 : decode cX10_quartersFrom 7 = .ok (.if_icmp .ne 56, 3) := by decide +kernel
theorem dX10_quartersFrom_10 : decode cX10_quartersFrom 10 = .ok (.aload_n 0, 1) := by decide +kernel
theorem dX10_quartersFrom_11 : decode cX10_quartersFrom 11 = .ok (.invokevirtual 209, 3) := by decide +kernel
theorem dX10_quartersFrom_14 : decode cX10_quartersFrom 14 = .ok (.istore 4, 2) := by decide +kernel
theorem dX10_quartersFrom_16 : decode cX10_quartersFrom 16 = .ok (.iload 4, 2) := by decide +kernel
theorem dX10_quartersFrom_18 : decode cX10_quartersFrom 18 = .ok (.aload_n 0, 1) := by decide +kernel
theorem dX10_quartersFrom_19 : decode cX10_quartersFrom 19 = .ok (.getfield 212, 3) := by decide +kernel
theorem dX10_quartersFrom_22 : decode cX10_quartersFrom 22 = .ok (.if_icmp .gt 4, 3) := by decide +kernel
theorem dX10_quartersFrom_25 : decode cX10_quartersFrom 25 = .ok (.return_, 1) := by decide +kernel
theorem dX10_quartersFrom_26 : decode cX10_quartersFrom 26 = .ok (.aload_n 0, 1) := by decide +kernel
theorem dX10_quartersFrom_27 : decode cX10_quartersFrom 27 = .ok (.iload 4, 2) := by decide +kernel
theorem dX10_quartersFrom_29 : decode cX10_quartersFrom 29 = .ok (.putfield 212, 3) := by decide +kernel
theorem dX10_quartersFrom_32 : decode cX10_quartersFrom 32 = .ok (.iconst 0, 1) := by decide +kernel
theorem dX10_quartersFrom_33 : decode cX10_quartersFrom 33 = .ok (.istore 5, 2) := by decide +kernel
theorem dX10_quartersFrom_35 : decode cX10_quartersFrom 35 = .ok (.iload 5, 2) := by decide +kernel
theorem dX10_quartersFrom_37 : decode cX10_quartersFrom 37 = .ok (.bipush 36, 2) := by decide +kernel
theorem dX10_quartersFrom_39 : decode cX10_quartersFrom 39 = .ok (.if_icmp .ge 23, 3) := by decide +kernel
theorem dX10_quartersFrom_42 : decode cX10_quartersFrom 42 = .ok (.aload_n 0, 1) := by decide +kernel
theorem dX10_quartersFrom_43 : decode cX10_quartersFrom 43 = .ok (.getfield 40, 3) := by decide +kernel
theorem dX10_quartersFrom_46 : decode cX10_quartersFrom 46 = .ok (.iload 5, 2) := by decide +kernel
theorem dX10_quartersFrom_48 : decode cX10_quartersFrom 48 = .ok (.aload_n 0, 1) := by decide +kernel
theorem dX10_quartersFrom_49 : decode cX10_quartersFrom 49 = .ok (.getfield 34, 3) := by decide +kernel
theorem dX10_quartersFrom_52 : decode cX10_quartersFrom 52 = .ok (.iload 5, 2) := by decide +kernel
theorem dX10_quartersFrom_54 : decode cX10_quartersFrom 54 = .ok (.iaload, 1) := by decide +kernel
theorem dX10_quartersFrom_55 : decode cX10_quartersFrom 55 = .ok (.iastore, 1) := by decide +kernel
theorem dX10_quartersFrom_56 : decode cX10_quartersFrom 56 = .ok (.iinc 5 1, 3) := by decide +kernel
theorem dX10_quartersFrom_59 : decode cX10_quartersFrom 59 = .ok (.goto (-24), 3) := by decide +kernel
theorem dX10_quartersFrom_62 : decode cX10_quartersFrom 62 = .ok (.return_, 1) := by decide +kernel
theorem dX10_quartersFrom_63 : decode cX10_quartersFrom 63 = .ok (.iload_n 2, 1) := by decide +kernel
theorem dX10_quartersFrom_64 : decode cX10_quartersFrom 64 = .ok (.aload_n 0, 1) := by decide +kernel
theorem dX10_quartersFrom_65 : decode cX10_quartersFrom 65 = .ok (.getfield 13, 3) := by decide +kernel
theorem dX10_quartersFrom_68 : decode cX10_quartersFrom 68 = .ok (.iconst 2, 1) := by decide +kernel
theorem dX10_quartersFrom_69 : decode cX10_quartersFrom 69 = .ok (.iaload, 1) := by decide +kernel
theorem dX10_quartersFrom_70 : decode cX10_quartersFrom 70 = .ok (.if_icmp .ne 13, 3) := by decide +kernel
theorem dX10_quartersFrom_73 : decode cX10_quartersFrom 73 = .ok (.aload_n 0, 1) := by decide +kernel
theorem dX10_quartersFrom_74 : decode cX10_quartersFrom 74 = .ok (.iload_n 1, 1) := by decide +kernel
theorem dX10_quartersFrom_75 : decode cX10_quartersFrom 75 = .ok (.iconst 1, 1) := by decide +kernel
theorem dX10_quartersFrom_76 : decode cX10_quartersFrom 76 = .ok (.iadd, 1) := by decide +kernel
theorem dX10_quartersFrom_77 : decode cX10_quartersFrom 77 = .ok (.iconst 0, 1) := by decide +kernel
theorem dX10_quartersFrom_78 : decode cX10_quartersFrom 78 = .ok (.iconst 4, 1) := by decide +kernel
theorem dX10_quartersFrom_79 : decode cX10_quartersFrom 79 = .ok (.invokevirtual 215, 3) := by decide +kernel
theorem dX10_quartersFrom_82 : decode cX10_quartersFrom 82 = .ok (.return_, 1) := by decide +kernel
theorem dX10_quartersFrom_83 : decode cX10_quartersFrom 83 = .ok (.iconst 0, 1) := by decide +kernel
theorem dX10_quartersFrom_84 : decode cX10_quartersFrom 84 = .ok (.istore 4, 2) := by decide +kernel
theorem dX10_quartersFrom_86 : decode cX10_quartersFrom 86 = .ok (.iload 4, 2) := by decide +kernel
theorem dX10_quartersFrom_88 : decode cX10_quartersFrom 88 = .ok (.iload_n 3, 1) := by decide +kernel
theorem dX10_quartersFrom_89 : decode cX10_quartersFrom 89 = .ok (.if_icmp .gt 34, 3) := by decide +kernel
theorem dX10_quartersFrom_92 : decode cX10_quartersFrom 92 = .ok (.aload_n 0, 1) := by decide +kernel
theorem dX10_quartersFrom_93 : decode cX10_quartersFrom 93 = .ok (.getfield 34, 3) := by decide +kernel
theorem dX10_quartersFrom_96 : decode cX10_quartersFrom 96 = .ok (.bipush 6, 2) := by decide +kernel
theorem dX10_quartersFrom_98 : decode cX10_quartersFrom 98 = .ok (.iload_n 1, 1) := by decide +kernel
theorem dX10_quartersFrom_99 : decode cX10_quartersFrom 99 = .ok (.imul, 1) := by decide +kernel
theorem dX10_quartersFrom_100 : decode cX10_quartersFrom 100 = .ok (.iload_n 2, 1) := by decide +kernel
theorem dX10_quartersFrom_101 : decode cX10_quartersFrom 101 = .ok (.iadd, 1) := by decide +kernel
theorem dX10_quartersFrom_102 : decode cX10_quartersFrom 102 = .ok (.iload 4, 2) := by decide +kernel
theorem dX10_quartersFrom_104 : decode cX10_quartersFrom 104 = .ok (.iastore, 1) := by decide +kernel
theorem dX10_quartersFrom_105 : decode cX10_quartersFrom 105 = .ok (.aload_n 0, 1) := by decide +kernel
theorem dX10_quartersFrom_106 : decode cX10_quartersFrom 106 = .ok (.iload_n 1, 1) := by decide +kernel
theorem dX10_quartersFrom_107 : decode cX10_quartersFrom 107 = .ok (.iload_n 2, 1) := by decide +kernel
theorem dX10_quartersFrom_108 : decode cX10_quartersFrom 108 = .ok (.iconst 1, 1) := by decide +kernel
theorem dX10_quartersFrom_109 : decode cX10_quartersFrom 109 = .ok (.iadd, 1) := by decide +kernel
theorem dX10_quartersFrom_110 : decode cX10_quartersFrom 110 = .ok (.iload_n 3, 1) := by decide +kernel
theorem dX10_quartersFrom_111 : decode cX10_quartersFrom 111 = .ok (.iload 4, 2) := by decide +kernel
theorem dX10_quartersFrom_113 : decode cX10_quartersFrom 113 = .ok (.isub, 1) := by decide +kernel
theorem dX10_quartersFrom_114 : decode cX10_quartersFrom 114 = .ok (.invokevirtual 215, 3) := by decide +kernel
theorem dX10_quartersFrom_117 : decode cX10_quartersFrom 117 = .ok (.iinc 4 1, 3) := by decide +kernel
theorem dX10_quartersFrom_120 : decode cX10_quartersFrom 120 = .ok (.goto (-34), 3) := by decide +kernel
theorem dX10_quartersFrom_123 : decode cX10_quartersFrom 123 = .ok (.aload_n 0, 1) := by decide +kernel
theorem dX10_quartersFrom_124 : decode cX10_quartersFrom 124 = .ok (.getfield 34, 3) := by decide +kernel
theorem dX10_quartersFrom_127 : decode cX10_quartersFrom 127 = .ok (.bipush 6, 2) := by decide +kernel
theorem dX10_quartersFrom_129 : decode cX10_quartersFrom 129 = .ok (.iload_n 1, 1) := by decide +kernel
theorem dX10_quartersFrom_130 : decode cX10_quartersFrom 130 = .ok (.imul, 1) := by decide +kernel
theorem dX10_quartersFrom_131 : decode cX10_quartersFrom 131 = .ok (.iload_n 2, 1) := by decide +kernel
theorem dX10_quartersFrom_132 : decode cX10_quartersFrom 132 = .ok (.iadd, 1) := by decide +kernel
theorem dX10_quartersFrom_133 : decode cX10_quartersFrom 133 = .ok (.iconst 0, 1) := by decide +kernel
theorem dX10_quartersFrom_134 : decode cX10_quartersFrom 134 = .ok (.iastore, 1) := by decide +kernel
theorem dX10_quartersFrom_135 : decode cX10_quartersFrom 135 = .ok (.return_, 1) := by decide +kernel
theorem dX10_findsBest_0 : decode cX10_findsBest 0 = .ok (.iconst 0, 1) := by decide +kernel
theorem dX10_findsBest_1 : decode cX10_findsBest 1 = .ok (.istore_n 1, 1) := by decide +kernel
theorem dX10_findsBest_2 : decode cX10_findsBest 2 = .ok (.iload_n 1, 1) := by decide +kernel
theorem dX10_findsBest_3 : decode cX10_findsBest 3 = .ok (.bipush 36, 2) := by decide +kernel
theorem dX10_findsBest_5 : decode cX10_findsBest 5 = .ok (.if_icmp .ge 16, 3) := by decide +kernel
theorem dX10_findsBest_8 : decode cX10_findsBest 8 = .ok (.aload_n 0, 1) := by decide +kernel
theorem dX10_findsBest_9 : decode cX10_findsBest 9 = .ok (.getfield 34, 3) := by decide +kernel
theorem dX10_findsBest_12 : decode cX10_findsBest 12 = .ok (.iload_n 1, 1) := by decide +kernel
theorem dX10_findsBest_13 : decode cX10_findsBest 13 = .ok (.iconst 0, 1) := by decide +kernel
theorem dX10_findsBest_14 : decode cX10_findsBest 14 = .ok (.iastore, 1) := by decide +kernel
theorem dX10_findsBest_15 : decode cX10_findsBest 15 = .ok (.iinc 1 1, 3) := by decide +kernel
theorem dX10_findsBest_18 : decode cX10_findsBest 18 = .ok (.goto (-16), 3) := by decide +kernel
theorem dX10_findsBest_21 : decode cX10_findsBest 21 = .ok (.aload_n 0, 1) := by decide +kernel
theorem dX10_findsBest_22 : decode cX10_findsBest 22 = .ok (.bipush (-9), 2) := by decide +kernel
theorem dX10_findsBest_24 : decode cX10_findsBest 24 = .ok (.putfield 212, 3) := by decide +kernel
theorem dX10_findsBest_27 : decode cX10_findsBest 27 = .ok (.aload_n 0, 1) := by decide +kernel
theorem dX10_findsBest_28 : decode cX10_findsBest 28 = .ok (.iconst 0, 1) := by decide +kernel
theorem dX10_findsBest_29 : decode cX10_findsBest 29 = .ok (.iconst 0, 1) := by decide +kernel
theorem dX10_findsBest_30 : decode cX10_findsBest 30 = .ok (.iconst 4, 1) := by decide +kernel
theorem dX10_findsBest_31 : decode cX10_findsBest 31 = .ok (.invokevirtual 215, 3) := by decide +kernel
theorem dX10_findsBest_34 : decode cX10_findsBest 34 = .ok (.return_, 1) := by decide +kernel
theorem dX10_areFew_0 : decode cX10_areFew 0 = .ok (.aload_n 0, 1) := by decide +kernel
theorem dX10_areFew_1 : decode cX10_areFew 1 = .ok (.getfield 13, 3) := by decide +kernel
theorem dX10_areFew_4 : decode cX10_areFew 4 = .ok (.iconst 1, 1) := by decide +kernel
theorem dX10_areFew_5 : decode cX10_areFew 5 = .ok (.iaload, 1) := by decide +kernel
theorem dX10_areFew_6 : decode cX10_areFew 6 = .ok (.iconst 3, 1) := by decide +kernel
theorem dX10_areFew_7 : decode cX10_areFew 7 = .ok (.if_icmp .gt 17, 3) := by decide +kernel
theorem dX10_areFew_10 : decode cX10_areFew 10 = .ok (.aload_n 0, 1) := by decide +kernel
theorem dX10_areFew_11 : decode cX10_areFew 11 = .ok (.getfield 13, 3) := by decide +kernel
theorem dX10_areFew_14 : decode cX10_areFew 14 = .ok (.iconst 2, 1) := by decide +kernel
theorem dX10_areFew_15 : decode cX10_areFew 15 = .ok (.iaload, 1) := by decide +kernel
theorem dX10_areFew_16 : decode cX10_areFew 16 = .ok (.iconst 3, 1) := by decide +kernel
theorem dX10_areFew_17 : decode cX10_areFew 17 = .ok (.if_icmp .gt 7, 3) := by decide +kernel
theorem dX10_areFew_20 : decode cX10_areFew 20 = .ok (.iconst 1, 1) := by decide +kernel
theorem dX10_areFew_21 : decode cX10_areFew 21 = .ok (.goto 4, 3) := by decide +kernel
theorem dX10_areFew_24 : decode cX10_areFew 24 = .ok (.iconst 0, 1) := by decide +kernel
theorem dX10_areFew_25 : decode cX10_areFew 25 = .ok (.ireturn, 1) := by decide +kernel
theorem dX10_best_0 : decode cX10_best 0 = .ok (.aload_n 0, 1) := by decide +kernel
theorem dX10_best_1 : decode cX10_best 1 = .ok (.invokevirtual 218, 3) := by decide +kernel
theorem dX10_best_4 : decode cX10_best 4 = .ok (.ifCond .ne 10, 3) := by decide +kernel
theorem dX10_best_7 : decode cX10_best 7 = .ok (.aload_n 0, 1) := by decide +kernel
theorem dX10_best_8 : decode cX10_best 8 = .ok (.bipush (-6), 2) := by decide +kernel
theorem dX10_best_10 : decode cX10_best 10 = .ok (.invokevirtual 62, 3) := by decide +kernel
theorem dX10_best_13 : decode cX10_best 13 = .ok (.ireturn, 1) := by decide +kernel
theorem dX10_best_14 : decode cX10_best 14 = .ok (.aload_n 0, 1) := by decide +kernel
theorem dX10_best_15 : decode cX10_best 15 = .ok (.invokevirtual 221, 3) := by decide +kernel
theorem dX10_best_18 : decode cX10_best 18 = .ok (.aload_n 0, 1) := by decide +kernel
theorem dX10_best_19 : decode cX10_best 19 = .ok (.getfield 212, 3) := by decide +kernel
theorem dX10_best_22 : decode cX10_best 22 = .ok (.ireturn, 1) := by decide +kernel
theorem dX10_quarters_0 : decode cX10_quarters 0 = .ok (.aload_n 0, 1) := by decide +kernel
theorem dX10_quarters_1 : decode cX10_quarters 1 = .ok (.iload_n 1, 1) := by decide +kernel
theorem dX10_quarters_2 : decode cX10_quarters 2 = .ok (.invokevirtual 103, 3) := by decide +kernel
theorem dX10_quarters_5 : decode cX10_quarters 5 = .ok (.ifCond .eq 11, 3) := by decide +kernel
theorem dX10_quarters_8 : decode cX10_quarters 8 = .ok (.aload_n 0, 1) := by decide +kernel
theorem dX10_quarters_9 : decode cX10_quarters 9 = .ok (.iload_n 2, 1) := by decide +kernel
theorem dX10_quarters_10 : decode cX10_quarters 10 = .ok (.invokevirtual 115, 3) := by decide +kernel
theorem dX10_quarters_13 : decode cX10_quarters 13 = .ok (.ifCond .ne 7, 3) := by decide +kernel
theorem dX10_quarters_16 : decode cX10_quarters 16 = .ok (.iconst (-1), 1) := by decide +kernel
theorem dX10_quarters_17 : decode cX10_quarters 17 = .ok (.goto 16, 3) := by decide +kernel
theorem dX10_quarters_20 : decode cX10_quarters 20 = .ok (.aload_n 0, 1) := by decide +kernel
theorem dX10_quarters_21 : decode cX10_quarters 21 = .ok (.invokevirtual 218, 3) := by decide +kernel
theorem dX10_quarters_24 : decode cX10_quarters 24 = .ok (.ifCond .eq 7, 3) := by decide +kernel
theorem dX10_quarters_27 : decode cX10_quarters 27 = .ok (.iconst 0, 1) := by decide +kernel
theorem dX10_quarters_28 : decode cX10_quarters 28 = .ok (.goto 5, 3) := by decide +kernel
theorem dX10_quarters_31 : decode cX10_quarters 31 = .ok (.bipush (-6), 2) := by decide +kernel
theorem dX10_quarters_33 : decode cX10_quarters 33 = .ok (.istore_n 3, 1) := by decide +kernel
theorem dX10_quarters_34 : decode cX10_quarters 34 = .ok (.iload_n 3, 1) := by decide +kernel
theorem dX10_quarters_35 : decode cX10_quarters 35 = .ok (.ifCond .eq 9, 3) := by decide +kernel
theorem dX10_quarters_38 : decode cX10_quarters 38 = .ok (.aload_n 0, 1) := by decide +kernel
theorem dX10_quarters_39 : decode cX10_quarters 39 = .ok (.iload_n 3, 1) := by decide +kernel
theorem dX10_quarters_40 : decode cX10_quarters 40 = .ok (.invokevirtual 62, 3) := by decide +kernel
theorem dX10_quarters_43 : decode cX10_quarters 43 = .ok (.ireturn, 1) := by decide +kernel
theorem dX10_quarters_44 : decode cX10_quarters 44 = .ok (.aload_n 0, 1) := by decide +kernel
theorem dX10_quarters_45 : decode cX10_quarters 45 = .ok (.invokevirtual 221, 3) := by decide +kernel
theorem dX10_quarters_48 : decode cX10_quarters 48 = .ok (.aload_n 0, 1) := by decide +kernel
theorem dX10_quarters_49 : decode cX10_quarters 49 = .ok (.getfield 40, 3) := by decide +kernel
theorem dX10_quarters_52 : decode cX10_quarters 52 = .ok (.bipush 6, 2) := by decide +kernel
theorem dX10_quarters_54 : decode cX10_quarters 54 = .ok (.iload_n 1, 1) := by decide +kernel
theorem dX10_quarters_55 : decode cX10_quarters 55 = .ok (.imul, 1) := by decide +kernel
theorem dX10_quarters_56 : decode cX10_quarters 56 = .ok (.iload_n 2, 1) := by decide +kernel
theorem dX10_quarters_57 : decode cX10_quarters 57 = .ok (.iadd, 1) := by decide +kernel
theorem dX10_quarters_58 : decode cX10_quarters 58 = .ok (.iaload, 1) := by decide +kernel
theorem dX10_quarters_59 : decode cX10_quarters 59 = .ok (.ireturn, 1) := by decide +kernel
theorem dX10_canAll_0 : decode cX10_canAll 0 = .ok (.iload_n 2, 1) := by decide +kernel
theorem dX10_canAll_1 : decode cX10_canAll 1 = .ok (.aload_n 0, 1) := by decide +kernel
theorem dX10_canAll_2 : decode cX10_canAll 2 = .ok (.getfield 13, 3) := by decide +kernel
theorem dX10_canAll_5 : decode cX10_canAll 5 = .ok (.iconst 1, 1) := by decide +kernel
theorem dX10_canAll_6 : decode cX10_canAll 6 = .ok (.iaload, 1) := by decide +kernel
theorem dX10_canAll_7 : decode cX10_canAll 7 = .ok (.if_icmp .ne 45, 3) := by decide +kernel
theorem dX10_canAll_10 : decode cX10_canAll 10 = .ok (.iconst 0, 1) := by decide +kernel
theorem dX10_canAll_11 : decode cX10_canAll 11 = .ok (.istore_n 3, 1) := by decide +kernel
theorem dX10_canAll_12 : decode cX10_canAll 12 = .ok (.iload_n 3, 1) := by decide +kernel
theorem dX10_canAll_13 : decode cX10_canAll 13 = .ok (.aload_n 0, 1) := by decide +kernel
theorem dX10_canAll_14 : decode cX10_canAll 14 = .ok (.getfield 13, 3) := by decide +kernel
theorem dX10_canAll_17 : decode cX10_canAll 17 = .ok (.iconst 2, 1) := by decide +kernel
theorem dX10_canAll_18 : decode cX10_canAll 18 = .ok (.iaload, 1) := by decide +kernel
theorem dX10_canAll_19 : decode cX10_canAll 19 = .ok (.if_icmp .ge 31, 3) := by decide +kernel
theorem dX10_canAll_22 : decode cX10_canAll 22 = .ok (.aload_n 0, 1) := by decide +kernel
theorem dX10_canAll_23 : decode cX10_canAll 23 = .ok (.iload_n 3, 1) := by decide +kernel
theorem dX10_canAll_24 : decode cX10_canAll 24 = .ok (.iconst 0, 1) := by decide +kernel
theorem dX10_canAll_25 : decode cX10_canAll 25 = .ok (.invokevirtual 118, 3) := by decide +kernel
theorem dX10_canAll_28 : decode cX10_canAll 28 = .ok (.iconst 1, 1) := by decide +kernel
theorem dX10_canAll_29 : decode cX10_canAll 29 = .ok (.if_icmp .ne 15, 3) := by decide +kernel
theorem dX10_canAll_32 : decode cX10_canAll 32 = .ok (.aload_n 0, 1) := by decide +kernel
theorem dX10_canAll_33 : decode cX10_canAll 33 = .ok (.iload_n 3, 1) := by decide +kernel
theorem dX10_canAll_34 : decode cX10_canAll 34 = .ok (.iconst 0, 1) := by decide +kernel
theorem dX10_canAll_35 : decode cX10_canAll 35 = .ok (.iconst 0, 1) := by decide +kernel
theorem dX10_canAll_36 : decode cX10_canAll 36 = .ok (.invokevirtual 183, 3) := by decide +kernel
theorem dX10_canAll_39 : decode cX10_canAll 39 = .ok (.ifCond .ne 5, 3) := by decide +kernel
theorem dX10_canAll_42 : decode cX10_canAll 42 = .ok (.iconst 0, 1) := by decide +kernel
theorem dX10_canAll_43 : decode cX10_canAll 43 = .ok (.ireturn, 1) := by decide +kernel
theorem dX10_canAll_44 : decode cX10_canAll 44 = .ok (.iinc 3 1, 3) := by decide +kernel
theorem dX10_canAll_47 : decode cX10_canAll 47 = .ok (.goto (-35), 3) := by decide +kernel
theorem dX10_canAll_50 : decode cX10_canAll 50 = .ok (.iconst 1, 1) := by decide +kernel
theorem dX10_canAll_51 : decode cX10_canAll 51 = .ok (.ireturn, 1) := by decide +kernel
theorem dX10_canAll_52 : decode cX10_canAll 52 = .ok (.iload_n 1, 1) := by decide +kernel
theorem dX10_canAll_53 : decode cX10_canAll 53 = .ok (.iload_n 2, 1) := by decide +kernel
theorem dX10_canAll_54 : decode cX10_canAll 54 = .ok (.ishr, 1) := by decide +kernel
theorem dX10_canAll_55 : decode cX10_canAll 55 = .ok (.iconst 1, 1) := by decide +kernel
theorem dX10_canAll_56 : decode cX10_canAll 56 = .ok (.iand, 1) := by decide +kernel
theorem dX10_canAll_57 : decode cX10_canAll 57 = .ok (.ifCond .ne 12, 3) := by decide +kernel
theorem dX10_canAll_60 : decode cX10_canAll 60 = .ok (.aload_n 0, 1) := by decide +kernel
theorem dX10_canAll_61 : decode cX10_canAll 61 = .ok (.iload_n 1, 1) := by decide +kernel
theorem dX10_canAll_62 : decode cX10_canAll 62 = .ok (.iload_n 2, 1) := by decide +kernel
theorem dX10_canAll_63 : decode cX10_canAll 63 = .ok (.iconst 1, 1) := by decide +kernel
theorem dX10_canAll_64 : decode cX10_canAll 64 = .ok (.iadd, 1) := by decide +kernel
theorem dX10_canAll_65 : decode cX10_canAll 65 = .ok (.invokevirtual 224, 3) := by decide +kernel
theorem dX10_canAll_68 : decode cX10_canAll 68 = .ok (.ireturn, 1) := by decide +kernel
theorem dX10_canAll_69 : decode cX10_canAll 69 = .ok (.iconst 0, 1) := by decide +kernel
theorem dX10_canAll_70 : decode cX10_canAll 70 = .ok (.istore_n 3, 1) := by decide +kernel
theorem dX10_canAll_71 : decode cX10_canAll 71 = .ok (.iload_n 3, 1) := by decide +kernel
theorem dX10_canAll_72 : decode cX10_canAll 72 = .ok (.aload_n 0, 1) := by decide +kernel
theorem dX10_canAll_73 : decode cX10_canAll 73 = .ok (.getfield 13, 3) := by decide +kernel
theorem dX10_canAll_76 : decode cX10_canAll 76 = .ok (.iconst 2, 1) := by decide +kernel
theorem dX10_canAll_77 : decode cX10_canAll 77 = .ok (.iaload, 1) := by decide +kernel
theorem dX10_canAll_78 : decode cX10_canAll 78 = .ok (.if_icmp .ge 64, 3) := by decide +kernel
theorem dX10_canAll_81 : decode cX10_canAll 81 = .ok (.aload_n 0, 1) := by decide +kernel
theorem dX10_canAll_82 : decode cX10_canAll 82 = .ok (.iload_n 3, 1) := by decide +kernel
theorem dX10_canAll_83 : decode cX10_canAll 83 = .ok (.iconst 0, 1) := by decide +kernel
theorem dX10_canAll_84 : decode cX10_canAll 84 = .ok (.invokevirtual 118, 3) := by decide +kernel
theorem dX10_canAll_87 : decode cX10_canAll 87 = .ok (.iconst 1, 1) := by decide +kernel
theorem dX10_canAll_88 : decode cX10_canAll 88 = .ok (.if_icmp .eq 6, 3) := by decide +kernel
theorem dX10_canAll_91 : decode cX10_canAll 91 = .ok (.goto 45, 3) := by decide +kernel
theorem dX10_canAll_94 : decode cX10_canAll 94 = .ok (.aload_n 0, 1) := by decide +kernel
theorem dX10_canAll_95 : decode cX10_canAll 95 = .ok (.getfield 34, 3) := by decide +kernel
theorem dX10_canAll_98 : decode cX10_canAll 98 = .ok (.bipush 6, 2) := by decide +kernel
theorem dX10_canAll_100 : decode cX10_canAll 100 = .ok (.iload_n 2, 1) := by decide +kernel
theorem dX10_canAll_101 : decode cX10_canAll 101 = .ok (.imul, 1) := by decide +kernel
theorem dX10_canAll_102 : decode cX10_canAll 102 = .ok (.iload_n 3, 1) := by decide +kernel
theorem dX10_canAll_103 : decode cX10_canAll 103 = .ok (.iadd, 1) := by decide +kernel
theorem dX10_canAll_104 : decode cX10_canAll 104 = .ok (.bipush 12, 2) := by decide +kernel
theorem dX10_canAll_106 : decode cX10_canAll 106 = .ok (.iastore, 1) := by decide +kernel
theorem dX10_canAll_107 : decode cX10_canAll 107 = .ok (.aload_n 0, 1) := by decide +kernel
theorem dX10_canAll_108 : decode cX10_canAll 108 = .ok (.iload_n 1, 1) := by decide +kernel
theorem dX10_canAll_109 : decode cX10_canAll 109 = .ok (.iload_n 2, 1) := by decide +kernel
theorem dX10_canAll_110 : decode cX10_canAll 110 = .ok (.iconst 1, 1) := by decide +kernel
theorem dX10_canAll_111 : decode cX10_canAll 111 = .ok (.iadd, 1) := by decide +kernel
theorem dX10_canAll_112 : decode cX10_canAll 112 = .ok (.invokevirtual 224, 3) := by decide +kernel
theorem dX10_canAll_115 : decode cX10_canAll 115 = .ok (.istore 4, 2) := by decide +kernel
theorem dX10_canAll_117 : decode cX10_canAll 117 = .ok (.aload_n 0, 1) := by decide +kernel
theorem dX10_canAll_118 : decode cX10_canAll 118 = .ok (.getfield 34, 3) := by decide +kernel
theorem dX10_canAll_121 : decode cX10_canAll 121 = .ok (.bipush 6, 2) := by decide +kernel
theorem dX10_canAll_123 : decode cX10_canAll 123 = .ok (.iload_n 2, 1) := by decide +kernel
theorem dX10_canAll_124 : decode cX10_canAll 124 = .ok (.imul, 1) := by decide +kernel
theorem dX10_canAll_125 : decode cX10_canAll 125 = .ok (.iload_n 3, 1) := by decide +kernel
theorem dX10_canAll_126 : decode cX10_canAll 126 = .ok (.iadd, 1) := by decide +kernel
theorem dX10_canAll_127 : decode cX10_canAll 127 = .ok (.iconst 0, 1) := by decide +kernel
theorem dX10_canAll_128 : decode cX10_canAll 128 = .ok (.iastore, 1) := by decide +kernel
theorem dX10_canAll_129 : decode cX10_canAll 129 = .ok (.iload 4, 2) := by decide +kernel
theorem dX10_canAll_131 : decode cX10_canAll 131 = .ok (.ifCond .eq 5, 3) := by decide +kernel
theorem dX10_canAll_134 : decode cX10_canAll 134 = .ok (.iconst 1, 1) := by decide +kernel
theorem dX10_canAll_135 : decode cX10_canAll 135 = .ok (.ireturn, 1) := by decide +kernel
theorem dX10_canAll_136 : decode cX10_canAll 136 = .ok (.iinc 3 1, 3) := by decide +kernel
theorem dX10_canAll_139 : decode cX10_canAll 139 = .ok (.goto (-68), 3) := by decide +kernel
theorem dX10_canAll_142 : decode cX10_canAll 142 = .ok (.iconst 0, 1) := by decide +kernel
theorem dX10_canAll_143 : decode cX10_canAll 143 = .ok (.ireturn, 1) := by decide +kernel
theorem dX10_must_0 : decode cX10_must 0 = .ok (.iconst 0, 1) := by decide +kernel
theorem dX10_must_1 : decode cX10_must 1 = .ok (.istore_n 1, 1) := by decide +kernel
theorem dX10_must_2 : decode cX10_must 2 = .ok (.iconst 0, 1) := by decide +kernel
theorem dX10_must_3 : decode cX10_must 3 = .ok (.istore_n 2, 1) := by decide +kernel
theorem dX10_must_4 : decode cX10_must 4 = .ok (.iload_n 2, 1) := by decide +kernel
theorem dX10_must_5 : decode cX10_must 5 = .ok (.aload_n 0, 1) := by decide +kernel
theorem dX10_must_6 : decode cX10_must 6 = .ok (.getfield 13, 3) := by decide +kernel
theorem dX10_must_9 : decode cX10_must 9 = .ok (.iconst 2, 1) := by decide +kernel
theorem dX10_must_10 : decode cX10_must 10 = .ok (.iaload, 1) := by decide +kernel
theorem dX10_must_11 : decode cX10_must 11 = .ok (.if_icmp .ge 29, 3) := by decide +kernel
theorem dX10_must_14 : decode cX10_must 14 = .ok (.iload_n 1, 1) := by decide +kernel
theorem dX10_must_15 : decode cX10_must 15 = .ok (.ifCond .ne 13, 3) := by decide +kernel
theorem dX10_must_18 : decode cX10_must 18 = .ok (.aload_n 0, 1) := by decide +kernel
theorem dX10_must_19 : decode cX10_must 19 = .ok (.iload_n 2, 1) := by decide +kernel
theorem dX10_must_20 : decode cX10_must 20 = .ok (.iconst 0, 1) := by decide +kernel
theorem dX10_must_21 : decode cX10_must 21 = .ok (.invokevirtual 118, 3) := by decide +kernel
theorem dX10_must_24 : decode cX10_must 24 = .ok (.iconst 1, 1) := by decide +kernel
theorem dX10_must_25 : decode cX10_must 25 = .ok (.if_icmp .ne 7, 3) := by decide +kernel
theorem dX10_must_28 : decode cX10_must 28 = .ok (.iconst 1, 1) := by decide +kernel
theorem dX10_must_29 : decode cX10_must 29 = .ok (.goto 4, 3) := by decide +kernel
theorem dX10_must_32 : decode cX10_must 32 = .ok (.iconst 0, 1) := by decide +kernel
theorem dX10_must_33 : decode cX10_must 33 = .ok (.istore_n 1, 1) := by decide +kernel
theorem dX10_must_34 : decode cX10_must 34 = .ok (.iinc 2 1, 3) := by decide +kernel
theorem dX10_must_37 : decode cX10_must 37 = .ok (.goto (-33), 3) := by decide +kernel
theorem dX10_must_40 : decode cX10_must 40 = .ok (.iload_n 1, 1) := by decide +kernel
theorem dX10_must_41 : decode cX10_must 41 = .ok (.ifCond .ne 5, 3) := by decide +kernel
theorem dX10_must_44 : decode cX10_must 44 = .ok (.iconst 0, 1) := by decide +kernel
theorem dX10_must_45 : decode cX10_must 45 = .ok (.ireturn, 1) := by decide +kernel
theorem dX10_must_46 : decode cX10_must 46 = .ok (.iconst 0, 1) := by decide +kernel
theorem dX10_must_47 : decode cX10_must 47 = .ok (.istore_n 2, 1) := by decide +kernel
theorem dX10_must_48 : decode cX10_must 48 = .ok (.iload_n 2, 1) := by decide +kernel
theorem dX10_must_49 : decode cX10_must 49 = .ok (.bipush 36, 2) := by decide +kernel
theorem dX10_must_51 : decode cX10_must 51 = .ok (.if_icmp .ge 16, 3) := by decide +kernel
theorem dX10_must_54 : decode cX10_must 54 = .ok (.aload_n 0, 1) := by decide +kernel
theorem dX10_must_55 : decode cX10_must 55 = .ok (.getfield 34, 3) := by decide +kernel
theorem dX10_must_58 : decode cX10_must 58 = .ok (.iload_n 2, 1) := by decide +kernel
theorem dX10_must_59 : decode cX10_must 59 = .ok (.iconst 0, 1) := by decide +kernel
theorem dX10_must_60 : decode cX10_must 60 = .ok (.iastore, 1) := by decide +kernel
theorem dX10_must_61 : decode cX10_must 61 = .ok (.iinc 2 1, 3) := by decide +kernel
theorem dX10_must_64 : decode cX10_must 64 = .ok (.goto (-16), 3) := by decide +kernel
theorem dX10_must_67 : decode cX10_must 67 = .ok (.bipush (-9), 2) := by decide +kernel
theorem dX10_must_69 : decode cX10_must 69 = .ok (.istore_n 2, 1) := by decide +kernel
theorem dX10_must_70 : decode cX10_must 70 = .ok (.iconst 0, 1) := by decide +kernel
theorem dX10_must_71 : decode cX10_must 71 = .ok (.istore_n 3, 1) := by decide +kernel
theorem dX10_must_72 : decode cX10_must 72 = .ok (.iload_n 3, 1) := by decide +kernel
theorem dX10_must_73 : decode cX10_must 73 = .ok (.iconst 1, 1) := by decide +kernel
theorem dX10_must_74 : decode cX10_must 74 = .ok (.aload_n 0, 1) := by decide +kernel
theorem dX10_must_75 : decode cX10_must 75 = .ok (.getfield 13, 3) := by decide +kernel
theorem dX10_must_78 : decode cX10_must 78 = .ok (.iconst 1, 1) := by decide +kernel
theorem dX10_must_79 : decode cX10_must 79 = .ok (.iaload, 1) := by decide +kernel
theorem dX10_must_80 : decode cX10_must 80 = .ok (.ishl, 1) := by decide +kernel
theorem dX10_must_81 : decode cX10_must 81 = .ok (.if_icmp .ge 35, 3) := by decide +kernel
theorem dX10_must_84 : decode cX10_must 84 = .ok (.iload_n 2, 1) := by decide +kernel
theorem dX10_must_85 : decode cX10_must 85 = .ok (.ifCond .lt 14, 3) := by decide +kernel
theorem dX10_must_88 : decode cX10_must 88 = .ok (.iload_n 3, 1) := by decide +kernel
theorem dX10_must_89 : decode cX10_must 89 = .ok (.invokestatic 138, 3) := by decide +kernel
theorem dX10_must_92 : decode cX10_must 92 = .ok (.iload_n 2, 1) := by decide +kernel
theorem dX10_must_93 : decode cX10_must 93 = .ok (.invokestatic 138, 3) := by decide +kernel
theorem dX10_must_96 : decode cX10_must 96 = .ok (.if_icmp .ge 14, 3) := by decide +kernel
theorem dX10_must_99 : decode cX10_must 99 = .ok (.aload_n 0, 1) := by decide +kernel
theorem dX10_must_100 : decode cX10_must 100 = .ok (.iload_n 3, 1) := by decide +kernel
theorem dX10_must_101 : decode cX10_must 101 = .ok (.iconst 0, 1) := by decide +kernel
theorem dX10_must_102 : decode cX10_must 102 = .ok (.invokevirtual 224, 3) := by decide +kernel
theorem dX10_must_105 : decode cX10_must 105 = .ok (.ifCond .eq 5, 3) := by decide +kernel
theorem dX10_must_108 : decode cX10_must 108 = .ok (.iload_n 3, 1) := by decide +kernel
theorem dX10_must_109 : decode cX10_must 109 = .ok (.istore_n 2, 1) := by decide +kernel
theorem dX10_must_110 : decode cX10_must 110 = .ok (.iinc 3 1, 3) := by decide +kernel
theorem dX10_must_113 : decode cX10_must 113 = .ok (.goto (-41), 3) := by decide +kernel
theorem dX10_must_116 : decode cX10_must 116 = .ok (.iload_n 2, 1) := by decide +kernel
theorem dX10_must_117 : decode cX10_must 117 = .ok (.ireturn, 1) := by decide +kernel
theorem dX10_with_0 : decode cX10_with 0 = .ok (.aload_n 0, 1) := by decide +kernel
theorem dX10_with_1 : decode cX10_with 1 = .ok (.iload_n 1, 1) := by decide +kernel
theorem dX10_with_2 : decode cX10_with 2 = .ok (.invokevirtual 115, 3) := by decide +kernel
theorem dX10_with_5 : decode cX10_with 5 = .ok (.ifCond .ne 9, 3) := by decide +kernel
theorem dX10_with_8 : decode cX10_with 8 = .ok (.aload_n 0, 1) := by decide +kernel
theorem dX10_with_9 : decode cX10_with 9 = .ok (.iconst (-1), 1) := by decide +kernel
theorem dX10_with_10 : decode cX10_with 10 = .ok (.invokevirtual 62, 3) := by decide +kernel
theorem dX10_with_13 : decode cX10_with 13 = .ok (.ireturn, 1) := by decide +kernel
theorem dX10_with_14 : decode cX10_with 14 = .ok (.aload_n 0, 1) := by decide +kernel
theorem dX10_with_15 : decode cX10_with 15 = .ok (.iload_n 1, 1) := by decide +kernel
theorem dX10_with_16 : decode cX10_with 16 = .ok (.iconst 0, 1) := by decide +kernel
theorem dX10_with_17 : decode cX10_with 17 = .ok (.invokevirtual 118, 3) := by decide +kernel
theorem dX10_with_20 : decode cX10_with 20 = .ok (.iconst 3, 1) := by decide +kernel
theorem dX10_with_21 : decode cX10_with 21 = .ok (.if_icmp .eq 10, 3) := by decide +kernel
theorem dX10_with_24 : decode cX10_with 24 = .ok (.aload_n 0, 1) := by decide +kernel
theorem dX10_with_25 : decode cX10_with 25 = .ok (.bipush (-2), 2) := by decide +kernel
theorem dX10_with_27 : decode cX10_with 27 = .ok (.invokevirtual 62, 3) := by decide +kernel
theorem dX10_with_30 : decode cX10_with 30 = .ok (.ireturn, 1) := by decide +kernel
theorem dX10_with_31 : decode cX10_with 31 = .ok (.bipush (-9), 2) := by decide +kernel
theorem dX10_with_33 : decode cX10_with 33 = .ok (.istore_n 2, 1) := by decide +kernel
theorem dX10_with_34 : decode cX10_with 34 = .ok (.iconst 0, 1) := by decide +kernel
theorem dX10_with_35 : decode cX10_with 35 = .ok (.istore_n 3, 1) := by decide +kernel
theorem dX10_with_36 : decode cX10_with 36 = .ok (.iconst 1, 1) := by decide +kernel
theorem dX10_with_37 : decode cX10_with 37 = .ok (.istore 4, 2) := by decide +kernel
theorem dX10_with_39 : decode cX10_with 39 = .ok (.iconst 0, 1) := by decide +kernel
theorem dX10_with_40 : decode cX10_with 40 = .ok (.istore 5, 2) := by decide +kernel
theorem dX10_with_42 : decode cX10_with 42 = .ok (.iload 5, 2) := by decide +kernel
theorem dX10_with_44 : decode cX10_with 44 = .ok (.aload_n 0, 1) := by decide +kernel
theorem dX10_with_45 : decode cX10_with 45 = .ok (.getfield 13, 3) := by decide +kernel
theorem dX10_with_48 : decode cX10_with 48 = .ok (.iconst 1, 1) := by decide +kernel
theorem dX10_with_49 : decode cX10_with 49 = .ok (.iaload, 1) := by decide +kernel
theorem dX10_with_50 : decode cX10_with 50 = .ok (.if_icmp .ge 109, 3) := by decide +kernel
theorem dX10_with_53 : decode cX10_with 53 = .ok (.iload 5, 2) := by decide +kernel
theorem dX10_with_55 : decode cX10_with 55 = .ok (.iconst 1, 1) := by decide +kernel
theorem dX10_with_56 : decode cX10_with 56 = .ok (.iadd, 1) := by decide +kernel
theorem dX10_with_57 : decode cX10_with 57 = .ok (.istore 6, 2) := by decide +kernel
theorem dX10_with_59 : decode cX10_with 59 = .ok (.iload 6, 2) := by decide +kernel
theorem dX10_with_61 : decode cX10_with 61 = .ok (.aload_n 0, 1) := by decide +kernel
theorem dX10_with_62 : decode cX10_with 62 = .ok (.getfield 13, 3) := by decide +kernel
theorem dX10_with_65 : decode cX10_with 65 = .ok (.iconst 1, 1) := by decide +kernel
theorem dX10_with_66 : decode cX10_with 66 = .ok (.iaload, 1) := by decide +kernel
theorem dX10_with_67 : decode cX10_with 67 = .ok (.if_icmp .ge 86, 3) := by decide +kernel
theorem dX10_with_70 : decode cX10_with 70 = .ok (.aload_n 0, 1) := by decide +kernel
theorem dX10_with_71 : decode cX10_with 71 = .ok (.invokevirtual 151, 3) := by decide +kernel
theorem dX10_with_74 : decode cX10_with 74 = .ok (.aload_n 0, 1) := by decide +kernel
theorem dX10_with_75 : decode cX10_with 75 = .ok (.iconst 3, 1) := by decide +kernel
theorem dX10_with_76 : decode cX10_with 76 = .ok (.iload 5, 2) := by decide +kernel
theorem dX10_with_78 : decode cX10_with 78 = .ok (.bipush 12, 2) := by decide +kernel
theorem dX10_with_80 : decode cX10_with 80 = .ok (.iconst 0, 1) := by decide +kernel
theorem dX10_with_81 : decode cX10_with 81 = .ok (.invokevirtual 154, 3) := by decide +kernel
theorem dX10_with_84 : decode cX10_with 84 = .ok (.aload_n 0, 1) := by decide +kernel
theorem dX10_with_85 : decode cX10_with 85 = .ok (.iconst 3, 1) := by decide +kernel
theorem dX10_with_86 : decode cX10_with 86 = .ok (.iload 6, 2) := by decide +kernel
theorem dX10_with_88 : decode cX10_with 88 = .ok (.bipush 12, 2) := by decide +kernel
theorem dX10_with_90 : decode cX10_with 90 = .ok (.iconst 0, 1) := by decide +kernel
theorem dX10_with_91 : decode cX10_with 91 = .ok (.invokevirtual 154, 3) := by decide +kernel
theorem dX10_with_94 : decode cX10_with 94 = .ok (.aload_n 0, 1) := by decide +kernel
theorem dX10_with_95 : decode cX10_with 95 = .ok (.iload_n 1, 1) := by decide +kernel
theorem dX10_with_96 : decode cX10_with 96 = .ok (.invokevirtual 171, 3) := by decide +kernel
theorem dX10_with_99 : decode cX10_with 99 = .ok (.iload_n 2, 1) := by decide +kernel
theorem dX10_with_100 : decode cX10_with 100 = .ok (.ifCond .lt 27, 3) := by decide +kernel
theorem dX10_with_103 : decode cX10_with 103 = .ok (.aload_n 0, 1) := by decide +kernel
theorem dX10_with_104 : decode cX10_with 104 = .ok (.getfield 165, 3) := by decide +kernel
theorem dX10_with_107 : decode cX10_with 107 = .ok (.i2l, 1) := by decide +kernel
theorem dX10_with_108 : decode cX10_with 108 = .ok (.iload 4, 2) := by decide +kernel
theorem dX10_with_110 : decode cX10_with 110 = .ok (.i2l, 1) := by decide +kernel
theorem dX10_with_111 : decode cX10_with 111 = .ok (.lmul, 1) := by decide +kernel
theorem dX10_with_112 : decode cX10_with 112 = .ok (.iload_n 3, 1) := by decide +kernel
theorem dX10_with_113 : decode cX10_with 113 = .ok (.i2l, 1) := by decide +kernel
theorem dX10_with_114 : decode cX10_with 114 = .ok (.aload_n 0, 1) := by decide +kernel
theorem dX10_with_115 : decode cX10_with 115 = .ok (.getfield 168, 3) := by decide +kernel
theorem dX10_with_118 : decode cX10_with 118 = .ok (.i2l, 1) := by decide +kernel
theorem dX10_with_119 : decode cX10_with 119 = .ok (.lmul, 1) := by decide +kernel
theorem dX10_with_120 : decode cX10_with 120 = .ok (.lcmp, 1) := by decide +kernel
theorem dX10_with_121 : decode cX10_with 121 = .ok (.ifCond .gt 6, 3) := by decide +kernel
theorem dX10_with_124 : decode cX10_with 124 = .ok (.goto 23, 3) := by decide +kernel
theorem dX10_with_127 : decode cX10_with 127 = .ok (.bipush 10, 2) := by decide +kernel
theorem dX10_with_129 : decode cX10_with 129 = .ok (.iload 5, 2) := by decide +kernel
theorem dX10_with_131 : decode cX10_with 131 = .ok (.imul, 1) := by decide +kernel
theorem dX10_with_132 : decode cX10_with 132 = .ok (.iload 6, 2) := by decide +kernel
theorem dX10_with_134 : decode cX10_with 134 = .ok (.iadd, 1) := by decide +kernel
theorem dX10_with_135 : decode cX10_with 135 = .ok (.istore_n 2, 1) := by decide +kernel
theorem dX10_with_136 : decode cX10_with 136 = .ok (.aload_n 0, 1) := by decide +kernel
theorem dX10_with_137 : decode cX10_with 137 = .ok (.getfield 165, 3) := by decide +kernel
theorem dX10_with_140 : decode cX10_with 140 = .ok (.istore_n 3, 1) := by decide +kernel
theorem dX10_with_141 : decode cX10_with 141 = .ok (.aload_n 0, 1) := by decide +kernel
theorem dX10_with_142 : decode cX10_with 142 = .ok (.getfield 168, 3) := by decide +kernel
theorem dX10_with_145 : decode cX10_with 145 = .ok (.istore 4, 2) := by decide +kernel
theorem dX10_with_147 : decode cX10_with 147 = .ok (.iinc 6 1, 3) := by decide +kernel
theorem dX10_with_150 : decode cX10_with 150 = .ok (.goto (-91), 3) := by decide +kernel
theorem dX10_with_153 : decode cX10_with 153 = .ok (.iinc 5 1, 3) := by decide +kernel
theorem dX10_with_156 : decode cX10_with 156 = .ok (.goto (-114), 3) := by decide +kernel
theorem dX10_with_159 : decode cX10_with 159 = .ok (.iload_n 2, 1) := by decide +kernel
theorem dX10_with_160 : decode cX10_with 160 = .ok (.ireturn, 1) := by decide +kernel
theorem dX10_thin_0 : decode cX10_thin 0 = .ok (.aload_n 0, 1) := by decide +kernel
theorem dX10_thin_1 : decode cX10_thin 1 = .ok (.iload_n 1, 1) := by decide +kernel
theorem dX10_thin_2 : decode cX10_thin 2 = .ok (.invokevirtual 103, 3) := by decide +kernel
theorem dX10_thin_5 : decode cX10_thin 5 = .ok (.ifCond .eq 15, 3) := by decide +kernel
theorem dX10_thin_8 : decode cX10_thin 8 = .ok (.bipush 12, 2) := by decide +kernel
theorem dX10_thin_10 : decode cX10_thin 10 = .ok (.aload_n 0, 1) := by decide +kernel
theorem dX10_thin_11 : decode cX10_thin 11 = .ok (.iload_n 1, 1) := by decide +kernel
theorem dX10_thin_12 : decode cX10_thin 12 = .ok (.iconst 3, 1) := by decide +kernel
theorem dX10_thin_13 : decode cX10_thin 13 = .ok (.invokevirtual 106, 3) := by decide +kernel
theorem dX10_thin_16 : decode cX10_thin 16 = .ok (.idiv, 1) := by decide +kernel
theorem dX10_thin_17 : decode cX10_thin 17 = .ok (.goto 8, 3) := by decide +kernel
theorem dX10_thin_20 : decode cX10_thin 20 = .ok (.aload_n 0, 1) := by decide +kernel
theorem dX10_thin_21 : decode cX10_thin 21 = .ok (.iconst (-1), 1) := by decide +kernel
theorem dX10_thin_22 : decode cX10_thin 22 = .ok (.invokevirtual 62, 3) := by decide +kernel
theorem dX10_thin_25 : decode cX10_thin 25 = .ok (.ireturn, 1) := by decide +kernel
theorem dX10_few_0 : decode cX10_few 0 = .ok (.aload_n 0, 1) := by decide +kernel
theorem dX10_few_1 : decode cX10_few 1 = .ok (.iload_n 1, 1) := by decide +kernel
theorem dX10_few_2 : decode cX10_few 2 = .ok (.invokevirtual 103, 3) := by decide +kernel
theorem dX10_few_5 : decode cX10_few 5 = .ok (.ifCond .eq 11, 3) := by decide +kernel
theorem dX10_few_8 : decode cX10_few 8 = .ok (.aload_n 0, 1) := by decide +kernel
theorem dX10_few_9 : decode cX10_few 9 = .ok (.iload_n 2, 1) := by decide +kernel
theorem dX10_few_10 : decode cX10_few 10 = .ok (.invokevirtual 115, 3) := by decide +kernel
theorem dX10_few_13 : decode cX10_few 13 = .ok (.ifCond .ne 9, 3) := by decide +kernel
theorem dX10_few_16 : decode cX10_few 16 = .ok (.aload_n 0, 1) := by decide +kernel
theorem dX10_few_17 : decode cX10_few 17 = .ok (.iconst (-1), 1) := by decide +kernel
theorem dX10_few_18 : decode cX10_few 18 = .ok (.invokevirtual 62, 3) := by decide +kernel
theorem dX10_few_21 : decode cX10_few 21 = .ok (.ireturn, 1) := by decide +kernel
theorem dX10_few_22 : decode cX10_few 22 = .ok (.aload_n 0, 1) := by decide +kernel
theorem dX10_few_23 : decode cX10_few 23 = .ok (.iload_n 2, 1) := by decide +kernel
theorem dX10_few_24 : decode cX10_few 24 = .ok (.iconst 0, 1) := by decide +kernel
theorem dX10_few_25 : decode cX10_few 25 = .ok (.invokevirtual 118, 3) := by decide +kernel
theorem dX10_few_28 : decode cX10_few 28 = .ok (.ifCond .eq 10, 3) := by decide +kernel
theorem dX10_few_31 : decode cX10_few 31 = .ok (.aload_n 0, 1) := by decide +kernel
theorem dX10_few_32 : decode cX10_few 32 = .ok (.bipush (-2), 2) := by decide +kernel
theorem dX10_few_34 : decode cX10_few 34 = .ok (.invokevirtual 62, 3) := by decide +kernel
theorem dX10_few_37 : decode cX10_few 37 = .ok (.ireturn, 1) := by decide +kernel
theorem dX10_few_38 : decode cX10_few 38 = .ok (.aload_n 0, 1) := by decide +kernel
theorem dX10_few_39 : decode cX10_few 39 = .ok (.iload_n 1, 1) := by decide +kernel
theorem dX10_few_40 : decode cX10_few 40 = .ok (.iconst 3, 1) := by decide +kernel
theorem dX10_few_41 : decode cX10_few 41 = .ok (.invokevirtual 106, 3) := by decide +kernel
theorem dX10_few_44 : decode cX10_few 44 = .ok (.istore_n 3, 1) := by decide +kernel
theorem dX10_few_45 : decode cX10_few 45 = .ok (.iload_n 3, 1) := by decide +kernel
theorem dX10_few_46 : decode cX10_few 46 = .ok (.bipush 12, 2) := by decide +kernel
theorem dX10_few_48 : decode cX10_few 48 = .ok (.if_icmp .gt 31, 3) := by decide +kernel
theorem dX10_few_51 : decode cX10_few 51 = .ok (.aload_n 0, 1) := by decide +kernel
theorem dX10_few_52 : decode cX10_few 52 = .ok (.invokevirtual 151, 3) := by decide +kernel
theorem dX10_few_55 : decode cX10_few 55 = .ok (.aload_n 0, 1) := by decide +kernel
theorem dX10_few_56 : decode cX10_few 56 = .ok (.iconst 0, 1) := by decide +kernel
theorem dX10_few_57 : decode cX10_few 57 = .ok (.iload_n 1, 1) := by decide +kernel
theorem dX10_few_58 : decode cX10_few 58 = .ok (.iload_n 3, 1) := by decide +kernel
theorem dX10_few_59 : decode cX10_few 59 = .ok (.iconst 0, 1) := by decide +kernel
theorem dX10_few_60 : decode cX10_few 60 = .ok (.invokevirtual 154, 3) := by decide +kernel
theorem dX10_few_63 : decode cX10_few 63 = .ok (.aload_n 0, 1) := by decide +kernel
theorem dX10_few_64 : decode cX10_few 64 = .ok (.iload_n 2, 1) := by decide +kernel
theorem dX10_few_65 : decode cX10_few 65 = .ok (.invokevirtual 180, 3) := by decide +kernel
theorem dX10_few_68 : decode cX10_few 68 = .ok (.ifCond .eq 5, 3) := by decide +kernel
theorem dX10_few_71 : decode cX10_few 71 = .ok (.iload_n 3, 1) := by decide +kernel
theorem dX10_few_72 : decode cX10_few 72 = .ok (.ireturn, 1) := by decide +kernel
theorem dX10_few_73 : decode cX10_few 73 = .ok (.iinc 3 1, 3) := by decide +kernel
theorem dX10_few_76 : decode cX10_few 76 = .ok (.goto (-31), 3) := by decide +kernel
theorem dX10_few_79 : decode cX10_few 79 = .ok (.bipush (-9), 2) := by decide +kernel
theorem dX10_few_81 : decode cX10_few 81 = .ok (.ireturn, 1) := by decide +kernel
theorem dX10_commonLong_0 : decode cX10_commonLong 0 = .ok (.lload_n 2, 1) := by decide +kernel
theorem dX10_commonLong_1 : decode cX10_commonLong 1 = .ok (.lconst 0, 1) := by decide +kernel
theorem dX10_commonLong_2 : decode cX10_commonLong 2 = .ok (.lcmp, 1) := by decide +kernel
theorem dX10_commonLong_3 : decode cX10_commonLong 3 = .ok (.ifCond .ne 7, 3) := by decide +kernel
theorem dX10_commonLong_6 : decode cX10_commonLong 6 = .ok (.lload_n 0, 1) := by decide +kernel
theorem dX10_commonLong_7 : decode cX10_commonLong 7 = .ok (.goto 10, 3) := by decide +kernel
theorem dX10_commonLong_10 : decode cX10_commonLong 10 = .ok (.lload_n 2, 1) := by decide +kernel
theorem dX10_commonLong_11 : decode cX10_commonLong 11 = .ok (.lload_n 0, 1) := by decide +kernel
theorem dX10_commonLong_12 : decode cX10_commonLong 12 = .ok (.lload_n 2, 1) := by decide +kernel
theorem dX10_commonLong_13 : decode cX10_commonLong 13 = .ok (.lrem, 1) := by decide +kernel
theorem dX10_commonLong_14 : decode cX10_commonLong 14 = .ok (.invokestatic 227, 3) := by decide +kernel
theorem dX10_commonLong_17 : decode cX10_commonLong 17 = .ok (.lreturn, 1) := by decide +kernel
theorem dX10_chance_0 : decode cX10_chance 0 = .ok (.aload_n 0, 1) := by decide +kernel
theorem dX10_chance_1 : decode cX10_chance 1 = .ok (.iload_n 1, 1) := by decide +kernel
theorem dX10_chance_2 : decode cX10_chance 2 = .ok (.invokevirtual 103, 3) := by decide +kernel
theorem dX10_chance_5 : decode cX10_chance 5 = .ok (.ifCond .ne 7, 3) := by decide +kernel
theorem dX10_chance_8 : decode cX10_chance 8 = .ok (.iconst (-1), 1) := by decide +kernel
theorem dX10_chance_9 : decode cX10_chance 9 = .ok (.goto 32, 3) := by decide +kernel
theorem dX10_chance_12 : decode cX10_chance 12 = .ok (.iload_n 3, 1) := by decide +kernel
theorem dX10_chance_13 : decode cX10_chance 13 = .ok (.iconst 2, 1) := by decide +kernel
theorem dX10_chance_14 : decode cX10_chance 14 = .ok (.invokestatic 46, 3) := by decide +kernel
theorem dX10_chance_17 : decode cX10_chance 17 = .ok (.ifCond .eq 12, 3) := by decide +kernel
theorem dX10_chance_20 : decode cX10_chance 20 = .ok (.iload 4, 2) := by decide +kernel
theorem dX10_chance_22 : decode cX10_chance 22 = .ok (.iconst 2, 1) := by decide +kernel
theorem dX10_chance_23 : decode cX10_chance 23 = .ok (.invokestatic 46, 3) := by decide +kernel
theorem dX10_chance_26 : decode cX10_chance 26 = .ok (.ifCond .ne 8, 3) := by decide +kernel
theorem dX10_chance_29 : decode cX10_chance 29 = .ok (.bipush (-2), 2) := by decide +kernel
theorem dX10_chance_31 : decode cX10_chance 31 = .ok (.goto 10, 3) := by decide +kernel
theorem dX10_chance_34 : decode cX10_chance 34 = .ok (.iload_n 2, 1) := by decide +kernel
theorem dX10_chance_35 : decode cX10_chance 35 = .ok (.iconst 0, 1) := by decide +kernel
theorem dX10_chance_36 : decode cX10_chance 36 = .ok (.bipush 100, 2) := by decide +kernel
theorem dX10_chance_38 : decode cX10_chance 38 = .ok (.invokestatic 54, 3) := by decide +kernel
theorem dX10_chance_41 : decode cX10_chance 41 = .ok (.istore 5, 2) := by decide +kernel
theorem dX10_chance_43 : decode cX10_chance 43 = .ok (.iconst 0, 1) := by decide +kernel
theorem dX10_chance_44 : decode cX10_chance 44 = .ok (.istore 6, 2) := by decide +kernel
theorem dX10_chance_46 : decode cX10_chance 46 = .ok (.iconst 0, 1) := by decide +kernel
theorem dX10_chance_47 : decode cX10_chance 47 = .ok (.istore 7, 2) := by decide +kernel
theorem dX10_chance_49 : decode cX10_chance 49 = .ok (.iconst 0, 1) := by decide +kernel
theorem dX10_chance_50 : decode cX10_chance 50 = .ok (.istore 8, 2) := by decide +kernel
theorem dX10_chance_52 : decode cX10_chance 52 = .ok (.iconst 0, 1) := by decide +kernel
theorem dX10_chance_53 : decode cX10_chance 53 = .ok (.istore 9, 2) := by decide +kernel
theorem dX10_chance_55 : decode cX10_chance 55 = .ok (.iload 9, 2) := by decide +kernel
theorem dX10_chance_57 : decode cX10_chance 57 = .ok (.bipush 24, 2) := by decide +kernel
theorem dX10_chance_59 : decode cX10_chance 59 = .ok (.if_icmp .ge 104, 3) := by decide +kernel
theorem dX10_chance_62 : decode cX10_chance 62 = .ok (.iload 5, 2) := by decide +kernel
theorem dX10_chance_64 : decode cX10_chance 64 = .ok (.ifCond .ne 99, 3) := by decide +kernel
theorem dX10_chance_67 : decode cX10_chance 67 = .ok (.aload_n 0, 1) := by decide +kernel
theorem dX10_chance_68 : decode cX10_chance 68 = .ok (.iload 9, 2) := by decide +kernel
theorem dX10_chance_70 : decode cX10_chance 70 = .ok (.iconst 0, 1) := by decide +kernel
theorem dX10_chance_71 : decode cX10_chance 71 = .ok (.invokevirtual 50, 3) := by decide +kernel
theorem dX10_chance_74 : decode cX10_chance 74 = .ok (.iload_n 1, 1) := by decide +kernel
theorem dX10_chance_75 : decode cX10_chance 75 = .ok (.iconst 1, 1) := by decide +kernel
theorem dX10_chance_76 : decode cX10_chance 76 = .ok (.iadd, 1) := by decide +kernel
theorem dX10_chance_77 : decode cX10_chance 77 = .ok (.if_icmp .eq 6, 3) := by decide +kernel
theorem dX10_chance_80 : decode cX10_chance 80 = .ok (.goto 77, 3) := by decide +kernel
theorem dX10_chance_83 : decode cX10_chance 83 = .ok (.aload_n 0, 1) := by decide +kernel
theorem dX10_chance_84 : decode cX10_chance 84 = .ok (.iload 9, 2) := by decide +kernel
theorem dX10_chance_86 : decode cX10_chance 86 = .ok (.iconst 2, 1) := by decide +kernel
theorem dX10_chance_87 : decode cX10_chance 87 = .ok (.invokevirtual 50, 3) := by decide +kernel
theorem dX10_chance_90 : decode cX10_chance 90 = .ok (.ifCond .ne 7, 3) := by decide +kernel
theorem dX10_chance_93 : decode cX10_chance 93 = .ok (.iconst 1, 1) := by decide +kernel
theorem dX10_chance_94 : decode cX10_chance 94 = .ok (.goto 4, 3) := by decide +kernel
theorem dX10_chance_97 : decode cX10_chance 97 = .ok (.iconst 0, 1) := by decide +kernel
theorem dX10_chance_98 : decode cX10_chance 98 = .ok (.istore 10, 2) := by decide +kernel
theorem dX10_chance_100 : decode cX10_chance 100 = .ok (.iload 6, 2) := by decide +kernel
theorem dX10_chance_102 : decode cX10_chance 102 = .ok (.iload 10, 2) := by decide +kernel
theorem dX10_chance_104 : decode cX10_chance 104 = .ok (.ifCond .eq 13, 3) := by decide +kernel
theorem dX10_chance_107 : decode cX10_chance 107 = .ok (.aload_n 0, 1) := by decide +kernel
theorem dX10_chance_108 : decode cX10_chance 108 = .ok (.iload 9, 2) := by decide +kernel
theorem dX10_chance_110 : decode cX10_chance 110 = .ok (.iconst 1, 1) := by decide +kernel
theorem dX10_chance_111 : decode cX10_chance 111 = .ok (.invokevirtual 50, 3) := by decide +kernel
theorem dX10_chance_114 : decode cX10_chance 114 = .ok (.goto 4, 3) := by decide +kernel
theorem dX10_chance_117 : decode cX10_chance 117 = .ok (.iconst 0, 1) := by decide +kernel
theorem dX10_chance_118 : decode cX10_chance 118 = .ok (.iadd, 1) := by decide +kernel
theorem dX10_chance_119 : decode cX10_chance 119 = .ok (.istore 6, 2) := by decide +kernel
theorem dX10_chance_121 : decode cX10_chance 121 = .ok (.iload 7, 2) := by decide +kernel
theorem dX10_chance_123 : decode cX10_chance 123 = .ok (.iload 10, 2) := by decide +kernel
theorem dX10_chance_125 : decode cX10_chance 125 = .ok (.ifCond .eq 7, 3) := by decide +kernel
theorem dX10_chance_128 : decode cX10_chance 128 = .ok (.iconst 0, 1) := by decide +kernel
theorem dX10_chance_129 : decode cX10_chance 129 = .ok (.goto 10, 3) := by decide +kernel
theorem dX10_chance_132 : decode cX10_chance 132 = .ok (.aload_n 0, 1) := by decide +kernel
theorem dX10_chance_133 : decode cX10_chance 133 = .ok (.iload 9, 2) := by decide +kernel
theorem dX10_chance_135 : decode cX10_chance 135 = .ok (.iconst 1, 1) := by decide +kernel
theorem dX10_chance_136 : decode cX10_chance 136 = .ok (.invokevirtual 50, 3) := by decide +kernel
theorem dX10_chance_139 : decode cX10_chance 139 = .ok (.iadd, 1) := by decide +kernel
theorem dX10_chance_140 : decode cX10_chance 140 = .ok (.istore 7, 2) := by decide +kernel
theorem dX10_chance_142 : decode cX10_chance 142 = .ok (.iload 8, 2) := by decide +kernel
theorem dX10_chance_144 : decode cX10_chance 144 = .ok (.iload 10, 2) := by decide +kernel
theorem dX10_chance_146 : decode cX10_chance 146 = .ok (.ifCond .eq 7, 3) := by decide +kernel
theorem dX10_chance_149 : decode cX10_chance 149 = .ok (.iconst 0, 1) := by decide +kernel
theorem dX10_chance_150 : decode cX10_chance 150 = .ok (.goto 4, 3) := by decide +kernel
theorem dX10_chance_153 : decode cX10_chance 153 = .ok (.iconst 1, 1) := by decide +kernel
theorem dX10_chance_154 : decode cX10_chance 154 = .ok (.iadd, 1) := by decide +kernel
theorem dX10_chance_155 : decode cX10_chance 155 = .ok (.istore 8, 2) := by decide +kernel
theorem dX10_chance_157 : decode cX10_chance 157 = .ok (.iinc 9 1, 3) := by decide +kernel
theorem dX10_chance_160 : decode cX10_chance 160 = .ok (.goto (-105), 3) := by decide +kernel
theorem dX10_chance_163 : decode cX10_chance 163 = .ok (.iload 5, 2) := by decide +kernel
theorem dX10_chance_165 : decode cX10_chance 165 = .ok (.ifCond .ne 31, 3) := by decide +kernel
theorem dX10_chance_168 : decode cX10_chance 168 = .ok (.iload 8, 2) := by decide +kernel
theorem dX10_chance_170 : decode cX10_chance 170 = .ok (.bipush 9, 2) := by decide +kernel
theorem dX10_chance_172 : decode cX10_chance 172 = .ok (.if_icmp .le 8, 3) := by decide +kernel
theorem dX10_chance_175 : decode cX10_chance 175 = .ok (.bipush (-6), 2) := by decide +kernel
theorem dX10_chance_177 : decode cX10_chance 177 = .ok (.goto 17, 3) := by decide +kernel
theorem dX10_chance_180 : decode cX10_chance 180 = .ok (.iload 6, 2) := by decide +kernel
theorem dX10_chance_182 : decode cX10_chance 182 = .ok (.iload 7, 2) := by decide +kernel
theorem dX10_chance_184 : decode cX10_chance 184 = .ok (.iadd, 1) := by decide +kernel
theorem dX10_chance_185 : decode cX10_chance 185 = .ok (.ifCond .ne 8, 3) := by decide +kernel
theorem dX10_chance_188 : decode cX10_chance 188 = .ok (.bipush (-3), 2) := by decide +kernel
theorem dX10_chance_190 : decode cX10_chance 190 = .ok (.goto 4, 3) := by decide +kernel
theorem dX10_chance_193 : decode cX10_chance 193 = .ok (.iconst 0, 1) := by decide +kernel
theorem dX10_chance_194 : decode cX10_chance 194 = .ok (.istore 5, 2) := by decide +kernel
theorem dX10_chance_196 : decode cX10_chance 196 = .ok (.iload 5, 2) := by decide +kernel
theorem dX10_chance_198 : decode cX10_chance 198 = .ok (.ifCond .eq 15, 3) := by decide +kernel
theorem dX10_chance_201 : decode cX10_chance 201 = .ok (.ldc2_w 231, 3) := by decide +kernel
theorem dX10_chance_204 : decode cX10_chance 204 = .ok (.aload_n 0, 1) := by decide +kernel
theorem dX10_chance_205 : decode cX10_chance 205 = .ok (.iload 5, 2) := by decide +kernel
theorem dX10_chance_207 : decode cX10_chance 207 = .ok (.invokevirtual 62, 3) := by decide +kernel
theorem dX10_chance_210 : decode cX10_chance 210 = .ok (.i2l, 1) := by decide +kernel
theorem dX10_chance_211 : decode cX10_chance 211 = .ok (.lsub, 1) := by decide +kernel
theorem dX10_chance_212 : decode cX10_chance 212 = .ok (.lreturn, 1) := by decide +kernel
theorem dX10_chance_213 : decode cX10_chance 213 = .ok (.iload_n 3, 1) := by decide +kernel
theorem dX10_chance_214 : decode cX10_chance 214 = .ok (.ifCond .ne 23, 3) := by decide +kernel
theorem dX10_chance_217 : decode cX10_chance 217 = .ok (.ldc2_w 233, 3) := by decide +kernel
theorem dX10_chance_220 : decode cX10_chance 220 = .ok (.iload 6, 2) := by decide +kernel
theorem dX10_chance_222 : decode cX10_chance 222 = .ok (.i2l, 1) := by decide +kernel
theorem dX10_chance_223 : decode cX10_chance 223 = .ok (.lmul, 1) := by decide +kernel
theorem dX10_chance_224 : decode cX10_chance 224 = .ok (.iload 7, 2) := by decide +kernel
theorem dX10_chance_226 : decode cX10_chance 226 = .ok (.i2l, 1) := by decide +kernel
theorem dX10_chance_227 : decode cX10_chance 227 = .ok (.bipush 100, 2) := by decide +kernel
theorem dX10_chance_229 : decode cX10_chance 229 = .ok (.iload_n 2, 1) := by decide +kernel
theorem dX10_chance_230 : decode cX10_chance 230 = .ok (.isub, 1) := by decide +kernel
theorem dX10_chance_231 : decode cX10_chance 231 = .ok (.i2l, 1) := by decide +kernel
theorem dX10_chance_232 : decode cX10_chance 232 = .ok (.lmul, 1) := by decide +kernel
theorem dX10_chance_233 : decode cX10_chance 233 = .ok (.ladd, 1) := by decide +kernel
theorem dX10_chance_234 : decode cX10_chance 234 = .ok (.goto 4, 3) := by decide +kernel
theorem dX10_chance_237 : decode cX10_chance 237 = .ok (.lconst 1, 1) := by decide +kernel
theorem dX10_chance_238 : decode cX10_chance 238 = .ok (.lstore 9, 2) := by decide +kernel
theorem dX10_chance_240 : decode cX10_chance 240 = .ok (.iload_n 3, 1) := by decide +kernel
theorem dX10_chance_241 : decode cX10_chance 241 = .ok (.ifCond .ne 9, 3) := by decide +kernel
theorem dX10_chance_244 : decode cX10_chance 244 = .ok (.ldc2_w 233, 3) := by decide +kernel
theorem dX10_chance_247 : decode cX10_chance 247 = .ok (.goto 4, 3) := by decide +kernel
theorem dX10_chance_250 : decode cX10_chance 250 = .ok (.lconst 1, 1) := by decide +kernel
theorem dX10_chance_251 : decode cX10_chance 251 = .ok (.lstore 11, 2) := by decide +kernel
theorem dX10_chance_253 : decode cX10_chance 253 = .ok (.iconst 0, 1) := by decide +kernel
theorem dX10_chance_254 : decode cX10_chance 254 = .ok (.istore 13, 2) := by decide +kernel
theorem dX10_chance_256 : decode cX10_chance 256 = .ok (.iload 13, 2) := by decide +kernel
theorem dX10_chance_258 : decode cX10_chance 258 = .ok (.iload 8, 2) := by decide +kernel
theorem dX10_chance_260 : decode cX10_chance 260 = .ok (.if_icmp .ge 55, 3) := by decide +kernel
theorem dX10_chance_263 : decode cX10_chance 263 = .ok (.iload_n 3, 1) := by decide +kernel
theorem dX10_chance_264 : decode cX10_chance 264 = .ok (.iconst 1, 1) := by decide +kernel
theorem dX10_chance_265 : decode cX10_chance 265 = .ok (.if_icmp .ne 50, 3) := by decide +kernel
theorem dX10_chance_268 : decode cX10_chance 268 = .ok (.lload 9, 2) := by decide +kernel
theorem dX10_chance_270 : decode cX10_chance 270 = .ok (.bipush 100, 2) := by decide +kernel
theorem dX10_chance_272 : decode cX10_chance 272 = .ok (.iload_n 2, 1) := by decide +kernel
theorem dX10_chance_273 : decode cX10_chance 273 = .ok (.isub, 1) := by decide +kernel
theorem dX10_chance_274 : decode cX10_chance 274 = .ok (.i2l, 1) := by decide +kernel
theorem dX10_chance_275 : decode cX10_chance 275 = .ok (.lmul, 1) := by decide +kernel
theorem dX10_chance_276 : decode cX10_chance 276 = .ok (.lstore 9, 2) := by decide +kernel
theorem dX10_chance_278 : decode cX10_chance 278 = .ok (.lload 11, 2) := by decide +kernel
theorem dX10_chance_280 : decode cX10_chance 280 = .ok (.ldc2_w 233, 3) := by decide +kernel
theorem dX10_chance_283 : decode cX10_chance 283 = .ok (.lmul, 1) := by decide +kernel
theorem dX10_chance_284 : decode cX10_chance 284 = .ok (.lstore 11, 2) := by decide +kernel
theorem dX10_chance_286 : decode cX10_chance 286 = .ok (.lload 11, 2) := by decide +kernel
theorem dX10_chance_288 : decode cX10_chance 288 = .ok (.lload 9, 2) := by decide +kernel
theorem dX10_chance_290 : decode cX10_chance 290 = .ok (.invokestatic 227, 3) := by decide +kernel
theorem dX10_chance_293 : decode cX10_chance 293 = .ok (.lstore 14, 2) := by decide +kernel
theorem dX10_chance_295 : decode cX10_chance 295 = .ok (.lload 9, 2) := by decide +kernel
theorem dX10_chance_297 : decode cX10_chance 297 = .ok (.lload 14, 2) := by decide +kernel
theorem dX10_chance_299 : decode cX10_chance 299 = .ok (.ldiv, 1) := by decide +kernel
theorem dX10_chance_300 : decode cX10_chance 300 = .ok (.lstore 9, 2) := by decide +kernel
theorem dX10_chance_302 : decode cX10_chance 302 = .ok (.lload 11, 2) := by decide +kernel
theorem dX10_chance_304 : decode cX10_chance 304 = .ok (.lload 14, 2) := by decide +kernel
theorem dX10_chance_306 : decode cX10_chance 306 = .ok (.ldiv, 1) := by decide +kernel
theorem dX10_chance_307 : decode cX10_chance 307 = .ok (.lstore 11, 2) := by decide +kernel
theorem dX10_chance_309 : decode cX10_chance 309 = .ok (.iinc 13 1, 3) := by decide +kernel
theorem dX10_chance_312 : decode cX10_chance 312 = .ok (.goto (-56), 3) := by decide +kernel
theorem dX10_chance_315 : decode cX10_chance 315 = .ok (.lload 11, 2) := by decide +kernel
theorem dX10_chance_317 : decode cX10_chance 317 = .ok (.lload 9, 2) := by decide +kernel
theorem dX10_chance_319 : decode cX10_chance 319 = .ok (.invokestatic 227, 3) := by decide +kernel
theorem dX10_chance_322 : decode cX10_chance 322 = .ok (.lstore 13, 2) := by decide +kernel
theorem dX10_chance_324 : decode cX10_chance 324 = .ok (.iload 4, 2) := by decide +kernel
theorem dX10_chance_326 : decode cX10_chance 326 = .ok (.ifCond .ne 11, 3) := by decide +kernel
theorem dX10_chance_329 : decode cX10_chance 329 = .ok (.lload 9, 2) := by decide +kernel
theorem dX10_chance_331 : decode cX10_chance 331 = .ok (.lload 13, 2) := by decide +kernel
theorem dX10_chance_333 : decode cX10_chance 333 = .ok (.ldiv, 1) := by decide +kernel
theorem dX10_chance_334 : decode cX10_chance 334 = .ok (.goto 8, 3) := by decide +kernel
theorem dX10_chance_337 : decode cX10_chance 337 = .ok (.lload 11, 2) := by decide +kernel
theorem dX10_chance_339 : decode cX10_chance 339 = .ok (.lload 13, 2) := by decide +kernel
theorem dX10_chance_341 : decode cX10_chance 341 = .ok (.ldiv, 1) := by decide +kernel
theorem dX10_chance_342 : decode cX10_chance 342 = .ok (.lreturn, 1) := by decide +kernel
theorem dX10_together_0 : decode cX10_together 0 = .ok (.aload_n 0, 1) := by decide +kernel
theorem dX10_together_1 : decode cX10_together 1 = .ok (.iload_n 1, 1) := by decide +kernel
theorem dX10_together_2 : decode cX10_together 2 = .ok (.invokevirtual 103, 3) := by decide +kernel
theorem dX10_together_5 : decode cX10_together 5 = .ok (.ifCond .ne 7, 3) := by decide +kernel
theorem dX10_together_8 : decode cX10_together 8 = .ok (.iconst (-1), 1) := by decide +kernel
theorem dX10_together_9 : decode cX10_together 9 = .ok (.goto 30, 3) := by decide +kernel
theorem dX10_together_12 : decode cX10_together 12 = .ok (.iload_n 2, 1) := by decide +kernel
theorem dX10_together_13 : decode cX10_together 13 = .ok (.iconst 2, 1) := by decide +kernel
theorem dX10_together_14 : decode cX10_together 14 = .ok (.invokestatic 46, 3) := by decide +kernel
theorem dX10_together_17 : decode cX10_together 17 = .ok (.ifCond .ne 8, 3) := by decide +kernel
theorem dX10_together_20 : decode cX10_together 20 = .ok (.bipush (-2), 2) := by decide +kernel
theorem dX10_together_22 : decode cX10_together 22 = .ok (.goto 17, 3) := by decide +kernel
theorem dX10_together_25 : decode cX10_together 25 = .ok (.aload_n 0, 1) := by decide +kernel
theorem dX10_together_26 : decode cX10_together 26 = .ok (.iload_n 1, 1) := by decide +kernel
theorem dX10_together_27 : decode cX10_together 27 = .ok (.invokevirtual 112, 3) := by decide +kernel
theorem dX10_together_30 : decode cX10_together 30 = .ok (.ifCond .ne 8, 3) := by decide +kernel
theorem dX10_together_33 : decode cX10_together 33 = .ok (.bipush (-3), 2) := by decide +kernel
theorem dX10_together_35 : decode cX10_together 35 = .ok (.goto 4, 3) := by decide +kernel
theorem dX10_together_38 : decode cX10_together 38 = .ok (.iconst 0, 1) := by decide +kernel
theorem dX10_together_39 : decode cX10_together 39 = .ok (.istore_n 3, 1) := by decide +kernel
theorem dX10_together_40 : decode cX10_together 40 = .ok (.iload_n 3, 1) := by decide +kernel
theorem dX10_together_41 : decode cX10_together 41 = .ok (.ifCond .eq 9, 3) := by decide +kernel
theorem dX10_together_44 : decode cX10_together 44 = .ok (.aload_n 0, 1) := by decide +kernel
theorem dX10_together_45 : decode cX10_together 45 = .ok (.iload_n 3, 1) := by decide +kernel
theorem dX10_together_46 : decode cX10_together 46 = .ok (.invokevirtual 62, 3) := by decide +kernel
theorem dX10_together_49 : decode cX10_together 49 = .ok (.ireturn, 1) := by decide +kernel
theorem dX10_together_50 : decode cX10_together 50 = .ok (.aload_n 0, 1) := by decide +kernel
theorem dX10_together_51 : decode cX10_together 51 = .ok (.invokevirtual 122, 3) := by decide +kernel
theorem dX10_together_54 : decode cX10_together 54 = .ok (.bipush (-9), 2) := by decide +kernel
theorem dX10_together_56 : decode cX10_together 56 = .ok (.istore 4, 2) := by decide +kernel
theorem dX10_together_58 : decode cX10_together 58 = .ok (.iconst 0, 1) := by decide +kernel
theorem dX10_together_59 : decode cX10_together 59 = .ok (.istore 5, 2) := by decide +kernel
theorem dX10_together_61 : decode cX10_together 61 = .ok (.iconst 0, 1) := by decide +kernel
theorem dX10_together_62 : decode cX10_together 62 = .ok (.istore 6, 2) := by decide +kernel
theorem dX10_together_64 : decode cX10_together 64 = .ok (.iload 6, 2) := by decide +kernel
theorem dX10_together_66 : decode cX10_together 66 = .ok (.aload_n 0, 1) := by decide +kernel
theorem dX10_together_67 : decode cX10_together 67 = .ok (.getfield 13, 3) := by decide +kernel
theorem dX10_together_70 : decode cX10_together 70 = .ok (.iconst 0, 1) := by decide +kernel
theorem dX10_together_71 : decode cX10_together 71 = .ok (.iaload, 1) := by decide +kernel
theorem dX10_together_72 : decode cX10_together 72 = .ok (.if_icmp .ge 123, 3) := by decide +kernel
theorem dX10_together_75 : decode cX10_together 75 = .ok (.iconst 0, 1) := by decide +kernel
theorem dX10_together_76 : decode cX10_together 76 = .ok (.istore 7, 2) := by decide +kernel
theorem dX10_together_78 : decode cX10_together 78 = .ok (.iconst 0, 1) := by decide +kernel
theorem dX10_together_79 : decode cX10_together 79 = .ok (.istore 8, 2) := by decide +kernel
theorem dX10_together_81 : decode cX10_together 81 = .ok (.iload 8, 2) := by decide +kernel
theorem dX10_together_83 : decode cX10_together 83 = .ok (.bipush 24, 2) := by decide +kernel
theorem dX10_together_85 : decode cX10_together 85 = .ok (.if_icmp .ge 74, 3) := by decide +kernel
theorem dX10_together_88 : decode cX10_together 88 = .ok (.aload_n 0, 1) := by decide +kernel
theorem dX10_together_89 : decode cX10_together 89 = .ok (.iload 8, 2) := by decide +kernel
theorem dX10_together_91 : decode cX10_together 91 = .ok (.iconst 0, 1) := by decide +kernel
theorem dX10_together_92 : decode cX10_together 92 = .ok (.invokevirtual 50, 3) := by decide +kernel
theorem dX10_together_95 : decode cX10_together 95 = .ok (.iload_n 1, 1) := by decide +kernel
theorem dX10_together_96 : decode cX10_together 96 = .ok (.iconst 1, 1) := by decide +kernel
theorem dX10_together_97 : decode cX10_together 97 = .ok (.iadd, 1) := by decide +kernel
theorem dX10_together_98 : decode cX10_together 98 = .ok (.if_icmp .eq 6, 3) := by decide +kernel
theorem dX10_together_101 : decode cX10_together 101 = .ok (.goto 52, 3) := by decide +kernel
theorem dX10_together_104 : decode cX10_together 104 = .ok (.aload_n 0, 1) := by decide +kernel
theorem dX10_together_105 : decode cX10_together 105 = .ok (.getfield 28, 3) := by decide +kernel
theorem dX10_together_108 : decode cX10_together 108 = .ok (.bipush 6, 2) := by decide +kernel
theorem dX10_together_110 : decode cX10_together 110 = .ok (.aload_n 0, 1) := by decide +kernel
theorem dX10_together_111 : decode cX10_together 111 = .ok (.iload 8, 2) := by decide +kernel
theorem dX10_together_113 : decode cX10_together 113 = .ok (.iconst 2, 1) := by decide +kernel
theorem dX10_together_114 : decode cX10_together 114 = .ok (.invokevirtual 50, 3) := by decide +kernel
theorem dX10_together_117 : decode cX10_together 117 = .ok (.imul, 1) := by decide +kernel
theorem dX10_together_118 : decode cX10_together 118 = .ok (.iload 6, 2) := by decide +kernel
theorem dX10_together_120 : decode cX10_together 120 = .ok (.iadd, 1) := by decide +kernel
theorem dX10_together_121 : decode cX10_together 121 = .ok (.iaload, 1) := by decide +kernel
theorem dX10_together_122 : decode cX10_together 122 = .ok (.istore 9, 2) := by decide +kernel
theorem dX10_together_124 : decode cX10_together 124 = .ok (.iload 7, 2) := by decide +kernel
theorem dX10_together_126 : decode cX10_together 126 = .ok (.iload 9, 2) := by decide +kernel
theorem dX10_together_128 : decode cX10_together 128 = .ok (.ldc 121, 2) := by decide +kernel
theorem dX10_together_130 : decode cX10_together 130 = .ok (.if_icmp .lt 8, 3) := by decide +kernel
theorem dX10_together_133 : decode cX10_together 133 = .ok (.ldc 121, 2) := by decide +kernel
theorem dX10_together_135 : decode cX10_together 135 = .ok (.goto 13, 3) := by decide +kernel
theorem dX10_together_138 : decode cX10_together 138 = .ok (.aload_n 0, 1) := by decide +kernel
theorem dX10_together_139 : decode cX10_together 139 = .ok (.iload 8, 2) := by decide +kernel
theorem dX10_together_141 : decode cX10_together 141 = .ok (.iconst 4, 1) := by decide +kernel
theorem dX10_together_142 : decode cX10_together 142 = .ok (.invokevirtual 50, 3) := by decide +kernel
theorem dX10_together_145 : decode cX10_together 145 = .ok (.iload 9, 2) := by decide +kernel
theorem dX10_together_147 : decode cX10_together 147 = .ok (.iadd, 1) := by decide +kernel
theorem dX10_together_148 : decode cX10_together 148 = .ok (.invokestatic 141, 3) := by decide +kernel
theorem dX10_together_151 : decode cX10_together 151 = .ok (.istore 7, 2) := by decide +kernel
theorem dX10_together_153 : decode cX10_together 153 = .ok (.iinc 8 1, 3) := by decide +kernel
theorem dX10_together_156 : decode cX10_together 156 = .ok (.goto (-75), 3) := by decide +kernel
theorem dX10_together_159 : decode cX10_together 159 = .ok (.iload 7, 2) := by decide +kernel
theorem dX10_together_161 : decode cX10_together 161 = .ok (.ldc 121, 2) := by decide +kernel
theorem dX10_together_163 : decode cX10_together 163 = .ok (.if_icmp .ge 26, 3) := by decide +kernel
theorem dX10_together_166 : decode cX10_together 166 = .ok (.iload 4, 2) := by decide +kernel
theorem dX10_together_168 : decode cX10_together 168 = .ok (.ifCond .lt 13, 3) := by decide +kernel
theorem dX10_together_171 : decode cX10_together 171 = .ok (.iload 7, 2) := by decide +kernel
theorem dX10_together_173 : decode cX10_together 173 = .ok (.iload 5, 2) := by decide +kernel
theorem dX10_together_175 : decode cX10_together 175 = .ok (.if_icmp .lt 6, 3) := by decide +kernel
theorem dX10_together_178 : decode cX10_together 178 = .ok (.goto 11, 3) := by decide +kernel
theorem dX10_together_181 : decode cX10_together 181 = .ok (.iload 6, 2) := by decide +kernel
theorem dX10_together_183 : decode cX10_together 183 = .ok (.istore 4, 2) := by decide +kernel
theorem dX10_together_185 : decode cX10_together 185 = .ok (.iload 7, 2) := by decide +kernel
theorem dX10_together_187 : decode cX10_together 187 = .ok (.istore 5, 2) := by decide +kernel
theorem dX10_together_189 : decode cX10_together 189 = .ok (.iinc 6 1, 3) := by decide +kernel
theorem dX10_together_192 : decode cX10_together 192 = .ok (.goto (-128), 3) := by decide +kernel
theorem dX10_together_195 : decode cX10_together 195 = .ok (.iload 4, 2) := by decide +kernel
theorem dX10_together_197 : decode cX10_together 197 = .ok (.ifCond .lt 8, 3) := by decide +kernel
theorem dX10_together_200 : decode cX10_together 200 = .ok (.iload_n 2, 1) := by decide +kernel
theorem dX10_together_201 : decode cX10_together 201 = .ok (.iconst 1, 1) := by decide +kernel
theorem dX10_together_202 : decode cX10_together 202 = .ok (.if_icmp .ne 8, 3) := by decide +kernel
theorem dX10_together_205 : decode cX10_together 205 = .ok (.iload 4, 2) := by decide +kernel
theorem dX10_together_207 : decode cX10_together 207 = .ok (.goto 5, 3) := by decide +kernel
theorem dX10_together_210 : decode cX10_together 210 = .ok (.iload 5, 2) := by decide +kernel
theorem dX10_together_212 : decode cX10_together 212 = .ok (.ireturn, 1) := by decide +kernel
theorem dX10_known_0 : decode cX10_known 0 = .ok (.aload_n 0, 1) := by decide +kernel
theorem dX10_known_1 : decode cX10_known 1 = .ok (.iload_n 1, 1) := by decide +kernel
theorem dX10_known_2 : decode cX10_known 2 = .ok (.invokevirtual 103, 3) := by decide +kernel
theorem dX10_known_5 : decode cX10_known 5 = .ok (.ifCond .ne 7, 3) := by decide +kernel
theorem dX10_known_8 : decode cX10_known 8 = .ok (.iconst (-1), 1) := by decide +kernel
theorem dX10_known_9 : decode cX10_known 9 = .ok (.goto 30, 3) := by decide +kernel
theorem dX10_known_12 : decode cX10_known 12 = .ok (.iload_n 2, 1) := by decide +kernel
theorem dX10_known_13 : decode cX10_known 13 = .ok (.iconst 2, 1) := by decide +kernel
theorem dX10_known_14 : decode cX10_known 14 = .ok (.invokestatic 46, 3) := by decide +kernel
theorem dX10_known_17 : decode cX10_known 17 = .ok (.ifCond .ne 8, 3) := by decide +kernel
theorem dX10_known_20 : decode cX10_known 20 = .ok (.bipush (-2), 2) := by decide +kernel
theorem dX10_known_22 : decode cX10_known 22 = .ok (.goto 17, 3) := by decide +kernel
theorem dX10_known_25 : decode cX10_known 25 = .ok (.aload_n 0, 1) := by decide +kernel
theorem dX10_known_26 : decode cX10_known 26 = .ok (.iload_n 1, 1) := by decide +kernel
theorem dX10_known_27 : decode cX10_known 27 = .ok (.invokevirtual 112, 3) := by decide +kernel
theorem dX10_known_30 : decode cX10_known 30 = .ok (.ifCond .ne 8, 3) := by decide +kernel
theorem dX10_known_33 : decode cX10_known 33 = .ok (.bipush (-3), 2) := by decide +kernel
theorem dX10_known_35 : decode cX10_known 35 = .ok (.goto 4, 3) := by decide +kernel
theorem dX10_known_38 : decode cX10_known 38 = .ok (.iconst 0, 1) := by decide +kernel
theorem dX10_known_39 : decode cX10_known 39 = .ok (.istore_n 3, 1) := by decide +kernel
theorem dX10_known_40 : decode cX10_known 40 = .ok (.iload_n 3, 1) := by decide +kernel
theorem dX10_known_41 : decode cX10_known 41 = .ok (.ifCond .eq 9, 3) := by decide +kernel
theorem dX10_known_44 : decode cX10_known 44 = .ok (.aload_n 0, 1) := by decide +kernel
theorem dX10_known_45 : decode cX10_known 45 = .ok (.iload_n 3, 1) := by decide +kernel
theorem dX10_known_46 : decode cX10_known 46 = .ok (.invokevirtual 62, 3) := by decide +kernel
theorem dX10_known_49 : decode cX10_known 49 = .ok (.ireturn, 1) := by decide +kernel
theorem dX10_known_50 : decode cX10_known 50 = .ok (.iconst 0, 1) := by decide +kernel
theorem dX10_known_51 : decode cX10_known 51 = .ok (.istore 4, 2) := by decide +kernel
theorem dX10_known_53 : decode cX10_known 53 = .ok (.bipush 63, 2) := by decide +kernel
theorem dX10_known_55 : decode cX10_known 55 = .ok (.istore 5, 2) := by decide +kernel
theorem dX10_known_57 : decode cX10_known 57 = .ok (.iconst 0, 1) := by decide +kernel
theorem dX10_known_58 : decode cX10_known 58 = .ok (.istore 6, 2) := by decide +kernel
theorem dX10_known_60 : decode cX10_known 60 = .ok (.iload 6, 2) := by decide +kernel
theorem dX10_known_62 : decode cX10_known 62 = .ok (.bipush 24, 2) := by decide +kernel
theorem dX10_known_64 : decode cX10_known 64 = .ok (.if_icmp .ge 51, 3) := by decide +kernel
theorem dX10_known_67 : decode cX10_known 67 = .ok (.aload_n 0, 1) := by decide +kernel
theorem dX10_known_68 : decode cX10_known 68 = .ok (.iload 6, 2) := by decide +kernel
theorem dX10_known_70 : decode cX10_known 70 = .ok (.iconst 0, 1) := by decide +kernel
theorem dX10_known_71 : decode cX10_known 71 = .ok (.invokevirtual 50, 3) := by decide +kernel
theorem dX10_known_74 : decode cX10_known 74 = .ok (.iload_n 1, 1) := by decide +kernel
theorem dX10_known_75 : decode cX10_known 75 = .ok (.iconst 1, 1) := by decide +kernel
theorem dX10_known_76 : decode cX10_known 76 = .ok (.iadd, 1) := by decide +kernel
theorem dX10_known_77 : decode cX10_known 77 = .ok (.if_icmp .eq 6, 3) := by decide +kernel
theorem dX10_known_80 : decode cX10_known 80 = .ok (.goto 29, 3) := by decide +kernel
theorem dX10_known_83 : decode cX10_known 83 = .ok (.iload 4, 2) := by decide +kernel
theorem dX10_known_85 : decode cX10_known 85 = .ok (.aload_n 0, 1) := by decide +kernel
theorem dX10_known_86 : decode cX10_known 86 = .ok (.iload 6, 2) := by decide +kernel
theorem dX10_known_88 : decode cX10_known 88 = .ok (.bipush 6, 2) := by decide +kernel
theorem dX10_known_90 : decode cX10_known 90 = .ok (.invokevirtual 50, 3) := by decide +kernel
theorem dX10_known_93 : decode cX10_known 93 = .ok (.ior, 1) := by decide +kernel
theorem dX10_known_94 : decode cX10_known 94 = .ok (.istore 4, 2) := by decide +kernel
theorem dX10_known_96 : decode cX10_known 96 = .ok (.iload 5, 2) := by decide +kernel
theorem dX10_known_98 : decode cX10_known 98 = .ok (.aload_n 0, 1) := by decide +kernel
theorem dX10_known_99 : decode cX10_known 99 = .ok (.iload 6, 2) := by decide +kernel
theorem dX10_known_101 : decode cX10_known 101 = .ok (.bipush 6, 2) := by decide +kernel
theorem dX10_known_103 : decode cX10_known 103 = .ok (.invokevirtual 50, 3) := by decide +kernel
theorem dX10_known_106 : decode cX10_known 106 = .ok (.iand, 1) := by decide +kernel
theorem dX10_known_107 : decode cX10_known 107 = .ok (.istore 5, 2) := by decide +kernel
theorem dX10_known_109 : decode cX10_known 109 = .ok (.iinc 6 1, 3) := by decide +kernel
theorem dX10_known_112 : decode cX10_known 112 = .ok (.goto (-52), 3) := by decide +kernel
theorem dX10_known_115 : decode cX10_known 115 = .ok (.iload_n 2, 1) := by decide +kernel
theorem dX10_known_116 : decode cX10_known 116 = .ok (.ifCond .ne 8, 3) := by decide +kernel
theorem dX10_known_119 : decode cX10_known 119 = .ok (.iload 4, 2) := by decide +kernel
theorem dX10_known_121 : decode cX10_known 121 = .ok (.goto 5, 3) := by decide +kernel
theorem dX10_known_124 : decode cX10_known 124 = .ok (.iload 5, 2) := by decide +kernel
theorem dX10_known_126 : decode cX10_known 126 = .ok (.ireturn, 1) := by decide +kernel
theorem dX10_row_0 : decode cX10_row 0 = .ok (.iload_n 1, 1) := by decide +kernel
theorem dX10_row_1 : decode cX10_row 1 = .ok (.iconst 0, 1) := by decide +kernel
theorem dX10_row_2 : decode cX10_row 2 = .ok (.bipush 99, 2) := by decide +kernel
theorem dX10_row_4 : decode cX10_row 4 = .ok (.invokestatic 54, 3) := by decide +kernel
theorem dX10_row_7 : decode cX10_row 7 = .ok (.istore_n 2, 1) := by decide +kernel
theorem dX10_row_8 : decode cX10_row 8 = .ok (.iload_n 2, 1) := by decide +kernel
theorem dX10_row_9 : decode cX10_row 9 = .ok (.ifCond .ne 15, 3) := by decide +kernel
theorem dX10_row_12 : decode cX10_row 12 = .ok (.aload_n 0, 1) := by decide +kernel
theorem dX10_row_13 : decode cX10_row 13 = .ok (.getfield 235, 3) := by decide +kernel
theorem dX10_row_16 : decode cX10_row 16 = .ok (.bipush 12, 2) := by decide +kernel
theorem dX10_row_18 : decode cX10_row 18 = .ok (.if_icmp .ne 6, 3) := by decide +kernel
theorem dX10_row_21 : decode cX10_row 21 = .ok (.bipush (-6), 2) := by decide +kernel
theorem dX10_row_23 : decode cX10_row 23 = .ok (.istore_n 2, 1) := by decide +kernel
theorem dX10_row_24 : decode cX10_row 24 = .ok (.iload_n 2, 1) := by decide +kernel
theorem dX10_row_25 : decode cX10_row 25 = .ok (.ifCond .eq 9, 3) := by decide +kernel
theorem dX10_row_28 : decode cX10_row 28 = .ok (.aload_n 0, 1) := by decide +kernel
theorem dX10_row_29 : decode cX10_row 29 = .ok (.iload_n 2, 1) := by decide +kernel
theorem dX10_row_30 : decode cX10_row 30 = .ok (.invokevirtual 62, 3) := by decide +kernel
theorem dX10_row_33 : decode cX10_row 33 = .ok (.ireturn, 1) := by decide +kernel
theorem dX10_row_34 : decode cX10_row 34 = .ok (.aload_n 0, 1) := by decide +kernel
theorem dX10_row_35 : decode cX10_row 35 = .ok (.getfield 43, 3) := by decide +kernel
theorem dX10_row_38 : decode cX10_row 38 = .ok (.aload_n 0, 1) := by decide +kernel
theorem dX10_row_39 : decode cX10_row 39 = .ok (.getfield 235, 3) := by decide +kernel
theorem dX10_row_42 : decode cX10_row 42 = .ok (.iload_n 1, 1) := by decide +kernel
theorem dX10_row_43 : decode cX10_row 43 = .ok (.iastore, 1) := by decide +kernel
theorem dX10_row_44 : decode cX10_row 44 = .ok (.aload_n 0, 1) := by decide +kernel
theorem dX10_row_45 : decode cX10_row 45 = .ok (.dup, 1) := by decide +kernel
theorem dX10_row_46 : decode cX10_row 46 = .ok (.getfield 235, 3) := by decide +kernel
theorem dX10_row_49 : decode cX10_row 49 = .ok (.iconst 1, 1) := by decide +kernel
theorem dX10_row_50 : decode cX10_row 50 = .ok (.iadd, 1) := by decide +kernel
theorem dX10_row_51 : decode cX10_row 51 = .ok (.putfield 235, 3) := by decide +kernel
theorem dX10_row_54 : decode cX10_row 54 = .ok (.aload_n 0, 1) := by decide +kernel
theorem dX10_row_55 : decode cX10_row 55 = .ok (.getfield 235, 3) := by decide +kernel
theorem dX10_row_58 : decode cX10_row 58 = .ok (.ireturn, 1) := by decide +kernel
theorem dX10_judge_0 : decode cX10_judge 0 = .ok (.aload_n 0, 1) := by decide +kernel
theorem dX10_judge_1 : decode cX10_judge 1 = .ok (.iload_n 1, 1) := by decide +kernel
theorem dX10_judge_2 : decode cX10_judge 2 = .ok (.invokevirtual 103, 3) := by decide +kernel
theorem dX10_judge_5 : decode cX10_judge 5 = .ok (.ifCond .ne 9, 3) := by decide +kernel
theorem dX10_judge_8 : decode cX10_judge 8 = .ok (.aload_n 0, 1) := by decide +kernel
theorem dX10_judge_9 : decode cX10_judge 9 = .ok (.iconst (-1), 1) := by decide +kernel
theorem dX10_judge_10 : decode cX10_judge 10 = .ok (.invokevirtual 62, 3) := by decide +kernel
theorem dX10_judge_13 : decode cX10_judge 13 = .ok (.ireturn, 1) := by decide +kernel
theorem dX10_judge_14 : decode cX10_judge 14 = .ok (.aload_n 0, 1) := by decide +kernel
theorem dX10_judge_15 : decode cX10_judge 15 = .ok (.getfield 235, 3) := by decide +kernel
theorem dX10_judge_18 : decode cX10_judge 18 = .ok (.istore_n 2, 1) := by decide +kernel
theorem dX10_judge_19 : decode cX10_judge 19 = .ok (.aload_n 0, 1) := by decide +kernel
theorem dX10_judge_20 : decode cX10_judge 20 = .ok (.iconst 0, 1) := by decide +kernel
theorem dX10_judge_21 : decode cX10_judge 21 = .ok (.putfield 235, 3) := by decide +kernel
theorem dX10_judge_24 : decode cX10_judge 24 = .ok (.iconst 0, 1) := by decide +kernel
theorem dX10_judge_25 : decode cX10_judge 25 = .ok (.istore_n 3, 1) := by decide +kernel
theorem dX10_judge_26 : decode cX10_judge 26 = .ok (.iconst 0, 1) := by decide +kernel
theorem dX10_judge_27 : decode cX10_judge 27 = .ok (.istore 4, 2) := by decide +kernel
theorem dX10_judge_29 : decode cX10_judge 29 = .ok (.iload 4, 2) := by decide +kernel
theorem dX10_judge_31 : decode cX10_judge 31 = .ok (.iload_n 2, 1) := by decide +kernel
theorem dX10_judge_32 : decode cX10_judge 32 = .ok (.if_icmp .ge 44, 3) := by decide +kernel
theorem dX10_judge_35 : decode cX10_judge 35 = .ok (.iload_n 3, 1) := by decide +kernel
theorem dX10_judge_36 : decode cX10_judge 36 = .ok (.aload_n 0, 1) := by decide +kernel
theorem dX10_judge_37 : decode cX10_judge 37 = .ok (.getfield 43, 3) := by decide +kernel
theorem dX10_judge_40 : decode cX10_judge 40 = .ok (.iload 4, 2) := by decide +kernel
theorem dX10_judge_42 : decode cX10_judge 42 = .ok (.iaload, 1) := by decide +kernel
theorem dX10_judge_43 : decode cX10_judge 43 = .ok (.iadd, 1) := by decide +kernel
theorem dX10_judge_44 : decode cX10_judge 44 = .ok (.istore_n 3, 1) := by decide +kernel
theorem dX10_judge_45 : decode cX10_judge 45 = .ok (.aload_n 0, 1) := by decide +kernel
theorem dX10_judge_46 : decode cX10_judge 46 = .ok (.getfield 43, 3) := by decide +kernel
theorem dX10_judge_49 : decode cX10_judge 49 = .ok (.iload 4, 2) := by decide +kernel
theorem dX10_judge_51 : decode cX10_judge 51 = .ok (.iaload, 1) := by decide +kernel
theorem dX10_judge_52 : decode cX10_judge 52 = .ok (.aload_n 0, 1) := by decide +kernel
theorem dX10_judge_53 : decode cX10_judge 53 = .ok (.iload_n 1, 1) := by decide +kernel
theorem dX10_judge_54 : decode cX10_judge 54 = .ok (.iconst 3, 1) := by decide +kernel
theorem dX10_judge_55 : decode cX10_judge 55 = .ok (.invokevirtual 106, 3) := by decide +kernel
theorem dX10_judge_58 : decode cX10_judge 58 = .ok (.if_icmp .lt 9, 3) := by decide +kernel
theorem dX10_judge_61 : decode cX10_judge 61 = .ok (.iload_n 3, 1) := by decide +kernel
theorem dX10_judge_62 : decode cX10_judge 62 = .ok (.bipush 12, 2) := by decide +kernel
theorem dX10_judge_64 : decode cX10_judge 64 = .ok (.if_icmp .le 6, 3) := by decide +kernel
theorem dX10_judge_67 : decode cX10_judge 67 = .ok (.iload 4, 2) := by decide +kernel
theorem dX10_judge_69 : decode cX10_judge 69 = .ok (.ireturn, 1) := by decide +kernel
theorem dX10_judge_70 : decode cX10_judge 70 = .ok (.iinc 4 1, 3) := by decide +kernel
theorem dX10_judge_73 : decode cX10_judge 73 = .ok (.goto (-44), 3) := by decide +kernel
theorem dX10_judge_76 : decode cX10_judge 76 = .ok (.iload_n 3, 1) := by decide +kernel
theorem dX10_judge_77 : decode cX10_judge 77 = .ok (.bipush 12, 2) := by decide +kernel
theorem dX10_judge_79 : decode cX10_judge 79 = .ok (.if_icmp .ge 7, 3) := by decide +kernel
theorem dX10_judge_82 : decode cX10_judge 82 = .ok (.iload_n 2, 1) := by decide +kernel
theorem dX10_judge_83 : decode cX10_judge 83 = .ok (.goto 5, 3) := by decide +kernel
theorem dX10_judge_86 : decode cX10_judge 86 = .ok (.bipush (-9), 2) := by decide +kernel
theorem dX10_judge_88 : decode cX10_judge 88 = .ok (.ireturn, 1) := by decide +kernel
theorem dX10_parts_0 : decode cX10_parts 0 = .ok (.iconst 0, 1) := by decide +kernel
theorem dX10_parts_1 : decode cX10_parts 1 = .ok (.istore_n 1, 1) := by decide +kernel
theorem dX10_parts_2 : decode cX10_parts 2 = .ok (.iconst 0, 1) := by decide +kernel
theorem dX10_parts_3 : decode cX10_parts 3 = .ok (.istore_n 2, 1) := by decide +kernel
theorem dX10_parts_4 : decode cX10_parts 4 = .ok (.iload_n 2, 1) := by decide +kernel
theorem dX10_parts_5 : decode cX10_parts 5 = .ok (.bipush 24, 2) := by decide +kernel
theorem dX10_parts_7 : decode cX10_parts 7 = .ok (.if_icmp .ge 26, 3) := by decide +kernel
theorem dX10_parts_10 : decode cX10_parts 10 = .ok (.iload_n 1, 1) := by decide +kernel
theorem dX10_parts_11 : decode cX10_parts 11 = .ok (.aload_n 0, 1) := by decide +kernel
theorem dX10_parts_12 : decode cX10_parts 12 = .ok (.iload_n 2, 1) := by decide +kernel
theorem dX10_parts_13 : decode cX10_parts 13 = .ok (.iconst 0, 1) := by decide +kernel
theorem dX10_parts_14 : decode cX10_parts 14 = .ok (.invokevirtual 50, 3) := by decide +kernel
theorem dX10_parts_17 : decode cX10_parts 17 = .ok (.ifCond .le 7, 3) := by decide +kernel
theorem dX10_parts_20 : decode cX10_parts 20 = .ok (.iconst 1, 1) := by decide +kernel
theorem dX10_parts_21 : decode cX10_parts 21 = .ok (.goto 4, 3) := by decide +kernel
theorem dX10_parts_24 : decode cX10_parts 24 = .ok (.iconst 0, 1) := by decide +kernel
theorem dX10_parts_25 : decode cX10_parts 25 = .ok (.iadd, 1) := by decide +kernel
theorem dX10_parts_26 : decode cX10_parts 26 = .ok (.istore_n 1, 1) := by decide +kernel
theorem dX10_parts_27 : decode cX10_parts 27 = .ok (.iinc 2 1, 3) := by decide +kernel
theorem dX10_parts_30 : decode cX10_parts 30 = .ok (.goto (-26), 3) := by decide +kernel
theorem dX10_parts_33 : decode cX10_parts 33 = .ok (.iload_n 1, 1) := by decide +kernel
theorem dX10_parts_34 : decode cX10_parts 34 = .ok (.ireturn, 1) := by decide +kernel
theorem dX10_image_0 : decode cX10_image 0 = .ok (.iconst 0, 1) := by decide +kernel
theorem dX10_image_1 : decode cX10_image 1 = .ok (.istore_n 1, 1) := by decide +kernel
theorem dX10_image_2 : decode cX10_image 2 = .ok (.iload_n 1, 1) := by decide +kernel
theorem dX10_image_3 : decode cX10_image 3 = .ok (.sipush 267, 3) := by decide +kernel
theorem dX10_image_6 : decode cX10_image 6 = .ok (.if_icmp .ge 21, 3) := by decide +kernel
theorem dX10_image_9 : decode cX10_image 9 = .ok (.aload_n 0, 1) := by decide +kernel
theorem dX10_image_10 : decode cX10_image 10 = .ok (.getfield 16, 3) := by decide +kernel
theorem dX10_image_13 : decode cX10_image 13 = .ok (.iload_n 1, 1) := by decide +kernel
theorem dX10_image_14 : decode cX10_image 14 = .ok (.aload_n 0, 1) := by decide +kernel
theorem dX10_image_15 : decode cX10_image 15 = .ok (.getfield 13, 3) := by decide +kernel
theorem dX10_image_18 : decode cX10_image 18 = .ok (.iload_n 1, 1) := by decide +kernel
theorem dX10_image_19 : decode cX10_image 19 = .ok (.iaload, 1) := by decide +kernel
theorem dX10_image_20 : decode cX10_image 20 = .ok (.iastore, 1) := by decide +kernel
theorem dX10_image_21 : decode cX10_image 21 = .ok (.iinc 1 1, 3) := by decide +kernel
theorem dX10_image_24 : decode cX10_image 24 = .ok (.goto (-22), 3) := by decide +kernel
theorem dX10_image_27 : decode cX10_image 27 = .ok (.aload_n 0, 1) := by decide +kernel
theorem dX10_image_28 : decode cX10_image 28 = .ok (.iconst 1, 1) := by decide +kernel
theorem dX10_image_29 : decode cX10_image 29 = .ok (.putfield 238, 3) := by decide +kernel
theorem dX10_image_32 : decode cX10_image 32 = .ok (.aload_n 0, 1) := by decide +kernel
theorem dX10_image_33 : decode cX10_image 33 = .ok (.invokevirtual 242, 3) := by decide +kernel
theorem dX10_image_36 : decode cX10_image 36 = .ok (.ireturn, 1) := by decide +kernel
theorem dX10_on_0 : decode cX10_on 0 = .ok (.aload_n 0, 1) := by decide +kernel
theorem dX10_on_1 : decode cX10_on 1 = .ok (.getfield 238, 3) := by decide +kernel
theorem dX10_on_4 : decode cX10_on 4 = .ok (.ifCond .ne 10, 3) := by decide +kernel
theorem dX10_on_7 : decode cX10_on 7 = .ok (.aload_n 0, 1) := by decide +kernel
theorem dX10_on_8 : decode cX10_on 8 = .ok (.bipush (-3), 2) := by decide +kernel
theorem dX10_on_10 : decode cX10_on 10 = .ok (.invokevirtual 62, 3) := by decide +kernel
theorem dX10_on_13 : decode cX10_on 13 = .ok (.ireturn, 1) := by decide +kernel
theorem dX10_on_14 : decode cX10_on 14 = .ok (.iconst 0, 1) := by decide +kernel
theorem dX10_on_15 : decode cX10_on 15 = .ok (.istore_n 1, 1) := by decide +kernel
theorem dX10_on_16 : decode cX10_on 16 = .ok (.iload_n 1, 1) := by decide +kernel
theorem dX10_on_17 : decode cX10_on 17 = .ok (.sipush 267, 3) := by decide +kernel
theorem dX10_on_20 : decode cX10_on 20 = .ok (.if_icmp .ge 21, 3) := by decide +kernel
theorem dX10_on_23 : decode cX10_on 23 = .ok (.aload_n 0, 1) := by decide +kernel
theorem dX10_on_24 : decode cX10_on 24 = .ok (.getfield 13, 3) := by decide +kernel
theorem dX10_on_27 : decode cX10_on 27 = .ok (.iload_n 1, 1) := by decide +kernel
theorem dX10_on_28 : decode cX10_on 28 = .ok (.aload_n 0, 1) := by decide +kernel
theorem dX10_on_29 : decode cX10_on 29 = .ok (.getfield 16, 3) := by decide +kernel
theorem dX10_on_32 : decode cX10_on 32 = .ok (.iload_n 1, 1) := by decide +kernel
theorem dX10_on_33 : decode cX10_on 33 = .ok (.iaload, 1) := by decide +kernel
theorem dX10_on_34 : decode cX10_on 34 = .ok (.iastore, 1) := by decide +kernel
theorem dX10_on_35 : decode cX10_on 35 = .ok (.iinc 1 1, 3) := by decide +kernel
theorem dX10_on_38 : decode cX10_on 38 = .ok (.goto (-22), 3) := by decide +kernel
theorem dX10_on_41 : decode cX10_on 41 = .ok (.aload_n 0, 1) := by decide +kernel
theorem dX10_on_42 : decode cX10_on 42 = .ok (.invokevirtual 242, 3) := by decide +kernel
theorem dX10_on_45 : decode cX10_on 45 = .ok (.ireturn, 1) := by decide +kernel
theorem dX10_count_0 : decode cX10_count 0 = .ok (.iload_n 1, 1) := by decide +kernel
theorem dX10_count_1 : decode cX10_count 1 = .ok (.bipush 10, 2) := by decide +kernel
theorem dX10_count_3 : decode cX10_count 3 = .ok (.if_icmp .le 19, 3) := by decide +kernel
theorem dX10_count_6 : decode cX10_count 6 = .ok (.iload_n 1, 1) := by decide +kernel
theorem dX10_count_7 : decode cX10_count 7 = .ok (.bipush 17, 2) := by decide +kernel
theorem dX10_count_9 : decode cX10_count 9 = .ok (.if_icmp .ge 13, 3) := by decide +kernel
theorem dX10_count_12 : decode cX10_count 12 = .ok (.aload_n 0, 1) := by decide +kernel
theorem dX10_count_13 : decode cX10_count 13 = .ok (.getfield 7, 3) := by decide +kernel
theorem dX10_count_16 : decode cX10_count 16 = .ok (.iload_n 1, 1) := by decide +kernel
theorem dX10_count_17 : decode cX10_count 17 = .ok (.bipush 10, 2) := by decide +kernel
theorem dX10_count_19 : decode cX10_count 19 = .ok (.isub, 1) := by decide +kernel
theorem dX10_count_20 : decode cX10_count 20 = .ok (.iaload, 1) := by decide +kernel
theorem dX10_count_21 : decode cX10_count 21 = .ok (.ireturn, 1) := by decide +kernel
theorem dX10_count_22 : decode cX10_count 22 = .ok (.iload_n 1, 1) := by decide +kernel
theorem dX10_count_23 : decode cX10_count 23 = .ok (.tableswitch 106 0 6 #[41, 41, 41, 48, 53, 96, 101], 41) := by decide +kernel
theorem dX10_count_64 : decode cX10_count 64 = .ok (.aload_n 0, 1) := by decide +kernel
theorem dX10_count_65 : decode cX10_count 65 = .ok (.getfield 13, 3) := by decide +kernel
theorem dX10_count_68 : decode cX10_count 68 = .ok (.iload_n 1, 1) := by decide +kernel
theorem dX10_count_69 : decode cX10_count 69 = .ok (.iaload, 1) := by decide +kernel
theorem dX10_count_70 : decode cX10_count 70 = .ok (.ireturn, 1) := by decide +kernel
theorem dX10_count_71 : decode cX10_count 71 = .ok (.aload_n 0, 1) := by decide +kernel
theorem dX10_count_72 : decode cX10_count 72 = .ok (.invokevirtual 242, 3) := by decide +kernel
theorem dX10_count_75 : decode cX10_count 75 = .ok (.ireturn, 1) := by decide +kernel
theorem dX10_count_76 : decode cX10_count 76 = .ok (.iconst 0, 1) := by decide +kernel
theorem dX10_count_77 : decode cX10_count 77 = .ok (.istore_n 2, 1) := by decide +kernel
theorem dX10_count_78 : decode cX10_count 78 = .ok (.iconst 0, 1) := by decide +kernel
theorem dX10_count_79 : decode cX10_count 79 = .ok (.istore_n 3, 1) := by decide +kernel
theorem dX10_count_80 : decode cX10_count 80 = .ok (.iload_n 3, 1) := by decide +kernel
theorem dX10_count_81 : decode cX10_count 81 = .ok (.aload_n 0, 1) := by decide +kernel
theorem dX10_count_82 : decode cX10_count 82 = .ok (.getfield 13, 3) := by decide +kernel
theorem dX10_count_85 : decode cX10_count 85 = .ok (.iconst 2, 1) := by decide +kernel
theorem dX10_count_86 : decode cX10_count 86 = .ok (.iaload, 1) := by decide +kernel
theorem dX10_count_87 : decode cX10_count 87 = .ok (.if_icmp .ge 30, 3) := by decide +kernel
theorem dX10_count_90 : decode cX10_count 90 = .ok (.aload_n 0, 1) := by decide +kernel
theorem dX10_count_91 : decode cX10_count 91 = .ok (.iload_n 3, 1) := by decide +kernel
theorem dX10_count_92 : decode cX10_count 92 = .ok (.invokevirtual 158, 3) := by decide +kernel
theorem dX10_count_95 : decode cX10_count 95 = .ok (.iload_n 2, 1) := by decide +kernel
theorem dX10_count_96 : decode cX10_count 96 = .ok (.aload_n 0, 1) := by decide +kernel
theorem dX10_count_97 : decode cX10_count 97 = .ok (.iload_n 3, 1) := by decide +kernel
theorem dX10_count_98 : decode cX10_count 98 = .ok (.invokevirtual 180, 3) := by decide +kernel
theorem dX10_count_101 : decode cX10_count 101 = .ok (.ifCond .eq 7, 3) := by decide +kernel
theorem dX10_count_104 : decode cX10_count 104 = .ok (.iconst 1, 1) := by decide +kernel
theorem dX10_count_105 : decode cX10_count 105 = .ok (.goto 4, 3) := by decide +kernel
theorem dX10_count_108 : decode cX10_count 108 = .ok (.iconst 0, 1) := by decide +kernel
theorem dX10_count_109 : decode cX10_count 109 = .ok (.iadd, 1) := by decide +kernel
theorem dX10_count_110 : decode cX10_count 110 = .ok (.istore_n 2, 1) := by decide +kernel
theorem dX10_count_111 : decode cX10_count 111 = .ok (.iinc 3 1, 3) := by decide +kernel
theorem dX10_count_114 : decode cX10_count 114 = .ok (.goto (-34), 3) := by decide +kernel
theorem dX10_count_117 : decode cX10_count 117 = .ok (.iload_n 2, 1) := by decide +kernel
theorem dX10_count_118 : decode cX10_count 118 = .ok (.ireturn, 1) := by decide +kernel
theorem dX10_count_119 : decode cX10_count 119 = .ok (.aload_n 0, 1) := by decide +kernel
theorem dX10_count_120 : decode cX10_count 120 = .ok (.getfield 235, 3) := by decide +kernel
theorem dX10_count_123 : decode cX10_count 123 = .ok (.ireturn, 1) := by decide +kernel
theorem dX10_count_124 : decode cX10_count 124 = .ok (.aload_n 0, 1) := by decide +kernel
theorem dX10_count_125 : decode cX10_count 125 = .ok (.getfield 58, 3) := by decide +kernel
theorem dX10_count_128 : decode cX10_count 128 = .ok (.ireturn, 1) := by decide +kernel
theorem dX10_count_129 : decode cX10_count 129 = .ok (.bipush (-9), 2) := by decide +kernel
theorem dX10_count_131 : decode cX10_count 131 = .ok (.ireturn, 1) := by decide +kernel
theorem dL_law_0 : decode cL_law 0 = .ok (.new 7, 3) := by decide +kernel
theorem dL_law_3 : decode cL_law 3 = .ok (.dup, 1) := by decide +kernel
theorem dL_law_4 : decode cL_law 4 = .ok (.invokespecial 9, 3) := by decide +kernel
theorem dL_law_7 : decode cL_law 7 = .ok (.astore_n 1, 1) := by decide +kernel
theorem dL_law_8 : decode cL_law 8 = .ok (.new 10, 3) := by decide +kernel
theorem dL_law_11 : decode cL_law 11 = .ok (.dup, 1) := by decide +kernel
theorem dL_law_12 : decode cL_law 12 = .ok (.invokespecial 12, 3) := by decide +kernel
theorem dL_law_15 : decode cL_law 15 = .ok (.astore_n 2, 1) := by decide +kernel
theorem dL_law_16 : decode cL_law 16 = .ok (.iconst 0, 1) := by decide +kernel
theorem dL_law_17 : decode cL_law 17 = .ok (.istore_n 3, 1) := by decide +kernel
theorem dL_law_18 : decode cL_law 18 = .ok (.iload_n 3, 1) := by decide +kernel
theorem dL_law_19 : decode cL_law 19 = .ok (.aload_n 0, 1) := by decide +kernel
theorem dL_law_20 : decode cL_law 20 = .ok (.arraylength, 1) := by decide +kernel
theorem dL_law_21 : decode cL_law 21 = .ok (.iconst 5, 1) := by decide +kernel
theorem dL_law_22 : decode cL_law 22 = .ok (.isub, 1) := by decide +kernel
theorem dL_law_23 : decode cL_law 23 = .ok (.if_icmp .gt 1056, 3) := by decide +kernel
theorem dL_law_26 : decode cL_law 26 = .ok (.aload_n 0, 1) := by decide +kernel
theorem dL_law_27 : decode cL_law 27 = .ok (.iload_n 3, 1) := by decide +kernel
theorem dL_law_28 : decode cL_law 28 = .ok (.iaload, 1) := by decide +kernel
theorem dL_law_29 : decode cL_law 29 = .ok (.bipush 31, 2) := by decide +kernel
theorem dL_law_31 : decode cL_law 31 = .ok (.iand, 1) := by decide +kernel
theorem dL_law_32 : decode cL_law 32 = .ok (.tableswitch 1041 0 31 #[144, 167, 180, 213, 246, 279, 312, 345, 378, 401, 434, 467, 500, 533, 556, 589, 622, 645, 688, 701, 734, 747, 770, 793, 826, 880, 913, 946, 969, 992, 1005, 1018], 144) := by decide +kernel
theorem dL_law_176 : decode cL_law 176 = .ok (.aload_n 1, 1) := by decide +kernel
theorem dL_law_177 : decode cL_law 177 = .ok (.aload_n 0, 1) := by decide +kernel
theorem dL_law_178 : decode cL_law 178 = .ok (.iload_n 3, 1) := by decide +kernel
theorem dL_law_179 : decode cL_law 179 = .ok (.iconst 1, 1) := by decide +kernel
theorem dL_law_180 : decode cL_law 180 = .ok (.iadd, 1) := by decide +kernel
theorem dL_law_181 : decode cL_law 181 = .ok (.iaload, 1) := by decide +kernel
theorem dL_law_182 : decode cL_law 182 = .ok (.invokevirtual 13, 3) := by decide +kernel
theorem dL_law_185 : decode cL_law 185 = .ok (.aload_n 2, 1) := by decide +kernel
theorem dL_law_186 : decode cL_law 186 = .ok (.aload_n 0, 1) := by decide +kernel
theorem dL_law_187 : decode cL_law 187 = .ok (.iload_n 3, 1) := by decide +kernel
theorem dL_law_188 : decode cL_law 188 = .ok (.iconst 1, 1) := by decide +kernel
theorem dL_law_189 : decode cL_law 189 = .ok (.iadd, 1) := by decide +kernel
theorem dL_law_190 : decode cL_law 190 = .ok (.iaload, 1) := by decide +kernel
theorem dL_law_191 : decode cL_law 191 = .ok (.invokevirtual 17, 3) := by decide +kernel
theorem dL_law_194 : decode cL_law 194 = .ok (.if_icmp .eq 879, 3) := by decide +kernel
theorem dL_law_197 : decode cL_law 197 = .ok (.iconst 0, 1) := by decide +kernel
theorem dL_law_198 : decode cL_law 198 = .ok (.ireturn, 1) := by decide +kernel
theorem dL_law_199 : decode cL_law 199 = .ok (.aload_n 1, 1) := by decide +kernel
theorem dL_law_200 : decode cL_law 200 = .ok (.invokevirtual 18, 3) := by decide +kernel
theorem dL_law_203 : decode cL_law 203 = .ok (.aload_n 2, 1) := by decide +kernel
theorem dL_law_204 : decode cL_law 204 = .ok (.invokevirtual 22, 3) := by decide +kernel
theorem dL_law_207 : decode cL_law 207 = .ok (.if_icmp .eq 866, 3) := by decide +kernel
theorem dL_law_210 : decode cL_law 210 = .ok (.iconst 0, 1) := by decide +kernel
theorem dL_law_211 : decode cL_law 211 = .ok (.ireturn, 1) := by decide +kernel
theorem dL_law_212 : decode cL_law 212 = .ok (.aload_n 1, 1) := by decide +kernel
theorem dL_law_213 : decode cL_law 213 = .ok (.aload_n 0, 1) := by decide +kernel
theorem dL_law_214 : decode cL_law 214 = .ok (.iload_n 3, 1) := by decide +kernel
theorem dL_law_215 : decode cL_law 215 = .ok (.iconst 1, 1) := by decide +kernel
theorem dL_law_216 : decode cL_law 216 = .ok (.iadd, 1) := by decide +kernel
theorem dL_law_217 : decode cL_law 217 = .ok (.iaload, 1) := by decide +kernel
theorem dL_law_218 : decode cL_law 218 = .ok (.aload_n 0, 1) := by decide +kernel
theorem dL_law_219 : decode cL_law 219 = .ok (.iload_n 3, 1) := by decide +kernel
theorem dL_law_220 : decode cL_law 220 = .ok (.iconst 2, 1) := by decide +kernel
theorem dL_law_221 : decode cL_law 221 = .ok (.iadd, 1) := by decide +kernel
theorem dL_law_222 : decode cL_law 222 = .ok (.iaload, 1) := by decide +kernel
theorem dL_law_223 : decode cL_law 223 = .ok (.invokevirtual 23, 3) := by decide +kernel
theorem dL_law_226 : decode cL_law 226 = .ok (.aload_n 2, 1) := by decide +kernel
theorem dL_law_227 : decode cL_law 227 = .ok (.aload_n 0, 1) := by decide +kernel
theorem dL_law_228 : decode cL_law 228 = .ok (.iload_n 3, 1) := by decide +kernel
theorem dL_law_229 : decode cL_law 229 = .ok (.iconst 1, 1) := by decide +kernel
theorem dL_law_230 : decode cL_law 230 = .ok (.iadd, 1) := by decide +kernel
theorem dL_law_231 : decode cL_law 231 = .ok (.iaload, 1) := by decide +kernel
theorem dL_law_232 : decode cL_law 232 = .ok (.aload_n 0, 1) := by decide +kernel
theorem dL_law_233 : decode cL_law 233 = .ok (.iload_n 3, 1) := by decide +kernel
theorem dL_law_234 : decode cL_law 234 = .ok (.iconst 2, 1) := by decide +kernel
theorem dL_law_235 : decode cL_law 235 = .ok (.iadd, 1) := by decide +kernel
theorem dL_law_236 : decode cL_law 236 = .ok (.iaload, 1) := by decide +kernel
theorem dL_law_237 : decode cL_law 237 = .ok (.invokevirtual 27, 3) := by decide +kernel
theorem dL_law_240 : decode cL_law 240 = .ok (.if_icmp .eq 833, 3) := by decide +kernel
theorem dL_law_243 : decode cL_law 243 = .ok (.iconst 0, 1) := by decide +kernel
theorem dL_law_244 : decode cL_law 244 = .ok (.ireturn, 1) := by decide +kernel
theorem dL_law_245 : decode cL_law 245 = .ok (.aload_n 1, 1) := by decide +kernel
theorem dL_law_246 : decode cL_law 246 = .ok (.aload_n 0, 1) := by decide +kernel
theorem dL_law_247 : decode cL_law 247 = .ok (.iload_n 3, 1) := by decide +kernel
theorem dL_law_248 : decode cL_law 248 = .ok (.iconst 1, 1) := by decide +kernel
theorem dL_law_249 : decode cL_law 249 = .ok (.iadd, 1) := by decide +kernel
theorem dL_law_250 : decode cL_law 250 = .ok (.iaload, 1) := by decide +kernel
theorem dL_law_251 : decode cL_law 251 = .ok (.aload_n 0, 1) := by decide +kernel
theorem dL_law_252 : decode cL_law 252 = .ok (.iload_n 3, 1) := by decide +kernel
theorem dL_law_253 : decode cL_law 253 = .ok (.iconst 2, 1) := by decide +kernel
theorem dL_law_254 : decode cL_law 254 = .ok (.iadd, 1) := by decide +kernel
theorem dL_law_255 : decode cL_law 255 = .ok (.iaload, 1) := by decide +kernel
theorem dL_law_256 : decode cL_law 256 = .ok (.invokevirtual 28, 3) := by decide +kernel
theorem dL_law_259 : decode cL_law 259 = .ok (.aload_n 2, 1) := by decide +kernel
theorem dL_law_260 : decode cL_law 260 = .ok (.aload_n 0, 1) := by decide +kernel
theorem dL_law_261 : decode cL_law 261 = .ok (.iload_n 3, 1) := by decide +kernel
theorem dL_law_262 : decode cL_law 262 = .ok (.iconst 1, 1) := by decide +kernel
theorem dL_law_263 : decode cL_law 263 = .ok (.iadd, 1) := by decide +kernel
theorem dL_law_264 : decode cL_law 264 = .ok (.iaload, 1) := by decide +kernel
theorem dL_law_265 : decode cL_law 265 = .ok (.aload_n 0, 1) := by decide +kernel
theorem dL_law_266 : decode cL_law 266 = .ok (.iload_n 3, 1) := by decide +kernel
theorem dL_law_267 : decode cL_law 267 = .ok (.iconst 2, 1) := by decide +kernel
theorem dL_law_268 : decode cL_law 268 = .ok (.iadd, 1) := by decide +kernel
theorem dL_law_269 : decode cL_law 269 = .ok (.iaload, 1) := by decide +kernel
theorem dL_law_270 : decode cL_law 270 = .ok (.invokevirtual 31, 3) := by decide +kernel
theorem dL_law_273 : decode cL_law 273 = .ok (.if_icmp .eq 800, 3) := by decide +kernel
theorem dL_law_276 : decode cL_law 276 = .ok (.iconst 0, 1) := by decide +kernel
theorem dL_law_277 : decode cL_law 277 = .ok (.ireturn, 1) := by decide +kernel
theorem dL_law_278 : decode cL_law 278 = .ok (.aload_n 1, 1) := by decide +kernel
theorem dL_law_279 : decode cL_law 279 = .ok (.aload_n 0, 1) := by decide +kernel
theorem dL_law_280 : decode cL_law 280 = .ok (.iload_n 3, 1) := by decide +kernel
theorem dL_law_281 : decode cL_law 281 = .ok (.iconst 1, 1) := by decide +kernel
theorem dL_law_282 : decode cL_law 282 = .ok (.iadd, 1) := by decide +kernel
theorem dL_law_283 : decode cL_law 283 = .ok (.iaload, 1) := by decide +kernel
theorem dL_law_284 : decode cL_law 284 = .ok (.aload_n 0, 1) := by decide +kernel
theorem dL_law_285 : decode cL_law 285 = .ok (.iload_n 3, 1) := by decide +kernel
theorem dL_law_286 : decode cL_law 286 = .ok (.iconst 2, 1) := by decide +kernel
theorem dL_law_287 : decode cL_law 287 = .ok (.iadd, 1) := by decide +kernel
theorem dL_law_288 : decode cL_law 288 = .ok (.iaload, 1) := by decide +kernel
theorem dL_law_289 : decode cL_law 289 = .ok (.invokevirtual 32, 3) := by decide +kernel
theorem dL_law_292 : decode cL_law 292 = .ok (.aload_n 2, 1) := by decide +kernel
theorem dL_law_293 : decode cL_law 293 = .ok (.aload_n 0, 1) := by decide +kernel
theorem dL_law_294 : decode cL_law 294 = .ok (.iload_n 3, 1) := by decide +kernel
theorem dL_law_295 : decode cL_law 295 = .ok (.iconst 1, 1) := by decide +kernel
theorem dL_law_296 : decode cL_law 296 = .ok (.iadd, 1) := by decide +kernel
theorem dL_law_297 : decode cL_law 297 = .ok (.iaload, 1) := by decide +kernel
theorem dL_law_298 : decode cL_law 298 = .ok (.aload_n 0, 1) := by decide +kernel
theorem dL_law_299 : decode cL_law 299 = .ok (.iload_n 3, 1) := by decide +kernel
theorem dL_law_300 : decode cL_law 300 = .ok (.iconst 2, 1) := by decide +kernel
theorem dL_law_301 : decode cL_law 301 = .ok (.iadd, 1) := by decide +kernel
theorem dL_law_302 : decode cL_law 302 = .ok (.iaload, 1) := by decide +kernel
theorem dL_law_303 : decode cL_law 303 = .ok (.invokevirtual 35, 3) := by decide +kernel
theorem dL_law_306 : decode cL_law 306 = .ok (.if_icmp .eq 767, 3) := by decide +kernel
theorem dL_law_309 : decode cL_law 309 = .ok (.iconst 0, 1) := by decide +kernel
theorem dL_law_310 : decode cL_law 310 = .ok (.ireturn, 1) := by decide +kernel
theorem dL_law_311 : decode cL_law 311 = .ok (.aload_n 1, 1) := by decide +kernel
theorem dL_law_312 : decode cL_law 312 = .ok (.aload_n 0, 1) := by decide +kernel
theorem dL_law_313 : decode cL_law 313 = .ok (.iload_n 3, 1) := by decide +kernel
theorem dL_law_314 : decode cL_law 314 = .ok (.iconst 1, 1) := by decide +kernel
theorem dL_law_315 : decode cL_law 315 = .ok (.iadd, 1) := by decide +kernel
theorem dL_law_316 : decode cL_law 316 = .ok (.iaload, 1) := by decide +kernel
theorem dL_law_317 : decode cL_law 317 = .ok (.aload_n 0, 1) := by decide +kernel
theorem dL_law_318 : decode cL_law 318 = .ok (.iload_n 3, 1) := by decide +kernel
theorem dL_law_319 : decode cL_law 319 = .ok (.iconst 2, 1) := by decide +kernel
theorem dL_law_320 : decode cL_law 320 = .ok (.iadd, 1) := by decide +kernel
theorem dL_law_321 : decode cL_law 321 = .ok (.iaload, 1) := by decide +kernel
theorem dL_law_322 : decode cL_law 322 = .ok (.invokevirtual 36, 3) := by decide +kernel
theorem dL_law_325 : decode cL_law 325 = .ok (.aload_n 2, 1) := by decide +kernel
theorem dL_law_326 : decode cL_law 326 = .ok (.aload_n 0, 1) := by decide +kernel
theorem dL_law_327 : decode cL_law 327 = .ok (.iload_n 3, 1) := by decide +kernel
theorem dL_law_328 : decode cL_law 328 = .ok (.iconst 1, 1) := by decide +kernel
theorem dL_law_329 : decode cL_law 329 = .ok (.iadd, 1) := by decide +kernel
theorem dL_law_330 : decode cL_law 330 = .ok (.iaload, 1) := by decide +kernel
theorem dL_law_331 : decode cL_law 331 = .ok (.aload_n 0, 1) := by decide +kernel
theorem dL_law_332 : decode cL_law 332 = .ok (.iload_n 3, 1) := by decide +kernel
theorem dL_law_333 : decode cL_law 333 = .ok (.iconst 2, 1) := by decide +kernel
theorem dL_law_334 : decode cL_law 334 = .ok (.iadd, 1) := by decide +kernel
theorem dL_law_335 : decode cL_law 335 = .ok (.iaload, 1) := by decide +kernel
theorem dL_law_336 : decode cL_law 336 = .ok (.invokevirtual 39, 3) := by decide +kernel
theorem dL_law_339 : decode cL_law 339 = .ok (.if_icmp .eq 734, 3) := by decide +kernel
theorem dL_law_342 : decode cL_law 342 = .ok (.iconst 0, 1) := by decide +kernel
theorem dL_law_343 : decode cL_law 343 = .ok (.ireturn, 1) := by decide +kernel
theorem dL_law_344 : decode cL_law 344 = .ok (.aload_n 1, 1) := by decide +kernel
theorem dL_law_345 : decode cL_law 345 = .ok (.aload_n 0, 1) := by decide +kernel
theorem dL_law_346 : decode cL_law 346 = .ok (.iload_n 3, 1) := by decide +kernel
theorem dL_law_347 : decode cL_law 347 = .ok (.iconst 1, 1) := by decide +kernel
theorem dL_law_348 : decode cL_law 348 = .ok (.iadd, 1) := by decide +kernel
theorem dL_law_349 : decode cL_law 349 = .ok (.iaload, 1) := by decide +kernel
theorem dL_law_350 : decode cL_law 350 = .ok (.aload_n 0, 1) := by decide +kernel
theorem dL_law_351 : decode cL_law 351 = .ok (.iload_n 3, 1) := by decide +kernel
theorem dL_law_352 : decode cL_law 352 = .ok (.iconst 2, 1) := by decide +kernel
theorem dL_law_353 : decode cL_law 353 = .ok (.iadd, 1) := by decide +kernel
theorem dL_law_354 : decode cL_law 354 = .ok (.iaload, 1) := by decide +kernel
theorem dL_law_355 : decode cL_law 355 = .ok (.invokevirtual 40, 3) := by decide +kernel
theorem dL_law_358 : decode cL_law 358 = .ok (.aload_n 2, 1) := by decide +kernel
theorem dL_law_359 : decode cL_law 359 = .ok (.aload_n 0, 1) := by decide +kernel
theorem dL_law_360 : decode cL_law 360 = .ok (.iload_n 3, 1) := by decide +kernel
theorem dL_law_361 : decode cL_law 361 = .ok (.iconst 1, 1) := by decide +kernel
theorem dL_law_362 : decode cL_law 362 = .ok (.iadd, 1) := by decide +kernel
theorem dL_law_363 : decode cL_law 363 = .ok (.iaload, 1) := by decide +kernel
theorem dL_law_364 : decode cL_law 364 = .ok (.aload_n 0, 1) := by decide +kernel
theorem dL_law_365 : decode cL_law 365 = .ok (.iload_n 3, 1) := by decide +kernel
theorem dL_law_366 : decode cL_law 366 = .ok (.iconst 2, 1) := by decide +kernel
theorem dL_law_367 : decode cL_law 367 = .ok (.iadd, 1) := by decide +kernel
theorem dL_law_368 : decode cL_law 368 = .ok (.iaload, 1) := by decide +kernel
theorem dL_law_369 : decode cL_law 369 = .ok (.invokevirtual 43, 3) := by decide +kernel
theorem dL_law_372 : decode cL_law 372 = .ok (.if_icmp .eq 701, 3) := by decide +kernel
theorem dL_law_375 : decode cL_law 375 = .ok (.iconst 0, 1) := by decide +kernel
theorem dL_law_376 : decode cL_law 376 = .ok (.ireturn, 1) := by decide +kernel
theorem dL_law_377 : decode cL_law 377 = .ok (.aload_n 1, 1) := by decide +kernel
theorem dL_law_378 : decode cL_law 378 = .ok (.aload_n 0, 1) := by decide +kernel
theorem dL_law_379 : decode cL_law 379 = .ok (.iload_n 3, 1) := by decide +kernel
theorem dL_law_380 : decode cL_law 380 = .ok (.iconst 1, 1) := by decide +kernel
theorem dL_law_381 : decode cL_law 381 = .ok (.iadd, 1) := by decide +kernel
theorem dL_law_382 : decode cL_law 382 = .ok (.iaload, 1) := by decide +kernel
theorem dL_law_383 : decode cL_law 383 = .ok (.aload_n 0, 1) := by decide +kernel
theorem dL_law_384 : decode cL_law 384 = .ok (.iload_n 3, 1) := by decide +kernel
theorem dL_law_385 : decode cL_law 385 = .ok (.iconst 2, 1) := by decide +kernel
theorem dL_law_386 : decode cL_law 386 = .ok (.iadd, 1) := by decide +kernel
theorem dL_law_387 : decode cL_law 387 = .ok (.iaload, 1) := by decide +kernel
theorem dL_law_388 : decode cL_law 388 = .ok (.invokevirtual 44, 3) := by decide +kernel
theorem dL_law_391 : decode cL_law 391 = .ok (.aload_n 2, 1) := by decide +kernel
theorem dL_law_392 : decode cL_law 392 = .ok (.aload_n 0, 1) := by decide +kernel
theorem dL_law_393 : decode cL_law 393 = .ok (.iload_n 3, 1) := by decide +kernel
theorem dL_law_394 : decode cL_law 394 = .ok (.iconst 1, 1) := by decide +kernel
theorem dL_law_395 : decode cL_law 395 = .ok (.iadd, 1) := by decide +kernel
theorem dL_law_396 : decode cL_law 396 = .ok (.iaload, 1) := by decide +kernel
theorem dL_law_397 : decode cL_law 397 = .ok (.aload_n 0, 1) := by decide +kernel
theorem dL_law_398 : decode cL_law 398 = .ok (.iload_n 3, 1) := by decide +kernel
theorem dL_law_399 : decode cL_law 399 = .ok (.iconst 2, 1) := by decide +kernel
theorem dL_law_400 : decode cL_law 400 = .ok (.iadd, 1) := by decide +kernel
theorem dL_law_401 : decode cL_law 401 = .ok (.iaload, 1) := by decide +kernel
theorem dL_law_402 : decode cL_law 402 = .ok (.invokevirtual 47, 3) := by decide +kernel
theorem dL_law_405 : decode cL_law 405 = .ok (.if_icmp .eq 668, 3) := by decide +kernel
theorem dL_law_408 : decode cL_law 408 = .ok (.iconst 0, 1) := by decide +kernel
theorem dL_law_409 : decode cL_law 409 = .ok (.ireturn, 1) := by decide +kernel
theorem dL_law_410 : decode cL_law 410 = .ok (.aload_n 1, 1) := by decide +kernel
theorem dL_law_411 : decode cL_law 411 = .ok (.aload_n 0, 1) := by decide +kernel
theorem dL_law_412 : decode cL_law 412 = .ok (.iload_n 3, 1) := by decide +kernel
theorem dL_law_413 : decode cL_law 413 = .ok (.iconst 1, 1) := by decide +kernel
theorem dL_law_414 : decode cL_law 414 = .ok (.iadd, 1) := by decide +kernel
theorem dL_law_415 : decode cL_law 415 = .ok (.iaload, 1) := by decide +kernel
theorem dL_law_416 : decode cL_law 416 = .ok (.invokevirtual 48, 3) := by decide +kernel
theorem dL_law_419 : decode cL_law 419 = .ok (.aload_n 2, 1) := by decide +kernel
theorem dL_law_420 : decode cL_law 420 = .ok (.aload_n 0, 1) := by decide +kernel
theorem dL_law_421 : decode cL_law 421 = .ok (.iload_n 3, 1) := by decide +kernel
theorem dL_law_422 : decode cL_law 422 = .ok (.iconst 1, 1) := by decide +kernel
theorem dL_law_423 : decode cL_law 423 = .ok (.iadd, 1) := by decide +kernel
theorem dL_law_424 : decode cL_law 424 = .ok (.iaload, 1) := by decide +kernel
theorem dL_law_425 : decode cL_law 425 = .ok (.invokevirtual 51, 3) := by decide +kernel
theorem dL_law_428 : decode cL_law 428 = .ok (.if_icmp .eq 645, 3) := by decide +kernel
theorem dL_law_431 : decode cL_law 431 = .ok (.iconst 0, 1) := by decide +kernel
theorem dL_law_432 : decode cL_law 432 = .ok (.ireturn, 1) := by decide +kernel
theorem dL_law_433 : decode cL_law 433 = .ok (.aload_n 1, 1) := by decide +kernel
theorem dL_law_434 : decode cL_law 434 = .ok (.aload_n 0, 1) := by decide +kernel
theorem dL_law_435 : decode cL_law 435 = .ok (.iload_n 3, 1) := by decide +kernel
theorem dL_law_436 : decode cL_law 436 = .ok (.iconst 1, 1) := by decide +kernel
theorem dL_law_437 : decode cL_law 437 = .ok (.iadd, 1) := by decide +kernel
theorem dL_law_438 : decode cL_law 438 = .ok (.iaload, 1) := by decide +kernel
theorem dL_law_439 : decode cL_law 439 = .ok (.aload_n 0, 1) := by decide +kernel
theorem dL_law_440 : decode cL_law 440 = .ok (.iload_n 3, 1) := by decide +kernel
theorem dL_law_441 : decode cL_law 441 = .ok (.iconst 2, 1) := by decide +kernel
theorem dL_law_442 : decode cL_law 442 = .ok (.iadd, 1) := by decide +kernel
theorem dL_law_443 : decode cL_law 443 = .ok (.iaload, 1) := by decide +kernel
theorem dL_law_444 : decode cL_law 444 = .ok (.invokevirtual 52, 3) := by decide +kernel
theorem dL_law_447 : decode cL_law 447 = .ok (.aload_n 2, 1) := by decide +kernel
theorem dL_law_448 : decode cL_law 448 = .ok (.aload_n 0, 1) := by decide +kernel
theorem dL_law_449 : decode cL_law 449 = .ok (.iload_n 3, 1) := by decide +kernel
theorem dL_law_450 : decode cL_law 450 = .ok (.iconst 1, 1) := by decide +kernel
theorem dL_law_451 : decode cL_law 451 = .ok (.iadd, 1) := by decide +kernel
theorem dL_law_452 : decode cL_law 452 = .ok (.iaload, 1) := by decide +kernel
theorem dL_law_453 : decode cL_law 453 = .ok (.aload_n 0, 1) := by decide +kernel
theorem dL_law_454 : decode cL_law 454 = .ok (.iload_n 3, 1) := by decide +kernel
theorem dL_law_455 : decode cL_law 455 = .ok (.iconst 2, 1) := by decide +kernel
theorem dL_law_456 : decode cL_law 456 = .ok (.iadd, 1) := by decide +kernel
theorem dL_law_457 : decode cL_law 457 = .ok (.iaload, 1) := by decide +kernel
theorem dL_law_458 : decode cL_law 458 = .ok (.invokevirtual 55, 3) := by decide +kernel
theorem dL_law_461 : decode cL_law 461 = .ok (.if_icmp .eq 612, 3) := by decide +kernel
theorem dL_law_464 : decode cL_law 464 = .ok (.iconst 0, 1) := by decide +kernel
theorem dL_law_465 : decode cL_law 465 = .ok (.ireturn, 1) := by decide +kernel
theorem dL_law_466 : decode cL_law 466 = .ok (.aload_n 1, 1) := by decide +kernel
theorem dL_law_467 : decode cL_law 467 = .ok (.aload_n 0, 1) := by decide +kernel
theorem dL_law_468 : decode cL_law 468 = .ok (.iload_n 3, 1) := by decide +kernel
theorem dL_law_469 : decode cL_law 469 = .ok (.iconst 1, 1) := by decide +kernel
theorem dL_law_470 : decode cL_law 470 = .ok (.iadd, 1) := by decide +kernel
theorem dL_law_471 : decode cL_law 471 = .ok (.iaload, 1) := by decide +kernel
theorem dL_law_472 : decode cL_law 472 = .ok (.aload_n 0, 1) := by decide +kernel
theorem dL_law_473 : decode cL_law 473 = .ok (.iload_n 3, 1) := by decide +kernel
theorem dL_law_474 : decode cL_law 474 = .ok (.iconst 2, 1) := by decide +kernel
theorem dL_law_475 : decode cL_law 475 = .ok (.iadd, 1) := by decide +kernel
theorem dL_law_476 : decode cL_law 476 = .ok (.iaload, 1) := by decide +kernel
theorem dL_law_477 : decode cL_law 477 = .ok (.invokevirtual 56, 3) := by decide +kernel
theorem dL_law_480 : decode cL_law 480 = .ok (.aload_n 2, 1) := by decide +kernel
theorem dL_law_481 : decode cL_law 481 = .ok (.aload_n 0, 1) := by decide +kernel
theorem dL_law_482 : decode cL_law 482 = .ok (.iload_n 3, 1) := by decide +kernel
theorem dL_law_483 : decode cL_law 483 = .ok (.iconst 1, 1) := by decide +kernel
theorem dL_law_484 : decode cL_law 484 = .ok (.iadd, 1) := by decide +kernel
theorem dL_law_485 : decode cL_law 485 = .ok (.iaload, 1) := by decide +kernel
theorem dL_law_486 : decode cL_law 486 = .ok (.aload_n 0, 1) := by decide +kernel
theorem dL_law_487 : decode cL_law 487 = .ok (.iload_n 3, 1) := by decide +kernel
theorem dL_law_488 : decode cL_law 488 = .ok (.iconst 2, 1) := by decide +kernel
theorem dL_law_489 : decode cL_law 489 = .ok (.iadd, 1) := by decide +kernel
theorem dL_law_490 : decode cL_law 490 = .ok (.iaload, 1) := by decide +kernel
theorem dL_law_491 : decode cL_law 491 = .ok (.invokevirtual 59, 3) := by decide +kernel
theorem dL_law_494 : decode cL_law 494 = .ok (.if_icmp .eq 579, 3) := by decide +kernel
theorem dL_law_497 : decode cL_law 497 = .ok (.iconst 0, 1) := by decide +kernel
theorem dL_law_498 : decode cL_law 498 = .ok (.ireturn, 1) := by decide +kernel
theorem dL_law_499 : decode cL_law 499 = .ok (.aload_n 1, 1) := by decide +kernel
theorem dL_law_500 : decode cL_law 500 = .ok (.aload_n 0, 1) := by decide +kernel
theorem dL_law_501 : decode cL_law 501 = .ok (.iload_n 3, 1) := by decide +kernel
theorem dL_law_502 : decode cL_law 502 = .ok (.iconst 1, 1) := by decide +kernel
theorem dL_law_503 : decode cL_law 503 = .ok (.iadd, 1) := by decide +kernel
theorem dL_law_504 : decode cL_law 504 = .ok (.iaload, 1) := by decide +kernel
theorem dL_law_505 : decode cL_law 505 = .ok (.aload_n 0, 1) := by decide +kernel
theorem dL_law_506 : decode cL_law 506 = .ok (.iload_n 3, 1) := by decide +kernel
theorem dL_law_507 : decode cL_law 507 = .ok (.iconst 2, 1) := by decide +kernel
theorem dL_law_508 : decode cL_law 508 = .ok (.iadd, 1) := by decide +kernel
theorem dL_law_509 : decode cL_law 509 = .ok (.iaload, 1) := by decide +kernel
theorem dL_law_510 : decode cL_law 510 = .ok (.invokevirtual 60, 3) := by decide +kernel
theorem dL_law_513 : decode cL_law 513 = .ok (.aload_n 2, 1) := by decide +kernel
theorem dL_law_514 : decode cL_law 514 = .ok (.aload_n 0, 1) := by decide +kernel
theorem dL_law_515 : decode cL_law 515 = .ok (.iload_n 3, 1) := by decide +kernel
theorem dL_law_516 : decode cL_law 516 = .ok (.iconst 1, 1) := by decide +kernel
theorem dL_law_517 : decode cL_law 517 = .ok (.iadd, 1) := by decide +kernel
theorem dL_law_518 : decode cL_law 518 = .ok (.iaload, 1) := by decide +kernel
theorem dL_law_519 : decode cL_law 519 = .ok (.aload_n 0, 1) := by decide +kernel
theorem dL_law_520 : decode cL_law 520 = .ok (.iload_n 3, 1) := by decide +kernel
theorem dL_law_521 : decode cL_law 521 = .ok (.iconst 2, 1) := by decide +kernel
theorem dL_law_522 : decode cL_law 522 = .ok (.iadd, 1) := by decide +kernel
theorem dL_law_523 : decode cL_law 523 = .ok (.iaload, 1) := by decide +kernel
theorem dL_law_524 : decode cL_law 524 = .ok (.invokevirtual 63, 3) := by decide +kernel
theorem dL_law_527 : decode cL_law 527 = .ok (.if_icmp .eq 546, 3) := by decide +kernel
theorem dL_law_530 : decode cL_law 530 = .ok (.iconst 0, 1) := by decide +kernel
theorem dL_law_531 : decode cL_law 531 = .ok (.ireturn, 1) := by decide +kernel
theorem dL_law_532 : decode cL_law 532 = .ok (.aload_n 1, 1) := by decide +kernel
theorem dL_law_533 : decode cL_law 533 = .ok (.aload_n 0, 1) := by decide +kernel
theorem dL_law_534 : decode cL_law 534 = .ok (.iload_n 3, 1) := by decide +kernel
theorem dL_law_535 : decode cL_law 535 = .ok (.iconst 1, 1) := by decide +kernel
theorem dL_law_536 : decode cL_law 536 = .ok (.iadd, 1) := by decide +kernel
theorem dL_law_537 : decode cL_law 537 = .ok (.iaload, 1) := by decide +kernel
theorem dL_law_538 : decode cL_law 538 = .ok (.aload_n 0, 1) := by decide +kernel
theorem dL_law_539 : decode cL_law 539 = .ok (.iload_n 3, 1) := by decide +kernel
theorem dL_law_540 : decode cL_law 540 = .ok (.iconst 2, 1) := by decide +kernel
theorem dL_law_541 : decode cL_law 541 = .ok (.iadd, 1) := by decide +kernel
theorem dL_law_542 : decode cL_law 542 = .ok (.iaload, 1) := by decide +kernel
theorem dL_law_543 : decode cL_law 543 = .ok (.invokevirtual 64, 3) := by decide +kernel
theorem dL_law_546 : decode cL_law 546 = .ok (.aload_n 2, 1) := by decide +kernel
theorem dL_law_547 : decode cL_law 547 = .ok (.aload_n 0, 1) := by decide +kernel
theorem dL_law_548 : decode cL_law 548 = .ok (.iload_n 3, 1) := by decide +kernel
theorem dL_law_549 : decode cL_law 549 = .ok (.iconst 1, 1) := by decide +kernel
theorem dL_law_550 : decode cL_law 550 = .ok (.iadd, 1) := by decide +kernel
theorem dL_law_551 : decode cL_law 551 = .ok (.iaload, 1) := by decide +kernel
theorem dL_law_552 : decode cL_law 552 = .ok (.aload_n 0, 1) := by decide +kernel
theorem dL_law_553 : decode cL_law 553 = .ok (.iload_n 3, 1) := by decide +kernel
theorem dL_law_554 : decode cL_law 554 = .ok (.iconst 2, 1) := by decide +kernel
theorem dL_law_555 : decode cL_law 555 = .ok (.iadd, 1) := by decide +kernel
theorem dL_law_556 : decode cL_law 556 = .ok (.iaload, 1) := by decide +kernel
theorem dL_law_557 : decode cL_law 557 = .ok (.invokevirtual 67, 3) := by decide +kernel
theorem dL_law_560 : decode cL_law 560 = .ok (.if_icmp .eq 513, 3) := by decide +kernel
theorem dL_law_563 : decode cL_law 563 = .ok (.iconst 0, 1) := by decide +kernel
theorem dL_law_564 : decode cL_law 564 = .ok (.ireturn, 1) := by decide +kernel
theorem dL_law_565 : decode cL_law 565 = .ok (.aload_n 1, 1) := by decide +kernel
theorem dL_law_566 : decode cL_law 566 = .ok (.aload_n 0, 1) := by decide +kernel
theorem dL_law_567 : decode cL_law 567 = .ok (.iload_n 3, 1) := by decide +kernel
theorem dL_law_568 : decode cL_law 568 = .ok (.iconst 1, 1) := by decide +kernel
theorem dL_law_569 : decode cL_law 569 = .ok (.iadd, 1) := by decide +kernel
theorem dL_law_570 : decode cL_law 570 = .ok (.iaload, 1) := by decide +kernel
theorem dL_law_571 : decode cL_law 571 = .ok (.invokevirtual 68, 3) := by decide +kernel
theorem dL_law_574 : decode cL_law 574 = .ok (.aload_n 2, 1) := by decide +kernel
theorem dL_law_575 : decode cL_law 575 = .ok (.aload_n 0, 1) := by decide +kernel
theorem dL_law_576 : decode cL_law 576 = .ok (.iload_n 3, 1) := by decide +kernel
theorem dL_law_577 : decode cL_law 577 = .ok (.iconst 1, 1) := by decide +kernel
theorem dL_law_578 : decode cL_law 578 = .ok (.iadd, 1) := by decide +kernel
theorem dL_law_579 : decode cL_law 579 = .ok (.iaload, 1) := by decide +kernel
theorem dL_law_580 : decode cL_law 580 = .ok (.invokevirtual 71, 3) := by decide +kernel
theorem dL_law_583 : decode cL_law 583 = .ok (.if_icmp .eq 490, 3) := by decide +kernel
theorem dL_law_586 : decode cL_law 586 = .ok (.iconst 0, 1) := by decide +kernel
theorem dL_law_587 : decode cL_law 587 = .ok (.ireturn, 1) := by decide +kernel
theorem dL_law_588 : decode cL_law 588 = .ok (.aload_n 1, 1) := by decide +kernel
theorem dL_law_589 : decode cL_law 589 = .ok (.aload_n 0, 1) := by decide +kernel
theorem dL_law_590 : decode cL_law 590 = .ok (.iload_n 3, 1) := by decide +kernel
theorem dL_law_591 : decode cL_law 591 = .ok (.iconst 1, 1) := by decide +kernel
theorem dL_law_592 : decode cL_law 592 = .ok (.iadd, 1) := by decide +kernel
theorem dL_law_593 : decode cL_law 593 = .ok (.iaload, 1) := by decide +kernel
theorem dL_law_594 : decode cL_law 594 = .ok (.aload_n 0, 1) := by decide +kernel
theorem dL_law_595 : decode cL_law 595 = .ok (.iload_n 3, 1) := by decide +kernel
theorem dL_law_596 : decode cL_law 596 = .ok (.iconst 2, 1) := by decide +kernel
theorem dL_law_597 : decode cL_law 597 = .ok (.iadd, 1) := by decide +kernel
theorem dL_law_598 : decode cL_law 598 = .ok (.iaload, 1) := by decide +kernel
theorem dL_law_599 : decode cL_law 599 = .ok (.invokevirtual 72, 3) := by decide +kernel
theorem dL_law_602 : decode cL_law 602 = .ok (.aload_n 2, 1) := by decide +kernel
theorem dL_law_603 : decode cL_law 603 = .ok (.aload_n 0, 1) := by decide +kernel
theorem dL_law_604 : decode cL_law 604 = .ok (.iload_n 3, 1) := by decide +kernel
theorem dL_law_605 : decode cL_law 605 = .ok (.iconst 1, 1) := by decide +kernel
theorem dL_law_606 : decode cL_law 606 = .ok (.iadd, 1) := by decide +kernel
theorem dL_law_607 : decode cL_law 607 = .ok (.iaload, 1) := by decide +kernel
theorem dL_law_608 : decode cL_law 608 = .ok (.aload_n 0, 1) := by decide +kernel
theorem dL_law_609 : decode cL_law 609 = .ok (.iload_n 3, 1) := by decide +kernel
theorem dL_law_610 : decode cL_law 610 = .ok (.iconst 2, 1) := by decide +kernel
theorem dL_law_611 : decode cL_law 611 = .ok (.iadd, 1) := by decide +kernel
theorem dL_law_612 : decode cL_law 612 = .ok (.iaload, 1) := by decide +kernel
theorem dL_law_613 : decode cL_law 613 = .ok (.invokevirtual 75, 3) := by decide +kernel
theorem dL_law_616 : decode cL_law 616 = .ok (.if_icmp .eq 457, 3) := by decide +kernel
theorem dL_law_619 : decode cL_law 619 = .ok (.iconst 0, 1) := by decide +kernel
theorem dL_law_620 : decode cL_law 620 = .ok (.ireturn, 1) := by decide +kernel
theorem dL_law_621 : decode cL_law 621 = .ok (.aload_n 1, 1) := by decide +kernel
theorem dL_law_622 : decode cL_law 622 = .ok (.aload_n 0, 1) := by decide +kernel
theorem dL_law_623 : decode cL_law 623 = .ok (.iload_n 3, 1) := by decide +kernel
theorem dL_law_624 : decode cL_law 624 = .ok (.iconst 1, 1) := by decide +kernel
theorem dL_law_625 : decode cL_law 625 = .ok (.iadd, 1) := by decide +kernel
theorem dL_law_626 : decode cL_law 626 = .ok (.iaload, 1) := by decide +kernel
theorem dL_law_627 : decode cL_law 627 = .ok (.aload_n 0, 1) := by decide +kernel
theorem dL_law_628 : decode cL_law 628 = .ok (.iload_n 3, 1) := by decide +kernel
theorem dL_law_629 : decode cL_law 629 = .ok (.iconst 2, 1) := by decide +kernel
theorem dL_law_630 : decode cL_law 630 = .ok (.iadd, 1) := by decide +kernel
theorem dL_law_631 : decode cL_law 631 = .ok (.iaload, 1) := by decide +kernel
theorem dL_law_632 : decode cL_law 632 = .ok (.invokevirtual 76, 3) := by decide +kernel
theorem dL_law_635 : decode cL_law 635 = .ok (.aload_n 2, 1) := by decide +kernel
theorem dL_law_636 : decode cL_law 636 = .ok (.aload_n 0, 1) := by decide +kernel
theorem dL_law_637 : decode cL_law 637 = .ok (.iload_n 3, 1) := by decide +kernel
theorem dL_law_638 : decode cL_law 638 = .ok (.iconst 1, 1) := by decide +kernel
theorem dL_law_639 : decode cL_law 639 = .ok (.iadd, 1) := by decide +kernel
theorem dL_law_640 : decode cL_law 640 = .ok (.iaload, 1) := by decide +kernel
theorem dL_law_641 : decode cL_law 641 = .ok (.aload_n 0, 1) := by decide +kernel
theorem dL_law_642 : decode cL_law 642 = .ok (.iload_n 3, 1) := by decide +kernel
theorem dL_law_643 : decode cL_law 643 = .ok (.iconst 2, 1) := by decide +kernel
theorem dL_law_644 : decode cL_law 644 = .ok (.iadd, 1) := by decide +kernel
theorem dL_law_645 : decode cL_law 645 = .ok (.iaload, 1) := by decide +kernel
theorem dL_law_646 : decode cL_law 646 = .ok (.invokevirtual 79, 3) := by decide +kernel
theorem dL_law_649 : decode cL_law 649 = .ok (.if_icmp .eq 424, 3) := by decide +kernel
theorem dL_law_652 : decode cL_law 652 = .ok (.iconst 0, 1) := by decide +kernel
theorem dL_law_653 : decode cL_law 653 = .ok (.ireturn, 1) := by decide +kernel
theorem dL_law_654 : decode cL_law 654 = .ok (.aload_n 1, 1) := by decide +kernel
theorem dL_law_655 : decode cL_law 655 = .ok (.aload_n 0, 1) := by decide +kernel
theorem dL_law_656 : decode cL_law 656 = .ok (.iload_n 3, 1) := by decide +kernel
theorem dL_law_657 : decode cL_law 657 = .ok (.iconst 1, 1) := by decide +kernel
theorem dL_law_658 : decode cL_law 658 = .ok (.iadd, 1) := by decide +kernel
theorem dL_law_659 : decode cL_law 659 = .ok (.iaload, 1) := by decide +kernel
theorem dL_law_660 : decode cL_law 660 = .ok (.invokevirtual 80, 3) := by decide +kernel
theorem dL_law_663 : decode cL_law 663 = .ok (.aload_n 2, 1) := by decide +kernel
theorem dL_law_664 : decode cL_law 664 = .ok (.aload_n 0, 1) := by decide +kernel
theorem dL_law_665 : decode cL_law 665 = .ok (.iload_n 3, 1) := by decide +kernel
theorem dL_law_666 : decode cL_law 666 = .ok (.iconst 1, 1) := by decide +kernel
theorem dL_law_667 : decode cL_law 667 = .ok (.iadd, 1) := by decide +kernel
theorem dL_law_668 : decode cL_law 668 = .ok (.iaload, 1) := by decide +kernel
theorem dL_law_669 : decode cL_law 669 = .ok (.invokevirtual 83, 3) := by decide +kernel
theorem dL_law_672 : decode cL_law 672 = .ok (.if_icmp .eq 401, 3) := by decide +kernel
theorem dL_law_675 : decode cL_law 675 = .ok (.iconst 0, 1) := by decide +kernel
theorem dL_law_676 : decode cL_law 676 = .ok (.ireturn, 1) := by decide +kernel
theorem dL_law_677 : decode cL_law 677 = .ok (.aload_n 1, 1) := by decide +kernel
theorem dL_law_678 : decode cL_law 678 = .ok (.aload_n 0, 1) := by decide +kernel
theorem dL_law_679 : decode cL_law 679 = .ok (.iload_n 3, 1) := by decide +kernel
theorem dL_law_680 : decode cL_law 680 = .ok (.iconst 1, 1) := by decide +kernel
theorem dL_law_681 : decode cL_law 681 = .ok (.iadd, 1) := by decide +kernel
theorem dL_law_682 : decode cL_law 682 = .ok (.iaload, 1) := by decide +kernel
theorem dL_law_683 : decode cL_law 683 = .ok (.aload_n 0, 1) := by decide +kernel
theorem dL_law_684 : decode cL_law 684 = .ok (.iload_n 3, 1) := by decide +kernel
theorem dL_law_685 : decode cL_law 685 = .ok (.iconst 2, 1) := by decide +kernel
theorem dL_law_686 : decode cL_law 686 = .ok (.iadd, 1) := by decide +kernel
theorem dL_law_687 : decode cL_law 687 = .ok (.iaload, 1) := by decide +kernel
theorem dL_law_688 : decode cL_law 688 = .ok (.aload_n 0, 1) := by decide +kernel
theorem dL_law_689 : decode cL_law 689 = .ok (.iload_n 3, 1) := by decide +kernel
theorem dL_law_690 : decode cL_law 690 = .ok (.iconst 3, 1) := by decide +kernel
theorem dL_law_691 : decode cL_law 691 = .ok (.iadd, 1) := by decide +kernel
theorem dL_law_692 : decode cL_law 692 = .ok (.iaload, 1) := by decide +kernel
theorem dL_law_693 : decode cL_law 693 = .ok (.invokevirtual 84, 3) := by decide +kernel
theorem dL_law_696 : decode cL_law 696 = .ok (.aload_n 2, 1) := by decide +kernel
theorem dL_law_697 : decode cL_law 697 = .ok (.aload_n 0, 1) := by decide +kernel
theorem dL_law_698 : decode cL_law 698 = .ok (.iload_n 3, 1) := by decide +kernel
theorem dL_law_699 : decode cL_law 699 = .ok (.iconst 1, 1) := by decide +kernel
theorem dL_law_700 : decode cL_law 700 = .ok (.iadd, 1) := by decide +kernel
theorem dL_law_701 : decode cL_law 701 = .ok (.iaload, 1) := by decide +kernel
theorem dL_law_702 : decode cL_law 702 = .ok (.aload_n 0, 1) := by decide +kernel
theorem dL_law_703 : decode cL_law 703 = .ok (.iload_n 3, 1) := by decide +kernel
theorem dL_law_704 : decode cL_law 704 = .ok (.iconst 2, 1) := by decide +kernel
theorem dL_law_705 : decode cL_law 705 = .ok (.iadd, 1) := by decide +kernel
theorem dL_law_706 : decode cL_law 706 = .ok (.iaload, 1) := by decide +kernel
theorem dL_law_707 : decode cL_law 707 = .ok (.aload_n 0, 1) := by decide +kernel
theorem dL_law_708 : decode cL_law 708 = .ok (.iload_n 3, 1) := by decide +kernel
theorem dL_law_709 : decode cL_law 709 = .ok (.iconst 3, 1) := by decide +kernel
theorem dL_law_710 : decode cL_law 710 = .ok (.iadd, 1) := by decide +kernel
theorem dL_law_711 : decode cL_law 711 = .ok (.iaload, 1) := by decide +kernel
theorem dL_law_712 : decode cL_law 712 = .ok (.invokevirtual 88, 3) := by decide +kernel
theorem dL_law_715 : decode cL_law 715 = .ok (.if_icmp .eq 358, 3) := by decide +kernel
theorem dL_law_718 : decode cL_law 718 = .ok (.iconst 0, 1) := by decide +kernel
theorem dL_law_719 : decode cL_law 719 = .ok (.ireturn, 1) := by decide +kernel
theorem dL_law_720 : decode cL_law 720 = .ok (.aload_n 1, 1) := by decide +kernel
theorem dL_law_721 : decode cL_law 721 = .ok (.invokevirtual 89, 3) := by decide +kernel
theorem dL_law_724 : decode cL_law 724 = .ok (.aload_n 2, 1) := by decide +kernel
theorem dL_law_725 : decode cL_law 725 = .ok (.invokevirtual 92, 3) := by decide +kernel
theorem dL_law_728 : decode cL_law 728 = .ok (.if_icmp .eq 345, 3) := by decide +kernel
theorem dL_law_731 : decode cL_law 731 = .ok (.iconst 0, 1) := by decide +kernel
theorem dL_law_732 : decode cL_law 732 = .ok (.ireturn, 1) := by decide +kernel
theorem dL_law_733 : decode cL_law 733 = .ok (.aload_n 1, 1) := by decide +kernel
theorem dL_law_734 : decode cL_law 734 = .ok (.aload_n 0, 1) := by decide +kernel
theorem dL_law_735 : decode cL_law 735 = .ok (.iload_n 3, 1) := by decide +kernel
theorem dL_law_736 : decode cL_law 736 = .ok (.iconst 1, 1) := by decide +kernel
theorem dL_law_737 : decode cL_law 737 = .ok (.iadd, 1) := by decide +kernel
theorem dL_law_738 : decode cL_law 738 = .ok (.iaload, 1) := by decide +kernel
theorem dL_law_739 : decode cL_law 739 = .ok (.aload_n 0, 1) := by decide +kernel
theorem dL_law_740 : decode cL_law 740 = .ok (.iload_n 3, 1) := by decide +kernel
theorem dL_law_741 : decode cL_law 741 = .ok (.iconst 2, 1) := by decide +kernel
theorem dL_law_742 : decode cL_law 742 = .ok (.iadd, 1) := by decide +kernel
theorem dL_law_743 : decode cL_law 743 = .ok (.iaload, 1) := by decide +kernel
theorem dL_law_744 : decode cL_law 744 = .ok (.invokevirtual 93, 3) := by decide +kernel
theorem dL_law_747 : decode cL_law 747 = .ok (.aload_n 2, 1) := by decide +kernel
theorem dL_law_748 : decode cL_law 748 = .ok (.aload_n 0, 1) := by decide +kernel
theorem dL_law_749 : decode cL_law 749 = .ok (.iload_n 3, 1) := by decide +kernel
theorem dL_law_750 : decode cL_law 750 = .ok (.iconst 1, 1) := by decide +kernel
theorem dL_law_751 : decode cL_law 751 = .ok (.iadd, 1) := by decide +kernel
theorem dL_law_752 : decode cL_law 752 = .ok (.iaload, 1) := by decide +kernel
theorem dL_law_753 : decode cL_law 753 = .ok (.aload_n 0, 1) := by decide +kernel
theorem dL_law_754 : decode cL_law 754 = .ok (.iload_n 3, 1) := by decide +kernel
theorem dL_law_755 : decode cL_law 755 = .ok (.iconst 2, 1) := by decide +kernel
theorem dL_law_756 : decode cL_law 756 = .ok (.iadd, 1) := by decide +kernel
theorem dL_law_757 : decode cL_law 757 = .ok (.iaload, 1) := by decide +kernel
theorem dL_law_758 : decode cL_law 758 = .ok (.invokevirtual 96, 3) := by decide +kernel
theorem dL_law_761 : decode cL_law 761 = .ok (.if_icmp .eq 312, 3) := by decide +kernel
theorem dL_law_764 : decode cL_law 764 = .ok (.iconst 0, 1) := by decide +kernel
theorem dL_law_765 : decode cL_law 765 = .ok (.ireturn, 1) := by decide +kernel
theorem dL_law_766 : decode cL_law 766 = .ok (.aload_n 1, 1) := by decide +kernel
theorem dL_law_767 : decode cL_law 767 = .ok (.invokevirtual 97, 3) := by decide +kernel
theorem dL_law_770 : decode cL_law 770 = .ok (.aload_n 2, 1) := by decide +kernel
theorem dL_law_771 : decode cL_law 771 = .ok (.invokevirtual 100, 3) := by decide +kernel
theorem dL_law_774 : decode cL_law 774 = .ok (.if_icmp .eq 299, 3) := by decide +kernel
theorem dL_law_777 : decode cL_law 777 = .ok (.iconst 0, 1) := by decide +kernel
theorem dL_law_778 : decode cL_law 778 = .ok (.ireturn, 1) := by decide +kernel
theorem dL_law_779 : decode cL_law 779 = .ok (.aload_n 1, 1) := by decide +kernel
theorem dL_law_780 : decode cL_law 780 = .ok (.aload_n 0, 1) := by decide +kernel
theorem dL_law_781 : decode cL_law 781 = .ok (.iload_n 3, 1) := by decide +kernel
theorem dL_law_782 : decode cL_law 782 = .ok (.iconst 1, 1) := by decide +kernel
theorem dL_law_783 : decode cL_law 783 = .ok (.iadd, 1) := by decide +kernel
theorem dL_law_784 : decode cL_law 784 = .ok (.iaload, 1) := by decide +kernel
theorem dL_law_785 : decode cL_law 785 = .ok (.invokevirtual 101, 3) := by decide +kernel
theorem dL_law_788 : decode cL_law 788 = .ok (.aload_n 2, 1) := by decide +kernel
theorem dL_law_789 : decode cL_law 789 = .ok (.aload_n 0, 1) := by decide +kernel
theorem dL_law_790 : decode cL_law 790 = .ok (.iload_n 3, 1) := by decide +kernel
theorem dL_law_791 : decode cL_law 791 = .ok (.iconst 1, 1) := by decide +kernel
theorem dL_law_792 : decode cL_law 792 = .ok (.iadd, 1) := by decide +kernel
theorem dL_law_793 : decode cL_law 793 = .ok (.iaload, 1) := by decide +kernel
theorem dL_law_794 : decode cL_law 794 = .ok (.invokevirtual 104, 3) := by decide +kernel
theorem dL_law_797 : decode cL_law 797 = .ok (.if_icmp .eq 276, 3) := by decide +kernel
theorem dL_law_800 : decode cL_law 800 = .ok (.iconst 0, 1) := by decide +kernel
theorem dL_law_801 : decode cL_law 801 = .ok (.ireturn, 1) := by decide +kernel
theorem dL_law_802 : decode cL_law 802 = .ok (.aload_n 1, 1) := by decide +kernel
theorem dL_law_803 : decode cL_law 803 = .ok (.aload_n 0, 1) := by decide +kernel
theorem dL_law_804 : decode cL_law 804 = .ok (.iload_n 3, 1) := by decide +kernel
theorem dL_law_805 : decode cL_law 805 = .ok (.iconst 1, 1) := by decide +kernel
theorem dL_law_806 : decode cL_law 806 = .ok (.iadd, 1) := by decide +kernel
theorem dL_law_807 : decode cL_law 807 = .ok (.iaload, 1) := by decide +kernel
theorem dL_law_808 : decode cL_law 808 = .ok (.invokevirtual 105, 3) := by decide +kernel
theorem dL_law_811 : decode cL_law 811 = .ok (.aload_n 2, 1) := by decide +kernel
theorem dL_law_812 : decode cL_law 812 = .ok (.aload_n 0, 1) := by decide +kernel
theorem dL_law_813 : decode cL_law 813 = .ok (.iload_n 3, 1) := by decide +kernel
theorem dL_law_814 : decode cL_law 814 = .ok (.iconst 1, 1) := by decide +kernel
theorem dL_law_815 : decode cL_law 815 = .ok (.iadd, 1) := by decide +kernel
theorem dL_law_816 : decode cL_law 816 = .ok (.iaload, 1) := by decide +kernel
theorem dL_law_817 : decode cL_law 817 = .ok (.invokevirtual 108, 3) := by decide +kernel
theorem dL_law_820 : decode cL_law 820 = .ok (.if_icmp .eq 253, 3) := by decide +kernel
theorem dL_law_823 : decode cL_law 823 = .ok (.iconst 0, 1) := by decide +kernel
theorem dL_law_824 : decode cL_law 824 = .ok (.ireturn, 1) := by decide +kernel
theorem dL_law_825 : decode cL_law 825 = .ok (.aload_n 1, 1) := by decide +kernel
theorem dL_law_826 : decode cL_law 826 = .ok (.aload_n 0, 1) := by decide +kernel
theorem dL_law_827 : decode cL_law 827 = .ok (.iload_n 3, 1) := by decide +kernel
theorem dL_law_828 : decode cL_law 828 = .ok (.iconst 1, 1) := by decide +kernel
theorem dL_law_829 : decode cL_law 829 = .ok (.iadd, 1) := by decide +kernel
theorem dL_law_830 : decode cL_law 830 = .ok (.iaload, 1) := by decide +kernel
theorem dL_law_831 : decode cL_law 831 = .ok (.aload_n 0, 1) := by decide +kernel
theorem dL_law_832 : decode cL_law 832 = .ok (.iload_n 3, 1) := by decide +kernel
theorem dL_law_833 : decode cL_law 833 = .ok (.iconst 2, 1) := by decide +kernel
theorem dL_law_834 : decode cL_law 834 = .ok (.iadd, 1) := by decide +kernel
theorem dL_law_835 : decode cL_law 835 = .ok (.iaload, 1) := by decide +kernel
theorem dL_law_836 : decode cL_law 836 = .ok (.invokevirtual 109, 3) := by decide +kernel
theorem dL_law_839 : decode cL_law 839 = .ok (.aload_n 2, 1) := by decide +kernel
theorem dL_law_840 : decode cL_law 840 = .ok (.aload_n 0, 1) := by decide +kernel
theorem dL_law_841 : decode cL_law 841 = .ok (.iload_n 3, 1) := by decide +kernel
theorem dL_law_842 : decode cL_law 842 = .ok (.iconst 1, 1) := by decide +kernel
theorem dL_law_843 : decode cL_law 843 = .ok (.iadd, 1) := by decide +kernel
theorem dL_law_844 : decode cL_law 844 = .ok (.iaload, 1) := by decide +kernel
theorem dL_law_845 : decode cL_law 845 = .ok (.aload_n 0, 1) := by decide +kernel
theorem dL_law_846 : decode cL_law 846 = .ok (.iload_n 3, 1) := by decide +kernel
theorem dL_law_847 : decode cL_law 847 = .ok (.iconst 2, 1) := by decide +kernel
theorem dL_law_848 : decode cL_law 848 = .ok (.iadd, 1) := by decide +kernel
theorem dL_law_849 : decode cL_law 849 = .ok (.iaload, 1) := by decide +kernel
theorem dL_law_850 : decode cL_law 850 = .ok (.invokevirtual 112, 3) := by decide +kernel
theorem dL_law_853 : decode cL_law 853 = .ok (.if_icmp .eq 220, 3) := by decide +kernel
theorem dL_law_856 : decode cL_law 856 = .ok (.iconst 0, 1) := by decide +kernel
theorem dL_law_857 : decode cL_law 857 = .ok (.ireturn, 1) := by decide +kernel
theorem dL_law_858 : decode cL_law 858 = .ok (.aload_n 1, 1) := by decide +kernel
theorem dL_law_859 : decode cL_law 859 = .ok (.aload_n 0, 1) := by decide +kernel
theorem dL_law_860 : decode cL_law 860 = .ok (.iload_n 3, 1) := by decide +kernel
theorem dL_law_861 : decode cL_law 861 = .ok (.iconst 1, 1) := by decide +kernel
theorem dL_law_862 : decode cL_law 862 = .ok (.iadd, 1) := by decide +kernel
theorem dL_law_863 : decode cL_law 863 = .ok (.iaload, 1) := by decide +kernel
theorem dL_law_864 : decode cL_law 864 = .ok (.aload_n 0, 1) := by decide +kernel
theorem dL_law_865 : decode cL_law 865 = .ok (.iload_n 3, 1) := by decide +kernel
theorem dL_law_866 : decode cL_law 866 = .ok (.iconst 2, 1) := by decide +kernel
theorem dL_law_867 : decode cL_law 867 = .ok (.iadd, 1) := by decide +kernel
theorem dL_law_868 : decode cL_law 868 = .ok (.iaload, 1) := by decide +kernel
theorem dL_law_869 : decode cL_law 869 = .ok (.aload_n 0, 1) := by decide +kernel
theorem dL_law_870 : decode cL_law 870 = .ok (.iload_n 3, 1) := by decide +kernel
theorem dL_law_871 : decode cL_law 871 = .ok (.iconst 3, 1) := by decide +kernel
theorem dL_law_872 : decode cL_law 872 = .ok (.iadd, 1) := by decide +kernel
theorem dL_law_873 : decode cL_law 873 = .ok (.iaload, 1) := by decide +kernel
theorem dL_law_874 : decode cL_law 874 = .ok (.aload_n 0, 1) := by decide +kernel
theorem dL_law_875 : decode cL_law 875 = .ok (.iload_n 3, 1) := by decide +kernel
theorem dL_law_876 : decode cL_law 876 = .ok (.iconst 4, 1) := by decide +kernel
theorem dL_law_877 : decode cL_law 877 = .ok (.iadd, 1) := by decide +kernel
theorem dL_law_878 : decode cL_law 878 = .ok (.iaload, 1) := by decide +kernel
theorem dL_law_879 : decode cL_law 879 = .ok (.invokevirtual 113, 3) := by decide +kernel
theorem dL_law_882 : decode cL_law 882 = .ok (.aload_n 2, 1) := by decide +kernel
theorem dL_law_883 : decode cL_law 883 = .ok (.aload_n 0, 1) := by decide +kernel
theorem dL_law_884 : decode cL_law 884 = .ok (.iload_n 3, 1) := by decide +kernel
theorem dL_law_885 : decode cL_law 885 = .ok (.iconst 1, 1) := by decide +kernel
theorem dL_law_886 : decode cL_law 886 = .ok (.iadd, 1) := by decide +kernel
theorem dL_law_887 : decode cL_law 887 = .ok (.iaload, 1) := by decide +kernel
theorem dL_law_888 : decode cL_law 888 = .ok (.aload_n 0, 1) := by decide +kernel
theorem dL_law_889 : decode cL_law 889 = .ok (.iload_n 3, 1) := by decide +kernel
theorem dL_law_890 : decode cL_law 890 = .ok (.iconst 2, 1) := by decide +kernel
theorem dL_law_891 : decode cL_law 891 = .ok (.iadd, 1) := by decide +kernel
theorem dL_law_892 : decode cL_law 892 = .ok (.iaload, 1) := by decide +kernel
theorem dL_law_893 : decode cL_law 893 = .ok (.aload_n 0, 1) := by decide +kernel
theorem dL_law_894 : decode cL_law 894 = .ok (.iload_n 3, 1) := by decide +kernel
theorem dL_law_895 : decode cL_law 895 = .ok (.iconst 3, 1) := by decide +kernel
theorem dL_law_896 : decode cL_law 896 = .ok (.iadd, 1) := by decide +kernel
theorem dL_law_897 : decode cL_law 897 = .ok (.iaload, 1) := by decide +kernel
theorem dL_law_898 : decode cL_law 898 = .ok (.aload_n 0, 1) := by decide +kernel
theorem dL_law_899 : decode cL_law 899 = .ok (.iload_n 3, 1) := by decide +kernel
theorem dL_law_900 : decode cL_law 900 = .ok (.iconst 4, 1) := by decide +kernel
theorem dL_law_901 : decode cL_law 901 = .ok (.iadd, 1) := by decide +kernel
theorem dL_law_902 : decode cL_law 902 = .ok (.iaload, 1) := by decide +kernel
theorem dL_law_903 : decode cL_law 903 = .ok (.invokevirtual 117, 3) := by decide +kernel
theorem dL_law_906 : decode cL_law 906 = .ok (.lcmp, 1) := by decide +kernel
theorem dL_law_907 : decode cL_law 907 = .ok (.ifCond .eq 166, 3) := by decide +kernel
theorem dL_law_910 : decode cL_law 910 = .ok (.iconst 0, 1) := by decide +kernel
theorem dL_law_911 : decode cL_law 911 = .ok (.ireturn, 1) := by decide +kernel
theorem dL_law_912 : decode cL_law 912 = .ok (.aload_n 1, 1) := by decide +kernel
theorem dL_law_913 : decode cL_law 913 = .ok (.aload_n 0, 1) := by decide +kernel
theorem dL_law_914 : decode cL_law 914 = .ok (.iload_n 3, 1) := by decide +kernel
theorem dL_law_915 : decode cL_law 915 = .ok (.iconst 1, 1) := by decide +kernel
theorem dL_law_916 : decode cL_law 916 = .ok (.iadd, 1) := by decide +kernel
theorem dL_law_917 : decode cL_law 917 = .ok (.iaload, 1) := by decide +kernel
theorem dL_law_918 : decode cL_law 918 = .ok (.aload_n 0, 1) := by decide +kernel
theorem dL_law_919 : decode cL_law 919 = .ok (.iload_n 3, 1) := by decide +kernel
theorem dL_law_920 : decode cL_law 920 = .ok (.iconst 2, 1) := by decide +kernel
theorem dL_law_921 : decode cL_law 921 = .ok (.iadd, 1) := by decide +kernel
theorem dL_law_922 : decode cL_law 922 = .ok (.iaload, 1) := by decide +kernel
theorem dL_law_923 : decode cL_law 923 = .ok (.invokevirtual 118, 3) := by decide +kernel
theorem dL_law_926 : decode cL_law 926 = .ok (.aload_n 2, 1) := by decide +kernel
theorem dL_law_927 : decode cL_law 927 = .ok (.aload_n 0, 1) := by decide +kernel
theorem dL_law_928 : decode cL_law 928 = .ok (.iload_n 3, 1) := by decide +kernel
theorem dL_law_929 : decode cL_law 929 = .ok (.iconst 1, 1) := by decide +kernel
theorem dL_law_930 : decode cL_law 930 = .ok (.iadd, 1) := by decide +kernel
theorem dL_law_931 : decode cL_law 931 = .ok (.iaload, 1) := by decide +kernel
theorem dL_law_932 : decode cL_law 932 = .ok (.aload_n 0, 1) := by decide +kernel
theorem dL_law_933 : decode cL_law 933 = .ok (.iload_n 3, 1) := by decide +kernel
theorem dL_law_934 : decode cL_law 934 = .ok (.iconst 2, 1) := by decide +kernel
theorem dL_law_935 : decode cL_law 935 = .ok (.iadd, 1) := by decide +kernel
theorem dL_law_936 : decode cL_law 936 = .ok (.iaload, 1) := by decide +kernel
theorem dL_law_937 : decode cL_law 937 = .ok (.invokevirtual 121, 3) := by decide +kernel
theorem dL_law_940 : decode cL_law 940 = .ok (.if_icmp .eq 133, 3) := by decide +kernel
theorem dL_law_943 : decode cL_law 943 = .ok (.iconst 0, 1) := by decide +kernel
theorem dL_law_944 : decode cL_law 944 = .ok (.ireturn, 1) := by decide +kernel
theorem dL_law_945 : decode cL_law 945 = .ok (.aload_n 1, 1) := by decide +kernel
theorem dL_law_946 : decode cL_law 946 = .ok (.aload_n 0, 1) := by decide +kernel
theorem dL_law_947 : decode cL_law 947 = .ok (.iload_n 3, 1) := by decide +kernel
theorem dL_law_948 : decode cL_law 948 = .ok (.iconst 1, 1) := by decide +kernel
theorem dL_law_949 : decode cL_law 949 = .ok (.iadd, 1) := by decide +kernel
theorem dL_law_950 : decode cL_law 950 = .ok (.iaload, 1) := by decide +kernel
theorem dL_law_951 : decode cL_law 951 = .ok (.aload_n 0, 1) := by decide +kernel
theorem dL_law_952 : decode cL_law 952 = .ok (.iload_n 3, 1) := by decide +kernel
theorem dL_law_953 : decode cL_law 953 = .ok (.iconst 2, 1) := by decide +kernel
theorem dL_law_954 : decode cL_law 954 = .ok (.iadd, 1) := by decide +kernel
theorem dL_law_955 : decode cL_law 955 = .ok (.iaload, 1) := by decide +kernel
theorem dL_law_956 : decode cL_law 956 = .ok (.invokevirtual 122, 3) := by decide +kernel
theorem dL_law_959 : decode cL_law 959 = .ok (.aload_n 2, 1) := by decide +kernel
theorem dL_law_960 : decode cL_law 960 = .ok (.aload_n 0, 1) := by decide +kernel
theorem dL_law_961 : decode cL_law 961 = .ok (.iload_n 3, 1) := by decide +kernel
theorem dL_law_962 : decode cL_law 962 = .ok (.iconst 1, 1) := by decide +kernel
theorem dL_law_963 : decode cL_law 963 = .ok (.iadd, 1) := by decide +kernel
theorem dL_law_964 : decode cL_law 964 = .ok (.iaload, 1) := by decide +kernel
theorem dL_law_965 : decode cL_law 965 = .ok (.aload_n 0, 1) := by decide +kernel
theorem dL_law_966 : decode cL_law 966 = .ok (.iload_n 3, 1) := by decide +kernel
theorem dL_law_967 : decode cL_law 967 = .ok (.iconst 2, 1) := by decide +kernel
theorem dL_law_968 : decode cL_law 968 = .ok (.iadd, 1) := by decide +kernel
theorem dL_law_969 : decode cL_law 969 = .ok (.iaload, 1) := by decide +kernel
theorem dL_law_970 : decode cL_law 970 = .ok (.invokevirtual 125, 3) := by decide +kernel
theorem dL_law_973 : decode cL_law 973 = .ok (.if_icmp .eq 100, 3) := by decide +kernel
theorem dL_law_976 : decode cL_law 976 = .ok (.iconst 0, 1) := by decide +kernel
theorem dL_law_977 : decode cL_law 977 = .ok (.ireturn, 1) := by decide +kernel
theorem dL_law_978 : decode cL_law 978 = .ok (.aload_n 1, 1) := by decide +kernel
theorem dL_law_979 : decode cL_law 979 = .ok (.aload_n 0, 1) := by decide +kernel
theorem dL_law_980 : decode cL_law 980 = .ok (.iload_n 3, 1) := by decide +kernel
theorem dL_law_981 : decode cL_law 981 = .ok (.iconst 1, 1) := by decide +kernel
theorem dL_law_982 : decode cL_law 982 = .ok (.iadd, 1) := by decide +kernel
theorem dL_law_983 : decode cL_law 983 = .ok (.iaload, 1) := by decide +kernel
theorem dL_law_984 : decode cL_law 984 = .ok (.invokevirtual 126, 3) := by decide +kernel
theorem dL_law_987 : decode cL_law 987 = .ok (.aload_n 2, 1) := by decide +kernel
theorem dL_law_988 : decode cL_law 988 = .ok (.aload_n 0, 1) := by decide +kernel
theorem dL_law_989 : decode cL_law 989 = .ok (.iload_n 3, 1) := by decide +kernel
theorem dL_law_990 : decode cL_law 990 = .ok (.iconst 1, 1) := by decide +kernel
theorem dL_law_991 : decode cL_law 991 = .ok (.iadd, 1) := by decide +kernel
theorem dL_law_992 : decode cL_law 992 = .ok (.iaload, 1) := by decide +kernel
theorem dL_law_993 : decode cL_law 993 = .ok (.invokevirtual 129, 3) := by decide +kernel
theorem dL_law_996 : decode cL_law 996 = .ok (.if_icmp .eq 77, 3) := by decide +kernel
theorem dL_law_999 : decode cL_law 999 = .ok (.iconst 0, 1) := by decide +kernel
theorem dL_law_1000 : decode cL_law 1000 = .ok (.ireturn, 1) := by decide +kernel
theorem dL_law_1001 : decode cL_law 1001 = .ok (.aload_n 1, 1) := by decide +kernel
theorem dL_law_1002 : decode cL_law 1002 = .ok (.aload_n 0, 1) := by decide +kernel
theorem dL_law_1003 : decode cL_law 1003 = .ok (.iload_n 3, 1) := by decide +kernel
theorem dL_law_1004 : decode cL_law 1004 = .ok (.iconst 1, 1) := by decide +kernel
theorem dL_law_1005 : decode cL_law 1005 = .ok (.iadd, 1) := by decide +kernel
theorem dL_law_1006 : decode cL_law 1006 = .ok (.iaload, 1) := by decide +kernel
theorem dL_law_1007 : decode cL_law 1007 = .ok (.invokevirtual 130, 3) := by decide +kernel
theorem dL_law_1010 : decode cL_law 1010 = .ok (.aload_n 2, 1) := by decide +kernel
theorem dL_law_1011 : decode cL_law 1011 = .ok (.aload_n 0, 1) := by decide +kernel
theorem dL_law_1012 : decode cL_law 1012 = .ok (.iload_n 3, 1) := by decide +kernel
theorem dL_law_1013 : decode cL_law 1013 = .ok (.iconst 1, 1) := by decide +kernel
theorem dL_law_1014 : decode cL_law 1014 = .ok (.iadd, 1) := by decide +kernel
theorem dL_law_1015 : decode cL_law 1015 = .ok (.iaload, 1) := by decide +kernel
theorem dL_law_1016 : decode cL_law 1016 = .ok (.invokevirtual 133, 3) := by decide +kernel
theorem dL_law_1019 : decode cL_law 1019 = .ok (.if_icmp .eq 54, 3) := by decide +kernel
theorem dL_law_1022 : decode cL_law 1022 = .ok (.iconst 0, 1) := by decide +kernel
theorem dL_law_1023 : decode cL_law 1023 = .ok (.ireturn, 1) := by decide +kernel
theorem dL_law_1024 : decode cL_law 1024 = .ok (.aload_n 1, 1) := by decide +kernel
theorem dL_law_1025 : decode cL_law 1025 = .ok (.invokevirtual 134, 3) := by decide +kernel
theorem dL_law_1028 : decode cL_law 1028 = .ok (.aload_n 2, 1) := by decide +kernel
theorem dL_law_1029 : decode cL_law 1029 = .ok (.invokevirtual 137, 3) := by decide +kernel
theorem dL_law_1032 : decode cL_law 1032 = .ok (.if_icmp .eq 41, 3) := by decide +kernel
theorem dL_law_1035 : decode cL_law 1035 = .ok (.iconst 0, 1) := by decide +kernel
theorem dL_law_1036 : decode cL_law 1036 = .ok (.ireturn, 1) := by decide +kernel
theorem dL_law_1037 : decode cL_law 1037 = .ok (.aload_n 1, 1) := by decide +kernel
theorem dL_law_1038 : decode cL_law 1038 = .ok (.invokevirtual 138, 3) := by decide +kernel
theorem dL_law_1041 : decode cL_law 1041 = .ok (.aload_n 2, 1) := by decide +kernel
theorem dL_law_1042 : decode cL_law 1042 = .ok (.invokevirtual 141, 3) := by decide +kernel
theorem dL_law_1045 : decode cL_law 1045 = .ok (.if_icmp .eq 28, 3) := by decide +kernel
theorem dL_law_1048 : decode cL_law 1048 = .ok (.iconst 0, 1) := by decide +kernel
theorem dL_law_1049 : decode cL_law 1049 = .ok (.ireturn, 1) := by decide +kernel
theorem dL_law_1050 : decode cL_law 1050 = .ok (.aload_n 1, 1) := by decide +kernel
theorem dL_law_1051 : decode cL_law 1051 = .ok (.aload_n 0, 1) := by decide +kernel
theorem dL_law_1052 : decode cL_law 1052 = .ok (.iload_n 3, 1) := by decide +kernel
theorem dL_law_1053 : decode cL_law 1053 = .ok (.iconst 1, 1) := by decide +kernel
theorem dL_law_1054 : decode cL_law 1054 = .ok (.iadd, 1) := by decide +kernel
theorem dL_law_1055 : decode cL_law 1055 = .ok (.iaload, 1) := by decide +kernel
theorem dL_law_1056 : decode cL_law 1056 = .ok (.invokevirtual 142, 3) := by decide +kernel
theorem dL_law_1059 : decode cL_law 1059 = .ok (.aload_n 2, 1) := by decide +kernel
theorem dL_law_1060 : decode cL_law 1060 = .ok (.aload_n 0, 1) := by decide +kernel
theorem dL_law_1061 : decode cL_law 1061 = .ok (.iload_n 3, 1) := by decide +kernel
theorem dL_law_1062 : decode cL_law 1062 = .ok (.iconst 1, 1) := by decide +kernel
theorem dL_law_1063 : decode cL_law 1063 = .ok (.iadd, 1) := by decide +kernel
theorem dL_law_1064 : decode cL_law 1064 = .ok (.iaload, 1) := by decide +kernel
theorem dL_law_1065 : decode cL_law 1065 = .ok (.invokevirtual 145, 3) := by decide +kernel
theorem dL_law_1068 : decode cL_law 1068 = .ok (.if_icmp .eq 5, 3) := by decide +kernel
theorem dL_law_1071 : decode cL_law 1071 = .ok (.iconst 0, 1) := by decide +kernel
theorem dL_law_1072 : decode cL_law 1072 = .ok (.ireturn, 1) := by decide +kernel
theorem dL_law_1073 : decode cL_law 1073 = .ok (.iinc 3 5, 3) := by decide +kernel
theorem dL_law_1076 : decode cL_law 1076 = .ok (.goto (-1058), 3) := by decide +kernel
theorem dL_law_1079 : decode cL_law 1079 = .ok (.iconst 1, 1) := by decide +kernel
theorem dL_law_1080 : decode cL_law 1080 = .ok (.ireturn, 1) := by decide +kernel
end
section
theorem mN_L : Cond.initialized RL ∈ lw_tbl := List.mem_of_getElem? (i := 51) (by decide +kernel)
theorem mN_X9 : Cond.initialized RX9 ∈ lw_tbl := List.mem_of_getElem? (i := 52) (by decide +kernel)
theorem mN_X6 : Cond.initialized RX6 ∈ lw_tbl := List.mem_of_getElem? (i := 53) (by decide +kernel)
theorem mN_X7 : Cond.initialized RX7 ∈ lw_tbl := List.mem_of_getElem? (i := 54) (by decide +kernel)
theorem mN_X3 : Cond.initialized RX3 ∈ lw_tbl := List.mem_of_getElem? (i := 55) (by decide +kernel)
theorem mN_X8 : Cond.initialized RX8 ∈ lw_tbl := List.mem_of_getElem? (i := 56) (by decide +kernel)
theorem mN_X2 : Cond.initialized RX2 ∈ lw_tbl := List.mem_of_getElem? (i := 57) (by decide +kernel)
theorem mN_X1 : Cond.initialized RX1 ∈ lw_tbl := List.mem_of_getElem? (i := 58) (by decide +kernel)
theorem mN_X4 : Cond.initialized RX4 ∈ lw_tbl := List.mem_of_getElem? (i := 59) (by decide +kernel)
theorem mN_X5 : Cond.initialized RX5 ∈ lw_tbl := List.mem_of_getElem? (i := 60) (by decide +kernel)
theorem mN_X0 : Cond.initialized RX0 ∈ lw_tbl := List.mem_of_getElem? (i := 61) (by decide +kernel)
theorem mN_X10 : Cond.initialized RX10 ∈ lw_tbl := List.mem_of_getElem? (i := 62) (by decide +kernel)
theorem mN_java_lang_System : Cond.initialized "java/lang/System" ∈ lw_tbl := List.mem_of_getElem? (i := 63) (by decide +kernel)
theorem mN_java_lang_Math : Cond.initialized "java/lang/Math" ∈ lw_tbl := List.mem_of_getElem? (i := 64) (by decide +kernel)
theorem mN_java_lang_Integer : Cond.initialized "java/lang/Integer" ∈ lw_tbl := List.mem_of_getElem? (i := 65) (by decide +kernel)
theorem mK_L_7 : Cond.classLink RL 7 RX9 ∈ lw_tbl := List.mem_of_getElem? (i := 66) (by decide +kernel)
theorem mM_X9 : Cond.instantiable RX9 12 ∈ lw_tbl := List.mem_of_getElem? (i := 67) (by decide +kernel)
theorem mL_L_9 : Cond.methodLink RL 9 yX9_init ∈ lw_tbl := List.mem_of_getElem? (i := 68) (by decide +kernel)
theorem mI_X9_init : Cond.instanceMethod yX9_init ∈ lw_tbl := List.mem_of_getElem? (i := 69) (by decide +kernel)
theorem mC_X9_init : Cond.code yX9_init cX9_init 1 none ∈ lw_tbl := List.mem_of_getElem? (i := 70) (by decide +kernel)
theorem mL_X9_1 : Cond.methodLink RX9 1 ⟨"java/lang/Object", "<init>", "()V"⟩ ∈ lw_tbl := List.mem_of_getElem? (i := 71) (by decide +kernel)
theorem mK_X9_7 : Cond.classLink RX9 7 RX6 ∈ lw_tbl := List.mem_of_getElem? (i := 74) (by decide +kernel)
theorem mM_X6 : Cond.instantiable RX6 5 ∈ lw_tbl := List.mem_of_getElem? (i := 75) (by decide +kernel)
theorem mL_X9_9 : Cond.methodLink RX9 9 yX6_init ∈ lw_tbl := List.mem_of_getElem? (i := 76) (by decide +kernel)
theorem mI_X6_init : Cond.instanceMethod yX6_init ∈ lw_tbl := List.mem_of_getElem? (i := 77) (by decide +kernel)
theorem mC_X6_init : Cond.code yX6_init cX6_init 1 none ∈ lw_tbl := List.mem_of_getElem? (i := 78) (by decide +kernel)
theorem mL_X6_3 : Cond.methodLink RX6 3 ⟨"java/lang/Object", "<init>", "()V"⟩ ∈ lw_tbl := List.mem_of_getElem? (i := 79) (by decide +kernel)
theorem mF_X6_11 : Cond.fieldLink RX6 11 "HalfHere$Tape" "letters" "[I" ∈ lw_tbl := List.mem_of_getElem? (i := 80) (by decide +kernel)
theorem mF_X6_18 : Cond.fieldLink RX6 18 "HalfHere$Tape" "length" "I" ∈ lw_tbl := List.mem_of_getElem? (i := 81) (by decide +kernel)
theorem mF_X9_297 : Cond.fieldLink RX9 297 "HalfHere$Tape" "length" "I" ∈ lw_tbl := List.mem_of_getElem? (i := 82) (by decide +kernel)
theorem mF_X6_26 : Cond.fieldLink RX6 26 "HalfHere$Tape" "reading" "I" ∈ lw_tbl := List.mem_of_getElem? (i := 83) (by decide +kernel)
theorem mF_X6_15 : Cond.fieldLink RX6 15 "HalfHere$Tape" "said" "[I" ∈ lw_tbl := List.mem_of_getElem? (i := 84) (by decide +kernel)
theorem mF_X6_39 : Cond.fieldLink RX6 39 "HalfHere$Tape" "saidCount" "I" ∈ lw_tbl := List.mem_of_getElem? (i := 85) (by decide +kernel)
theorem mA_int : Cond.arrayClass .int ∈ lw_tbl := List.mem_of_getElem? (i := 97) (by decide +kernel)
theorem mK_X9_16 : Cond.classLink RX9 16 RX7 ∈ lw_tbl := List.mem_of_getElem? (i := 98) (by decide +kernel)
theorem mM_X7 : Cond.instantiable RX7 8 ∈ lw_tbl := List.mem_of_getElem? (i := 99) (by decide +kernel)
theorem mL_X9_18 : Cond.methodLink RX9 18 yX7_init ∈ lw_tbl := List.mem_of_getElem? (i := 100) (by decide +kernel)
theorem mI_X7_init : Cond.instanceMethod yX7_init ∈ lw_tbl := List.mem_of_getElem? (i := 101) (by decide +kernel)
theorem mC_X7_init : Cond.code yX7_init cX7_init 2 none ∈ lw_tbl := List.mem_of_getElem? (i := 102) (by decide +kernel)
theorem mL_X7_3 : Cond.methodLink RX7 3 ⟨"java/lang/Object", "<init>", "()V"⟩ ∈ lw_tbl := List.mem_of_getElem? (i := 103) (by decide +kernel)
theorem mK_X7_15 : Cond.classLink RX7 15 "[[I" ∈ lw_tbl := List.mem_of_getElem? (i := 104) (by decide +kernel)
theorem mO_ii : Cond.arrayOver (.array .int) ∈ lw_tbl := List.mem_of_getElem? (i := 105) (by decide +kernel)
theorem mK_X7_23 : Cond.classLink RX7 23 RX3 ∈ lw_tbl := List.mem_of_getElem? (i := 106) (by decide +kernel)
theorem mO_X3 : Cond.arrayOver (.object RX3) ∈ lw_tbl := List.mem_of_getElem? (i := 107) (by decide +kernel)
theorem mK_X7_29 : Cond.classLink RX7 29 RX8 ∈ lw_tbl := List.mem_of_getElem? (i := 108) (by decide +kernel)
theorem mO_X8 : Cond.arrayOver (.object RX8) ∈ lw_tbl := List.mem_of_getElem? (i := 109) (by decide +kernel)
theorem mK_X7_35 : Cond.classLink RX7 35 RX2 ∈ lw_tbl := List.mem_of_getElem? (i := 110) (by decide +kernel)
theorem mO_X2 : Cond.arrayOver (.object RX2) ∈ lw_tbl := List.mem_of_getElem? (i := 111) (by decide +kernel)
theorem mM_X3 : Cond.instantiable RX3 2 ∈ lw_tbl := List.mem_of_getElem? (i := 112) (by decide +kernel)
theorem mL_X7_41 : Cond.methodLink RX7 41 yX3_init ∈ lw_tbl := List.mem_of_getElem? (i := 113) (by decide +kernel)
theorem mI_X3_init : Cond.instanceMethod yX3_init ∈ lw_tbl := List.mem_of_getElem? (i := 114) (by decide +kernel)
theorem mC_X3_init : Cond.code yX3_init cX3_init 1 none ∈ lw_tbl := List.mem_of_getElem? (i := 115) (by decide +kernel)
theorem mL_X3_3 : Cond.methodLink RX3 3 ⟨"java/lang/Object", "<init>", "()V"⟩ ∈ lw_tbl := List.mem_of_getElem? (i := 116) (by decide +kernel)
theorem mF_X3_9 : Cond.fieldLink RX3 9 "HalfHere$Person" "gifts" "[I" ∈ lw_tbl := List.mem_of_getElem? (i := 117) (by decide +kernel)
theorem mF_X1_35 : Cond.fieldLink RX1 35 "HalfHere$Person" "gifts" "[I" ∈ lw_tbl := List.mem_of_getElem? (i := 118) (by decide +kernel)
theorem mF_X9_105 : Cond.fieldLink RX9 105 "HalfHere$Person" "gifts" "[I" ∈ lw_tbl := List.mem_of_getElem? (i := 119) (by decide +kernel)
theorem mF_X7_114 : Cond.fieldLink RX7 114 "HalfHere$Person" "gifts" "[I" ∈ lw_tbl := List.mem_of_getElem? (i := 120) (by decide +kernel)
theorem mF_X3_15 : Cond.fieldLink RX3 15 "HalfHere$Person" "least" "I" ∈ lw_tbl := List.mem_of_getElem? (i := 121) (by decide +kernel)
theorem mF_X9_110 : Cond.fieldLink RX9 110 "HalfHere$Person" "least" "I" ∈ lw_tbl := List.mem_of_getElem? (i := 122) (by decide +kernel)
theorem mF_X4_67 : Cond.fieldLink RX4 67 "HalfHere$Person" "least" "I" ∈ lw_tbl := List.mem_of_getElem? (i := 123) (by decide +kernel)
theorem mF_X5_95 : Cond.fieldLink RX5 95 "HalfHere$Person" "least" "I" ∈ lw_tbl := List.mem_of_getElem? (i := 124) (by decide +kernel)
theorem mF_X7_118 : Cond.fieldLink RX7 118 "HalfHere$Person" "least" "I" ∈ lw_tbl := List.mem_of_getElem? (i := 125) (by decide +kernel)
theorem mM_X8 : Cond.instantiable RX8 4 ∈ lw_tbl := List.mem_of_getElem? (i := 131) (by decide +kernel)
theorem mL_X7_42 : Cond.methodLink RX7 42 yX8_init ∈ lw_tbl := List.mem_of_getElem? (i := 132) (by decide +kernel)
theorem mI_X8_init : Cond.instanceMethod yX8_init ∈ lw_tbl := List.mem_of_getElem? (i := 133) (by decide +kernel)
theorem mC_X8_init : Cond.code yX8_init cX8_init 1 none ∈ lw_tbl := List.mem_of_getElem? (i := 134) (by decide +kernel)
theorem mL_X8_3 : Cond.methodLink RX8 3 ⟨"java/lang/Object", "<init>", "()V"⟩ ∈ lw_tbl := List.mem_of_getElem? (i := 135) (by decide +kernel)
theorem mF_X8_15 : Cond.fieldLink RX8 15 "HalfHere$Work" "kind" "I" ∈ lw_tbl := List.mem_of_getElem? (i := 136) (by decide +kernel)
theorem mF_X1_22 : Cond.fieldLink RX1 22 "HalfHere$Work" "kind" "I" ∈ lw_tbl := List.mem_of_getElem? (i := 137) (by decide +kernel)
theorem mF_X0_38 : Cond.fieldLink RX0 38 "HalfHere$Work" "kind" "I" ∈ lw_tbl := List.mem_of_getElem? (i := 138) (by decide +kernel)
theorem mF_X9_126 : Cond.fieldLink RX9 126 "HalfHere$Work" "kind" "I" ∈ lw_tbl := List.mem_of_getElem? (i := 139) (by decide +kernel)
theorem mF_X7_127 : Cond.fieldLink RX7 127 "HalfHere$Work" "kind" "I" ∈ lw_tbl := List.mem_of_getElem? (i := 140) (by decide +kernel)
theorem mF_X8_19 : Cond.fieldLink RX8 19 "HalfHere$Work" "place" "I" ∈ lw_tbl := List.mem_of_getElem? (i := 141) (by decide +kernel)
theorem mF_X9_131 : Cond.fieldLink RX9 131 "HalfHere$Work" "place" "I" ∈ lw_tbl := List.mem_of_getElem? (i := 142) (by decide +kernel)
theorem mF_X7_107 : Cond.fieldLink RX7 107 "HalfHere$Work" "place" "I" ∈ lw_tbl := List.mem_of_getElem? (i := 143) (by decide +kernel)
theorem mF_X8_9 : Cond.fieldLink RX8 9 "HalfHere$Work" "needs" "[I" ∈ lw_tbl := List.mem_of_getElem? (i := 144) (by decide +kernel)
theorem mF_X1_31 : Cond.fieldLink RX1 31 "HalfHere$Work" "needs" "[I" ∈ lw_tbl := List.mem_of_getElem? (i := 145) (by decide +kernel)
theorem mF_X9_134 : Cond.fieldLink RX9 134 "HalfHere$Work" "needs" "[I" ∈ lw_tbl := List.mem_of_getElem? (i := 146) (by decide +kernel)
theorem mF_X7_124 : Cond.fieldLink RX7 124 "HalfHere$Work" "needs" "[I" ∈ lw_tbl := List.mem_of_getElem? (i := 147) (by decide +kernel)
theorem mF_X8_28 : Cond.fieldLink RX8 28 "HalfHere$Work" "worth" "I" ∈ lw_tbl := List.mem_of_getElem? (i := 148) (by decide +kernel)
theorem mF_X4_51 : Cond.fieldLink RX4 51 "HalfHere$Work" "worth" "I" ∈ lw_tbl := List.mem_of_getElem? (i := 149) (by decide +kernel)
theorem mF_X9_137 : Cond.fieldLink RX9 137 "HalfHere$Work" "worth" "I" ∈ lw_tbl := List.mem_of_getElem? (i := 150) (by decide +kernel)
theorem mF_X5_86 : Cond.fieldLink RX5 86 "HalfHere$Work" "worth" "I" ∈ lw_tbl := List.mem_of_getElem? (i := 151) (by decide +kernel)
theorem mF_X7_130 : Cond.fieldLink RX7 130 "HalfHere$Work" "worth" "I" ∈ lw_tbl := List.mem_of_getElem? (i := 152) (by decide +kernel)
theorem mM_X2 : Cond.instantiable RX2 7 ∈ lw_tbl := List.mem_of_getElem? (i := 162) (by decide +kernel)
theorem mL_X7_43 : Cond.methodLink RX7 43 yX2_init ∈ lw_tbl := List.mem_of_getElem? (i := 163) (by decide +kernel)
theorem mI_X2_init : Cond.instanceMethod yX2_init ∈ lw_tbl := List.mem_of_getElem? (i := 164) (by decide +kernel)
theorem mC_X2_init : Cond.code yX2_init cX2_init 1 none ∈ lw_tbl := List.mem_of_getElem? (i := 165) (by decide +kernel)
theorem mL_X2_3 : Cond.methodLink RX2 3 ⟨"java/lang/Object", "<init>", "()V"⟩ ∈ lw_tbl := List.mem_of_getElem? (i := 166) (by decide +kernel)
theorem mF_X2_15 : Cond.fieldLink RX2 15 "HalfHere$Part" "person" "I" ∈ lw_tbl := List.mem_of_getElem? (i := 167) (by decide +kernel)
theorem mF_X7_73 : Cond.fieldLink RX7 73 "HalfHere$Part" "person" "I" ∈ lw_tbl := List.mem_of_getElem? (i := 168) (by decide +kernel)
theorem mF_X9_157 : Cond.fieldLink RX9 157 "HalfHere$Part" "person" "I" ∈ lw_tbl := List.mem_of_getElem? (i := 169) (by decide +kernel)
theorem mF_X2_18 : Cond.fieldLink RX2 18 "HalfHere$Part" "twelfths" "I" ∈ lw_tbl := List.mem_of_getElem? (i := 170) (by decide +kernel)
theorem mF_X7_66 : Cond.fieldLink RX7 66 "HalfHere$Part" "twelfths" "I" ∈ lw_tbl := List.mem_of_getElem? (i := 171) (by decide +kernel)
theorem mF_X9_162 : Cond.fieldLink RX9 162 "HalfHere$Part" "twelfths" "I" ∈ lw_tbl := List.mem_of_getElem? (i := 172) (by decide +kernel)
theorem mF_X2_21 : Cond.fieldLink RX2 21 "HalfHere$Part" "place" "I" ∈ lw_tbl := List.mem_of_getElem? (i := 173) (by decide +kernel)
theorem mF_X9_165 : Cond.fieldLink RX9 165 "HalfHere$Part" "place" "I" ∈ lw_tbl := List.mem_of_getElem? (i := 174) (by decide +kernel)
theorem mF_X7_80 : Cond.fieldLink RX7 80 "HalfHere$Part" "place" "I" ∈ lw_tbl := List.mem_of_getElem? (i := 175) (by decide +kernel)
theorem mF_X2_9 : Cond.fieldLink RX2 9 "HalfHere$Part" "work" "I" ∈ lw_tbl := List.mem_of_getElem? (i := 176) (by decide +kernel)
theorem mF_X9_166 : Cond.fieldLink RX9 166 "HalfHere$Part" "work" "I" ∈ lw_tbl := List.mem_of_getElem? (i := 177) (by decide +kernel)
theorem mF_X2_24 : Cond.fieldLink RX2 24 "HalfHere$Part" "clock" "I" ∈ lw_tbl := List.mem_of_getElem? (i := 178) (by decide +kernel)
theorem mF_X9_169 : Cond.fieldLink RX9 169 "HalfHere$Part" "clock" "I" ∈ lw_tbl := List.mem_of_getElem? (i := 179) (by decide +kernel)
theorem mF_X7_137 : Cond.fieldLink RX7 137 "HalfHere$Part" "clock" "I" ∈ lw_tbl := List.mem_of_getElem? (i := 180) (by decide +kernel)
theorem mF_X2_27 : Cond.fieldLink RX2 27 "HalfHere$Part" "tired" "I" ∈ lw_tbl := List.mem_of_getElem? (i := 181) (by decide +kernel)
theorem mF_X9_172 : Cond.fieldLink RX9 172 "HalfHere$Part" "tired" "I" ∈ lw_tbl := List.mem_of_getElem? (i := 182) (by decide +kernel)
theorem mF_X2_30 : Cond.fieldLink RX2 30 "HalfHere$Part" "seen" "I" ∈ lw_tbl := List.mem_of_getElem? (i := 183) (by decide +kernel)
theorem mF_X9_175 : Cond.fieldLink RX9 175 "HalfHere$Part" "seen" "I" ∈ lw_tbl := List.mem_of_getElem? (i := 184) (by decide +kernel)
theorem mF_X7_9 : Cond.fieldLink RX7 9 "HalfHere$Village" "places" "I" ∈ lw_tbl := List.mem_of_getElem? (i := 200) (by decide +kernel)
theorem mF_X9_272 : Cond.fieldLink RX9 272 "HalfHere$Village" "places" "I" ∈ lw_tbl := List.mem_of_getElem? (i := 201) (by decide +kernel)
theorem mF_X5_28 : Cond.fieldLink RX5 28 "HalfHere$Village" "personCount" "I" ∈ lw_tbl := List.mem_of_getElem? (i := 202) (by decide +kernel)
theorem mF_X0_25 : Cond.fieldLink RX0 25 "HalfHere$Village" "personCount" "I" ∈ lw_tbl := List.mem_of_getElem? (i := 203) (by decide +kernel)
theorem mF_X7_44 : Cond.fieldLink RX7 44 "HalfHere$Village" "personCount" "I" ∈ lw_tbl := List.mem_of_getElem? (i := 204) (by decide +kernel)
theorem mF_X4_56 : Cond.fieldLink RX4 56 "HalfHere$Village" "personCount" "I" ∈ lw_tbl := List.mem_of_getElem? (i := 205) (by decide +kernel)
theorem mF_X9_288 : Cond.fieldLink RX9 288 "HalfHere$Village" "personCount" "I" ∈ lw_tbl := List.mem_of_getElem? (i := 206) (by decide +kernel)
theorem mF_X5_34 : Cond.fieldLink RX5 34 "HalfHere$Village" "workCount" "I" ∈ lw_tbl := List.mem_of_getElem? (i := 207) (by decide +kernel)
theorem mF_X7_47 : Cond.fieldLink RX7 47 "HalfHere$Village" "workCount" "I" ∈ lw_tbl := List.mem_of_getElem? (i := 208) (by decide +kernel)
theorem mF_X0_31 : Cond.fieldLink RX0 31 "HalfHere$Village" "workCount" "I" ∈ lw_tbl := List.mem_of_getElem? (i := 209) (by decide +kernel)
theorem mF_X4_37 : Cond.fieldLink RX4 37 "HalfHere$Village" "workCount" "I" ∈ lw_tbl := List.mem_of_getElem? (i := 210) (by decide +kernel)
theorem mF_X9_291 : Cond.fieldLink RX9 291 "HalfHere$Village" "workCount" "I" ∈ lw_tbl := List.mem_of_getElem? (i := 211) (by decide +kernel)
theorem mF_X7_17 : Cond.fieldLink RX7 17 "HalfHere$Village" "ways" "[[I" ∈ lw_tbl := List.mem_of_getElem? (i := 212) (by decide +kernel)
theorem mF_X7_20 : Cond.fieldLink RX7 20 "HalfHere$Village" "far" "[[I" ∈ lw_tbl := List.mem_of_getElem? (i := 213) (by decide +kernel)
theorem mF_X9_146 : Cond.fieldLink RX9 146 "HalfHere$Village" "far" "[[I" ∈ lw_tbl := List.mem_of_getElem? (i := 214) (by decide +kernel)
theorem mF_X7_25 : Cond.fieldLink RX7 25 "HalfHere$Village" "persons" "[LHalfHere$Person;" ∈ lw_tbl := List.mem_of_getElem? (i := 215) (by decide +kernel)
theorem mF_X0_61 : Cond.fieldLink RX0 61 "HalfHere$Village" "persons" "[LHalfHere$Person;" ∈ lw_tbl := List.mem_of_getElem? (i := 216) (by decide +kernel)
theorem mF_X9_101 : Cond.fieldLink RX9 101 "HalfHere$Village" "persons" "[LHalfHere$Person;" ∈ lw_tbl := List.mem_of_getElem? (i := 217) (by decide +kernel)
theorem mF_X4_63 : Cond.fieldLink RX4 63 "HalfHere$Village" "persons" "[LHalfHere$Person;" ∈ lw_tbl := List.mem_of_getElem? (i := 218) (by decide +kernel)
theorem mF_X5_91 : Cond.fieldLink RX5 91 "HalfHere$Village" "persons" "[LHalfHere$Person;" ∈ lw_tbl := List.mem_of_getElem? (i := 219) (by decide +kernel)
theorem mF_X7_31 : Cond.fieldLink RX7 31 "HalfHere$Village" "works" "[LHalfHere$Work;" ∈ lw_tbl := List.mem_of_getElem? (i := 220) (by decide +kernel)
theorem mF_X0_34 : Cond.fieldLink RX0 34 "HalfHere$Village" "works" "[LHalfHere$Work;" ∈ lw_tbl := List.mem_of_getElem? (i := 221) (by decide +kernel)
theorem mF_X4_47 : Cond.fieldLink RX4 47 "HalfHere$Village" "works" "[LHalfHere$Work;" ∈ lw_tbl := List.mem_of_getElem? (i := 222) (by decide +kernel)
theorem mF_X9_122 : Cond.fieldLink RX9 122 "HalfHere$Village" "works" "[LHalfHere$Work;" ∈ lw_tbl := List.mem_of_getElem? (i := 223) (by decide +kernel)
theorem mF_X5_70 : Cond.fieldLink RX5 70 "HalfHere$Village" "works" "[LHalfHere$Work;" ∈ lw_tbl := List.mem_of_getElem? (i := 224) (by decide +kernel)
theorem mF_X7_37 : Cond.fieldLink RX7 37 "HalfHere$Village" "parts" "[LHalfHere$Part;" ∈ lw_tbl := List.mem_of_getElem? (i := 225) (by decide +kernel)
theorem mF_X9_153 : Cond.fieldLink RX9 153 "HalfHere$Village" "parts" "[LHalfHere$Part;" ∈ lw_tbl := List.mem_of_getElem? (i := 226) (by decide +kernel)
theorem mK_X9_33 : Cond.classLink RX9 33 RX1 ∈ lw_tbl := List.mem_of_getElem? (i := 244) (by decide +kernel)
theorem mM_X1 : Cond.instantiable RX1 6 ∈ lw_tbl := List.mem_of_getElem? (i := 245) (by decide +kernel)
theorem mL_X9_35 : Cond.methodLink RX9 35 yX1_init ∈ lw_tbl := List.mem_of_getElem? (i := 246) (by decide +kernel)
theorem mI_X1_init : Cond.instanceMethod yX1_init ∈ lw_tbl := List.mem_of_getElem? (i := 247) (by decide +kernel)
theorem mC_X1_init : Cond.code yX1_init cX1_init 1 none ∈ lw_tbl := List.mem_of_getElem? (i := 248) (by decide +kernel)
theorem mL_X1_3 : Cond.methodLink RX1 3 ⟨"java/lang/Object", "<init>", "()V"⟩ ∈ lw_tbl := List.mem_of_getElem? (i := 249) (by decide +kernel)
theorem mF_X1_27 : Cond.fieldLink RX1 27 "HalfHere$Effort" "kind" "I" ∈ lw_tbl := List.mem_of_getElem? (i := 250) (by decide +kernel)
theorem mF_X1_9 : Cond.fieldLink RX1 9 "HalfHere$Effort" "needs" "[I" ∈ lw_tbl := List.mem_of_getElem? (i := 251) (by decide +kernel)
theorem mF_X4_95 : Cond.fieldLink RX4 95 "HalfHere$Effort" "needs" "[I" ∈ lw_tbl := List.mem_of_getElem? (i := 252) (by decide +kernel)
theorem mF_X1_15 : Cond.fieldLink RX1 15 "HalfHere$Effort" "given" "[I" ∈ lw_tbl := List.mem_of_getElem? (i := 253) (by decide +kernel)
theorem mF_X1_28 : Cond.fieldLink RX1 28 "HalfHere$Effort" "helpers" "I" ∈ lw_tbl := List.mem_of_getElem? (i := 254) (by decide +kernel)
theorem mF_X0_82 : Cond.fieldLink RX0 82 "HalfHere$Effort" "above" "I" ∈ lw_tbl := List.mem_of_getElem? (i := 255) (by decide +kernel)
theorem mF_X1_49 : Cond.fieldLink RX1 49 "HalfHere$Effort" "above" "I" ∈ lw_tbl := List.mem_of_getElem? (i := 256) (by decide +kernel)
theorem mF_X9_210 : Cond.fieldLink RX9 210 "HalfHere$Effort" "above" "I" ∈ lw_tbl := List.mem_of_getElem? (i := 257) (by decide +kernel)
theorem mF_X1_18 : Cond.fieldLink RX1 18 "HalfHere$Effort" "below" "I" ∈ lw_tbl := List.mem_of_getElem? (i := 258) (by decide +kernel)
theorem mF_X0_85 : Cond.fieldLink RX0 85 "HalfHere$Effort" "below" "I" ∈ lw_tbl := List.mem_of_getElem? (i := 259) (by decide +kernel)
theorem mF_X9_213 : Cond.fieldLink RX9 213 "HalfHere$Effort" "below" "I" ∈ lw_tbl := List.mem_of_getElem? (i := 260) (by decide +kernel)
theorem mK_X9_40 : Cond.classLink RX9 40 RX4 ∈ lw_tbl := List.mem_of_getElem? (i := 274) (by decide +kernel)
theorem mM_X4 : Cond.instantiable RX4 3 ∈ lw_tbl := List.mem_of_getElem? (i := 275) (by decide +kernel)
theorem mL_X9_42 : Cond.methodLink RX9 42 yX4_init ∈ lw_tbl := List.mem_of_getElem? (i := 276) (by decide +kernel)
theorem mI_X4_init : Cond.instanceMethod yX4_init ∈ lw_tbl := List.mem_of_getElem? (i := 277) (by decide +kernel)
theorem mC_X4_init : Cond.code yX4_init cX4_init 1 none ∈ lw_tbl := List.mem_of_getElem? (i := 278) (by decide +kernel)
theorem mL_X4_3 : Cond.methodLink RX4 3 ⟨"java/lang/Object", "<init>", "()V"⟩ ∈ lw_tbl := List.mem_of_getElem? (i := 279) (by decide +kernel)
theorem mK_X4_9 : Cond.classLink RX4 9 "[[I" ∈ lw_tbl := List.mem_of_getElem? (i := 280) (by decide +kernel)
theorem mK_X4_16 : Cond.classLink RX4 16 RX1 ∈ lw_tbl := List.mem_of_getElem? (i := 281) (by decide +kernel)
theorem mL_X4_18 : Cond.methodLink RX4 18 yX1_init ∈ lw_tbl := List.mem_of_getElem? (i := 282) (by decide +kernel)
theorem mF_X4_11 : Cond.fieldLink RX4 11 "HalfHere$Planner" "twelfths" "[[I" ∈ lw_tbl := List.mem_of_getElem? (i := 283) (by decide +kernel)
theorem mF_X9_225 : Cond.fieldLink RX9 225 "HalfHere$Planner" "twelfths" "[[I" ∈ lw_tbl := List.mem_of_getElem? (i := 284) (by decide +kernel)
theorem mF_X4_19 : Cond.fieldLink RX4 19 "HalfHere$Planner" "before" "LHalfHere$Effort;" ∈ lw_tbl := List.mem_of_getElem? (i := 285) (by decide +kernel)
theorem mF_X4_23 : Cond.fieldLink RX4 23 "HalfHere$Planner" "after" "LHalfHere$Effort;" ∈ lw_tbl := List.mem_of_getElem? (i := 286) (by decide +kernel)
theorem mK_X9_47 : Cond.classLink RX9 47 RX5 ∈ lw_tbl := List.mem_of_getElem? (i := 294) (by decide +kernel)
theorem mM_X5 : Cond.instantiable RX5 7 ∈ lw_tbl := List.mem_of_getElem? (i := 295) (by decide +kernel)
theorem mL_X9_49 : Cond.methodLink RX9 49 yX5_init ∈ lw_tbl := List.mem_of_getElem? (i := 296) (by decide +kernel)
theorem mI_X5_init : Cond.instanceMethod yX5_init ∈ lw_tbl := List.mem_of_getElem? (i := 297) (by decide +kernel)
theorem mC_X5_init : Cond.code yX5_init cX5_init 1 none ∈ lw_tbl := List.mem_of_getElem? (i := 298) (by decide +kernel)
theorem mL_X5_1 : Cond.methodLink RX5 1 ⟨"java/lang/Object", "<init>", "()V"⟩ ∈ lw_tbl := List.mem_of_getElem? (i := 299) (by decide +kernel)
theorem mK_X5_9 : Cond.classLink RX5 9 "[[I" ∈ lw_tbl := List.mem_of_getElem? (i := 300) (by decide +kernel)
theorem mK_X5_21 : Cond.classLink RX5 21 RX1 ∈ lw_tbl := List.mem_of_getElem? (i := 301) (by decide +kernel)
theorem mL_X5_23 : Cond.methodLink RX5 23 yX1_init ∈ lw_tbl := List.mem_of_getElem? (i := 302) (by decide +kernel)
theorem mF_X5_11 : Cond.fieldLink RX5 11 "HalfHere$Quartering" "hows" "[[I" ∈ lw_tbl := List.mem_of_getElem? (i := 303) (by decide +kernel)
theorem mF_X5_57 : Cond.fieldLink RX5 57 "HalfHere$Quartering" "howCount" "I" ∈ lw_tbl := List.mem_of_getElem? (i := 304) (by decide +kernel)
theorem mF_X5_14 : Cond.fieldLink RX5 14 "HalfHere$Quartering" "gains" "[[I" ∈ lw_tbl := List.mem_of_getElem? (i := 305) (by decide +kernel)
theorem mF_X5_17 : Cond.fieldLink RX5 17 "HalfHere$Quartering" "chosen" "[I" ∈ lw_tbl := List.mem_of_getElem? (i := 306) (by decide +kernel)
theorem mF_X5_24 : Cond.fieldLink RX5 24 "HalfHere$Quartering" "effort" "LHalfHere$Effort;" ∈ lw_tbl := List.mem_of_getElem? (i := 307) (by decide +kernel)
theorem mF_X5_107 : Cond.fieldLink RX5 107 "HalfHere$Quartering" "worth" "I" ∈ lw_tbl := List.mem_of_getElem? (i := 308) (by decide +kernel)
theorem mF_X9_234 : Cond.fieldLink RX9 234 "HalfHere$Quartering" "worth" "I" ∈ lw_tbl := List.mem_of_getElem? (i := 309) (by decide +kernel)
theorem mF_X5_37 : Cond.fieldLink RX5 37 "HalfHere$Quartering" "isFound" "Z" ∈ lw_tbl := List.mem_of_getElem? (i := 310) (by decide +kernel)
theorem mK_X9_54 : Cond.classLink RX9 54 RX0 ∈ lw_tbl := List.mem_of_getElem? (i := 326) (by decide +kernel)
theorem mM_X0 : Cond.instantiable RX0 3 ∈ lw_tbl := List.mem_of_getElem? (i := 327) (by decide +kernel)
theorem mL_X9_56 : Cond.methodLink RX9 56 yX0_init ∈ lw_tbl := List.mem_of_getElem? (i := 328) (by decide +kernel)
theorem mI_X0_init : Cond.instanceMethod yX0_init ∈ lw_tbl := List.mem_of_getElem? (i := 329) (by decide +kernel)
theorem mC_X0_init : Cond.code yX0_init cX0_init 1 none ∈ lw_tbl := List.mem_of_getElem? (i := 330) (by decide +kernel)
theorem mL_X0_3 : Cond.methodLink RX0 3 ⟨"java/lang/Object", "<init>", "()V"⟩ ∈ lw_tbl := List.mem_of_getElem? (i := 331) (by decide +kernel)
theorem mK_X0_18 : Cond.classLink RX0 18 RX1 ∈ lw_tbl := List.mem_of_getElem? (i := 332) (by decide +kernel)
theorem mL_X0_20 : Cond.methodLink RX0 20 yX1_init ∈ lw_tbl := List.mem_of_getElem? (i := 333) (by decide +kernel)
theorem mF_X0_11 : Cond.fieldLink RX0 11 "HalfHere$Company" "isAble" "[Z" ∈ lw_tbl := List.mem_of_getElem? (i := 334) (by decide +kernel)
theorem mF_X0_15 : Cond.fieldLink RX0 15 "HalfHere$Company" "isEnough" "[Z" ∈ lw_tbl := List.mem_of_getElem? (i := 335) (by decide +kernel)
theorem mF_X0_21 : Cond.fieldLink RX0 21 "HalfHere$Company" "effort" "LHalfHere$Effort;" ∈ lw_tbl := List.mem_of_getElem? (i := 336) (by decide +kernel)
theorem mA_boolean : Cond.arrayClass .boolean ∈ lw_tbl := List.mem_of_getElem? (i := 344) (by decide +kernel)
theorem mF_X9_10 : Cond.fieldLink RX9 10 "HalfHere" "tape" "LHalfHere$Tape;" ∈ lw_tbl := List.mem_of_getElem? (i := 345) (by decide +kernel)
theorem mF_X9_19 : Cond.fieldLink RX9 19 "HalfHere" "now" "LHalfHere$Village;" ∈ lw_tbl := List.mem_of_getElem? (i := 346) (by decide +kernel)
theorem mF_X9_23 : Cond.fieldLink RX9 23 "HalfHere" "trial" "LHalfHere$Village;" ∈ lw_tbl := List.mem_of_getElem? (i := 347) (by decide +kernel)
theorem mF_X9_26 : Cond.fieldLink RX9 26 "HalfHere" "kept" "LHalfHere$Village;" ∈ lw_tbl := List.mem_of_getElem? (i := 348) (by decide +kernel)
theorem mF_X9_29 : Cond.fieldLink RX9 29 "HalfHere" "isKept" "Z" ∈ lw_tbl := List.mem_of_getElem? (i := 349) (by decide +kernel)
theorem mF_X9_36 : Cond.fieldLink RX9 36 "HalfHere" "effort" "LHalfHere$Effort;" ∈ lw_tbl := List.mem_of_getElem? (i := 350) (by decide +kernel)
theorem mF_X9_43 : Cond.fieldLink RX9 43 "HalfHere" "planner" "LHalfHere$Planner;" ∈ lw_tbl := List.mem_of_getElem? (i := 351) (by decide +kernel)
theorem mF_X9_50 : Cond.fieldLink RX9 50 "HalfHere" "quartering" "LHalfHere$Quartering;" ∈ lw_tbl := List.mem_of_getElem? (i := 352) (by decide +kernel)
theorem mF_X9_57 : Cond.fieldLink RX9 57 "HalfHere" "company" "LHalfHere$Company;" ∈ lw_tbl := List.mem_of_getElem? (i := 353) (by decide +kernel)
theorem mF_X9_61 : Cond.fieldLink RX9 61 "HalfHere" "row" "[I" ∈ lw_tbl := List.mem_of_getElem? (i := 354) (by decide +kernel)
theorem mF_X9_65 : Cond.fieldLink RX9 65 "HalfHere" "rowLength" "I" ∈ lw_tbl := List.mem_of_getElem? (i := 355) (by decide +kernel)
theorem mF_X9_69 : Cond.fieldLink RX9 69 "HalfHere" "refusals" "[I" ∈ lw_tbl := List.mem_of_getElem? (i := 356) (by decide +kernel)
theorem mL_L_13 : Cond.methodLink RL 13 yX9_feed ∈ lw_tbl := List.mem_of_getElem? (i := 382) (by decide +kernel)
theorem mI_X9_feed : Cond.instanceMethod yX9_feed ∈ lw_tbl := List.mem_of_getElem? (i := 383) (by decide +kernel)
theorem mV_X9_feed : Cond.selects RX9 yX9_feed yX9_feed ∈ lw_tbl := List.mem_of_getElem? (i := 384) (by decide +kernel)
theorem mC_X9_feed : Cond.code yX9_feed cX9_feed 2 (some .int) ∈ lw_tbl := List.mem_of_getElem? (i := 385) (by decide +kernel)
theorem mL_X9_72 : Cond.methodLink RX9 72 yX9_refuse ∈ lw_tbl := List.mem_of_getElem? (i := 386) (by decide +kernel)
theorem mI_X9_refuse : Cond.instanceMethod yX9_refuse ∈ lw_tbl := List.mem_of_getElem? (i := 388) (by decide +kernel)
theorem mC_X9_refuse : Cond.code yX9_refuse cX9_refuse 3 (some .int) ∈ lw_tbl := List.mem_of_getElem? (i := 389) (by decide +kernel)
theorem mL_X9_76 : Cond.methodLink RX9 76 yX6_isFull ∈ lw_tbl := List.mem_of_getElem? (i := 390) (by decide +kernel)
theorem mI_X6_isFull : Cond.instanceMethod yX6_isFull ∈ lw_tbl := List.mem_of_getElem? (i := 391) (by decide +kernel)
theorem mV_X6_isFull : Cond.selects RX6 yX6_isFull yX6_isFull ∈ lw_tbl := List.mem_of_getElem? (i := 392) (by decide +kernel)
theorem mC_X6_isFull : Cond.code yX6_isFull cX6_isFull 1 (some .boolean) ∈ lw_tbl := List.mem_of_getElem? (i := 393) (by decide +kernel)
theorem mL_X9_80 : Cond.methodLink RX9 80 yX6_take ∈ lw_tbl := List.mem_of_getElem? (i := 394) (by decide +kernel)
theorem mI_X6_take : Cond.instanceMethod yX6_take ∈ lw_tbl := List.mem_of_getElem? (i := 395) (by decide +kernel)
theorem mV_X6_take : Cond.selects RX6 yX6_take yX6_take ∈ lw_tbl := List.mem_of_getElem? (i := 396) (by decide +kernel)
theorem mC_X6_take : Cond.code yX6_take cX6_take 2 (some .int) ∈ lw_tbl := List.mem_of_getElem? (i := 397) (by decide +kernel)
theorem mL_L_18 : Cond.methodLink RL 18 yX9_village ∈ lw_tbl := List.mem_of_getElem? (i := 398) (by decide +kernel)
theorem mI_X9_village : Cond.instanceMethod yX9_village ∈ lw_tbl := List.mem_of_getElem? (i := 399) (by decide +kernel)
theorem mV_X9_village : Cond.selects RX9 yX9_village yX9_village ∈ lw_tbl := List.mem_of_getElem? (i := 400) (by decide +kernel)
theorem mC_X9_village : Cond.code yX9_village cX9_village 2 (some .int) ∈ lw_tbl := List.mem_of_getElem? (i := 401) (by decide +kernel)
theorem mL_X9_83 : Cond.methodLink RX9 83 yX7_become ∈ lw_tbl := List.mem_of_getElem? (i := 402) (by decide +kernel)
theorem mI_X7_become : Cond.instanceMethod yX7_become ∈ lw_tbl := List.mem_of_getElem? (i := 403) (by decide +kernel)
theorem mV_X7_become : Cond.selects RX7 yX7_become yX7_become ∈ lw_tbl := List.mem_of_getElem? (i := 404) (by decide +kernel)
theorem mC_X7_become : Cond.code yX7_become cX7_become 3 none ∈ lw_tbl := List.mem_of_getElem? (i := 405) (by decide +kernel)
theorem mL_X7_50 : Cond.methodLink RX7 50 ⟨"java/lang/System", "arraycopy", "(Ljava/lang/Object;ILjava/lang/Object;II)V"⟩ ∈ lw_tbl := List.mem_of_getElem? (i := 406) (by decide +kernel)
theorem mL_X7_56 : Cond.methodLink RX7 56 yX3_become ∈ lw_tbl := List.mem_of_getElem? (i := 409) (by decide +kernel)
theorem mI_X3_become : Cond.instanceMethod yX3_become ∈ lw_tbl := List.mem_of_getElem? (i := 410) (by decide +kernel)
theorem mV_X3_become : Cond.selects RX3 yX3_become yX3_become ∈ lw_tbl := List.mem_of_getElem? (i := 411) (by decide +kernel)
theorem mC_X3_become : Cond.code yX3_become cX3_become 2 none ∈ lw_tbl := List.mem_of_getElem? (i := 412) (by decide +kernel)
theorem mL_X3_19 : Cond.methodLink RX3 19 ⟨"java/lang/System", "arraycopy", "(Ljava/lang/Object;ILjava/lang/Object;II)V"⟩ ∈ lw_tbl := List.mem_of_getElem? (i := 413) (by decide +kernel)
theorem mL_X7_60 : Cond.methodLink RX7 60 yX8_become ∈ lw_tbl := List.mem_of_getElem? (i := 414) (by decide +kernel)
theorem mI_X8_become : Cond.instanceMethod yX8_become ∈ lw_tbl := List.mem_of_getElem? (i := 415) (by decide +kernel)
theorem mV_X8_become : Cond.selects RX8 yX8_become yX8_become ∈ lw_tbl := List.mem_of_getElem? (i := 416) (by decide +kernel)
theorem mC_X8_become : Cond.code yX8_become cX8_become 2 none ∈ lw_tbl := List.mem_of_getElem? (i := 417) (by decide +kernel)
theorem mL_X8_22 : Cond.methodLink RX8 22 ⟨"java/lang/System", "arraycopy", "(Ljava/lang/Object;ILjava/lang/Object;II)V"⟩ ∈ lw_tbl := List.mem_of_getElem? (i := 418) (by decide +kernel)
theorem mL_X7_63 : Cond.methodLink RX7 63 yX2_become ∈ lw_tbl := List.mem_of_getElem? (i := 419) (by decide +kernel)
theorem mI_X2_become : Cond.instanceMethod yX2_become ∈ lw_tbl := List.mem_of_getElem? (i := 420) (by decide +kernel)
theorem mV_X2_become : Cond.selects RX2 yX2_become yX2_become ∈ lw_tbl := List.mem_of_getElem? (i := 421) (by decide +kernel)
theorem mC_X2_become : Cond.code yX2_become cX2_become 2 none ∈ lw_tbl := List.mem_of_getElem? (i := 422) (by decide +kernel)
theorem mL_X9_87 : Cond.methodLink RX9 87 yX6_tellAll ∈ lw_tbl := List.mem_of_getElem? (i := 423) (by decide +kernel)
theorem mI_X6_tellAll : Cond.instanceMethod yX6_tellAll ∈ lw_tbl := List.mem_of_getElem? (i := 424) (by decide +kernel)
theorem mV_X6_tellAll : Cond.selects RX6 yX6_tellAll yX6_tellAll ∈ lw_tbl := List.mem_of_getElem? (i := 425) (by decide +kernel)
theorem mC_X6_tellAll : Cond.code yX6_tellAll cX6_tellAll 5 (some .int) ∈ lw_tbl := List.mem_of_getElem? (i := 426) (by decide +kernel)
theorem mL_X6_22 : Cond.methodLink RX6 22 yX6_wrongLetter ∈ lw_tbl := List.mem_of_getElem? (i := 427) (by decide +kernel)
theorem mI_X6_wrongLetter : Cond.instanceMethod yX6_wrongLetter ∈ lw_tbl := List.mem_of_getElem? (i := 428) (by decide +kernel)
theorem mV_X6_wrongLetter : Cond.selects RX6 yX6_wrongLetter yX6_wrongLetter ∈ lw_tbl := List.mem_of_getElem? (i := 429) (by decide +kernel)
theorem mC_X6_wrongLetter : Cond.code yX6_wrongLetter cX6_wrongLetter 2 (some .int) ∈ lw_tbl := List.mem_of_getElem? (i := 430) (by decide +kernel)
theorem mL_X6_29 : Cond.methodLink RX6 29 yX6_readStatement ∈ lw_tbl := List.mem_of_getElem? (i := 431) (by decide +kernel)
theorem mI_X6_readStatement : Cond.instanceMethod yX6_readStatement ∈ lw_tbl := List.mem_of_getElem? (i := 432) (by decide +kernel)
theorem mV_X6_readStatement : Cond.selects RX6 yX6_readStatement yX6_readStatement ∈ lw_tbl := List.mem_of_getElem? (i := 433) (by decide +kernel)
theorem mC_X6_readStatement : Cond.code yX6_readStatement cX6_readStatement 2 (some .boolean) ∈ lw_tbl := List.mem_of_getElem? (i := 434) (by decide +kernel)
theorem mL_X6_42 : Cond.methodLink RX6 42 yX6_letter ∈ lw_tbl := List.mem_of_getElem? (i := 435) (by decide +kernel)
theorem mI_X6_letter : Cond.instanceMethod yX6_letter ∈ lw_tbl := List.mem_of_getElem? (i := 436) (by decide +kernel)
theorem mV_X6_letter : Cond.selects RX6 yX6_letter yX6_letter ∈ lw_tbl := List.mem_of_getElem? (i := 437) (by decide +kernel)
theorem mC_X6_letter : Cond.code yX6_letter cX6_letter 1 (some .int) ∈ lw_tbl := List.mem_of_getElem? (i := 438) (by decide +kernel)
theorem mL_X6_45 : Cond.methodLink RX6 45 yX6_readNumber ∈ lw_tbl := List.mem_of_getElem? (i := 439) (by decide +kernel)
theorem mI_X6_readNumber : Cond.instanceMethod yX6_readNumber ∈ lw_tbl := List.mem_of_getElem? (i := 440) (by decide +kernel)
theorem mV_X6_readNumber : Cond.selects RX6 yX6_readNumber yX6_readNumber ∈ lw_tbl := List.mem_of_getElem? (i := 441) (by decide +kernel)
theorem mC_X6_readNumber : Cond.code yX6_readNumber cX6_readNumber 4 (some .boolean) ∈ lw_tbl := List.mem_of_getElem? (i := 442) (by decide +kernel)
theorem mL_X6_58 : Cond.methodLink RX6 58 yX6_isAtDigit ∈ lw_tbl := List.mem_of_getElem? (i := 443) (by decide +kernel)
theorem mI_X6_isAtDigit : Cond.instanceMethod yX6_isAtDigit ∈ lw_tbl := List.mem_of_getElem? (i := 444) (by decide +kernel)
theorem mV_X6_isAtDigit : Cond.selects RX6 yX6_isAtDigit yX6_isAtDigit ∈ lw_tbl := List.mem_of_getElem? (i := 445) (by decide +kernel)
theorem mC_X6_isAtDigit : Cond.code yX6_isAtDigit cX6_isAtDigit 1 (some .boolean) ∈ lw_tbl := List.mem_of_getElem? (i := 446) (by decide +kernel)
theorem mL_X6_61 : Cond.methodLink RX6 61 yX6_say ∈ lw_tbl := List.mem_of_getElem? (i := 447) (by decide +kernel)
theorem mI_X6_say : Cond.instanceMethod yX6_say ∈ lw_tbl := List.mem_of_getElem? (i := 448) (by decide +kernel)
theorem mV_X6_say : Cond.selects RX6 yX6_say yX6_say ∈ lw_tbl := List.mem_of_getElem? (i := 449) (by decide +kernel)
theorem mC_X6_say : Cond.code yX6_say cX6_say 2 none ∈ lw_tbl := List.mem_of_getElem? (i := 450) (by decide +kernel)
theorem mL_X6_49 : Cond.methodLink RX6 49 yX6_readSign ∈ lw_tbl := List.mem_of_getElem? (i := 451) (by decide +kernel)
theorem mI_X6_readSign : Cond.instanceMethod yX6_readSign ∈ lw_tbl := List.mem_of_getElem? (i := 452) (by decide +kernel)
theorem mV_X6_readSign : Cond.selects RX6 yX6_readSign yX6_readSign ∈ lw_tbl := List.mem_of_getElem? (i := 453) (by decide +kernel)
theorem mC_X6_readSign : Cond.code yX6_readSign cX6_readSign 2 (some .boolean) ∈ lw_tbl := List.mem_of_getElem? (i := 454) (by decide +kernel)
theorem mL_X6_52 : Cond.methodLink RX6 52 yX6_readThree ∈ lw_tbl := List.mem_of_getElem? (i := 455) (by decide +kernel)
theorem mI_X6_readThree : Cond.instanceMethod yX6_readThree ∈ lw_tbl := List.mem_of_getElem? (i := 456) (by decide +kernel)
theorem mV_X6_readThree : Cond.selects RX6 yX6_readThree yX6_readThree ∈ lw_tbl := List.mem_of_getElem? (i := 457) (by decide +kernel)
theorem mC_X6_readThree : Cond.code yX6_readThree cX6_readThree 3 (some .boolean) ∈ lw_tbl := List.mem_of_getElem? (i := 458) (by decide +kernel)
theorem mL_X6_55 : Cond.methodLink RX6 55 yX6_readKind ∈ lw_tbl := List.mem_of_getElem? (i := 459) (by decide +kernel)
theorem mI_X6_readKind : Cond.instanceMethod yX6_readKind ∈ lw_tbl := List.mem_of_getElem? (i := 460) (by decide +kernel)
theorem mV_X6_readKind : Cond.selects RX6 yX6_readKind yX6_readKind ∈ lw_tbl := List.mem_of_getElem? (i := 461) (by decide +kernel)
theorem mC_X6_readKind : Cond.code yX6_readKind cX6_readKind 3 (some .boolean) ∈ lw_tbl := List.mem_of_getElem? (i := 462) (by decide +kernel)
theorem mF_X6_65 : Cond.fieldLink RX6 65 "HalfHere$Tape" "KIND_LETTERS" "[C" ∈ lw_tbl := List.mem_of_getElem? (i := 463) (by decide +kernel)
theorem mZ_KIND_LETTERS : Cond.laysStatic RX6 "KIND_LETTERS" "[C" ∈ lw_tbl := List.mem_of_getElem? (i := 464) (by decide +kernel)
theorem mL_X6_33 : Cond.methodLink RX6 33 yX7_takesStatement ∈ lw_tbl := List.mem_of_getElem? (i := 465) (by decide +kernel)
theorem mI_X7_takesStatement : Cond.instanceMethod yX7_takesStatement ∈ lw_tbl := List.mem_of_getElem? (i := 466) (by decide +kernel)
theorem mV_X7_takesStatement : Cond.selects RX7 yX7_takesStatement yX7_takesStatement ∈ lw_tbl := List.mem_of_getElem? (i := 467) (by decide +kernel)
theorem mC_X7_takesStatement : Cond.code yX7_takesStatement cX7_takesStatement 3 (some .boolean) ∈ lw_tbl := List.mem_of_getElem? (i := 468) (by decide +kernel)
theorem mL_X7_83 : Cond.methodLink RX7 83 yX7_takesPlaces ∈ lw_tbl := List.mem_of_getElem? (i := 469) (by decide +kernel)
theorem mI_X7_takesPlaces : Cond.instanceMethod yX7_takesPlaces ∈ lw_tbl := List.mem_of_getElem? (i := 470) (by decide +kernel)
theorem mV_X7_takesPlaces : Cond.selects RX7 yX7_takesPlaces yX7_takesPlaces ∈ lw_tbl := List.mem_of_getElem? (i := 471) (by decide +kernel)
theorem mC_X7_takesPlaces : Cond.code yX7_takesPlaces cX7_takesPlaces 2 (some .boolean) ∈ lw_tbl := List.mem_of_getElem? (i := 472) (by decide +kernel)
theorem mL_X7_97 : Cond.methodLink RX7 97 yX7_placesInUse ∈ lw_tbl := List.mem_of_getElem? (i := 473) (by decide +kernel)
theorem mI_X7_placesInUse : Cond.instanceMethod yX7_placesInUse ∈ lw_tbl := List.mem_of_getElem? (i := 474) (by decide +kernel)
theorem mV_X7_placesInUse : Cond.selects RX7 yX7_placesInUse yX7_placesInUse ∈ lw_tbl := List.mem_of_getElem? (i := 475) (by decide +kernel)
theorem mC_X7_placesInUse : Cond.code yX7_placesInUse cX7_placesInUse 4 (some .int) ∈ lw_tbl := List.mem_of_getElem? (i := 476) (by decide +kernel)
theorem mL_X7_101 : Cond.methodLink RX7 101 yJ9_max_7cf53 ∈ lw_tbl := List.mem_of_getElem? (i := 477) (by decide +kernel)
theorem mS_J9_max_7cf53 : Cond.static yJ9_max_7cf53 ∈ lw_tbl := List.mem_of_getElem? (i := 478) (by decide +kernel)
theorem mC_J9_max_7cf53 : Cond.code yJ9_max_7cf53 cJ9_max_7cf53 2 (some .int) ∈ lw_tbl := List.mem_of_getElem? (i := 479) (by decide +kernel)
theorem mL_X7_69 : Cond.methodLink RX7 69 yX7_hasPart ∈ lw_tbl := List.mem_of_getElem? (i := 480) (by decide +kernel)
theorem mI_X7_hasPart : Cond.instanceMethod yX7_hasPart ∈ lw_tbl := List.mem_of_getElem? (i := 481) (by decide +kernel)
theorem mV_X7_hasPart : Cond.selects RX7 yX7_hasPart yX7_hasPart ∈ lw_tbl := List.mem_of_getElem? (i := 482) (by decide +kernel)
theorem mC_X7_hasPart : Cond.code yX7_hasPart cX7_hasPart 2 (some .boolean) ∈ lw_tbl := List.mem_of_getElem? (i := 483) (by decide +kernel)
theorem mL_X7_86 : Cond.methodLink RX7 86 yX7_takesWay ∈ lw_tbl := List.mem_of_getElem? (i := 484) (by decide +kernel)
theorem mI_X7_takesWay : Cond.instanceMethod yX7_takesWay ∈ lw_tbl := List.mem_of_getElem? (i := 485) (by decide +kernel)
theorem mV_X7_takesWay : Cond.selects RX7 yX7_takesWay yX7_takesWay ∈ lw_tbl := List.mem_of_getElem? (i := 486) (by decide +kernel)
theorem mC_X7_takesWay : Cond.code yX7_takesWay cX7_takesWay 4 (some .boolean) ∈ lw_tbl := List.mem_of_getElem? (i := 487) (by decide +kernel)
theorem mL_X7_108 : Cond.methodLink RX7 108 yX7_hasPlace ∈ lw_tbl := List.mem_of_getElem? (i := 488) (by decide +kernel)
theorem mI_X7_hasPlace : Cond.instanceMethod yX7_hasPlace ∈ lw_tbl := List.mem_of_getElem? (i := 489) (by decide +kernel)
theorem mV_X7_hasPlace : Cond.selects RX7 yX7_hasPlace yX7_hasPlace ∈ lw_tbl := List.mem_of_getElem? (i := 490) (by decide +kernel)
theorem mC_X7_hasPlace : Cond.code yX7_hasPlace cX7_hasPlace 2 (some .boolean) ∈ lw_tbl := List.mem_of_getElem? (i := 491) (by decide +kernel)
theorem mL_X7_90 : Cond.methodLink RX7 90 yX7_takesPerson ∈ lw_tbl := List.mem_of_getElem? (i := 492) (by decide +kernel)
theorem mI_X7_takesPerson : Cond.instanceMethod yX7_takesPerson ∈ lw_tbl := List.mem_of_getElem? (i := 493) (by decide +kernel)
theorem mV_X7_takesPerson : Cond.selects RX7 yX7_takesPerson yX7_takesPerson ∈ lw_tbl := List.mem_of_getElem? (i := 494) (by decide +kernel)
theorem mC_X7_takesPerson : Cond.code yX7_takesPerson cX7_takesPerson 5 (some .boolean) ∈ lw_tbl := List.mem_of_getElem? (i := 495) (by decide +kernel)
theorem mL_X7_111 : Cond.methodLink RX7 111 yX7_freePart ∈ lw_tbl := List.mem_of_getElem? (i := 496) (by decide +kernel)
theorem mI_X7_freePart : Cond.instanceMethod yX7_freePart ∈ lw_tbl := List.mem_of_getElem? (i := 497) (by decide +kernel)
theorem mV_X7_freePart : Cond.selects RX7 yX7_freePart yX7_freePart ∈ lw_tbl := List.mem_of_getElem? (i := 498) (by decide +kernel)
theorem mC_X7_freePart : Cond.code yX7_freePart cX7_freePart 2 (some .int) ∈ lw_tbl := List.mem_of_getElem? (i := 499) (by decide +kernel)
theorem mL_X7_121 : Cond.methodLink RX7 121 yX2_clear ∈ lw_tbl := List.mem_of_getElem? (i := 500) (by decide +kernel)
theorem mI_X2_clear : Cond.instanceMethod yX2_clear ∈ lw_tbl := List.mem_of_getElem? (i := 501) (by decide +kernel)
theorem mV_X2_clear : Cond.selects RX2 yX2_clear yX2_clear ∈ lw_tbl := List.mem_of_getElem? (i := 502) (by decide +kernel)
theorem mC_X2_clear : Cond.code yX2_clear cX2_clear 1 none ∈ lw_tbl := List.mem_of_getElem? (i := 503) (by decide +kernel)
theorem mL_X7_94 : Cond.methodLink RX7 94 yX7_takesWork ∈ lw_tbl := List.mem_of_getElem? (i := 504) (by decide +kernel)
theorem mI_X7_takesWork : Cond.instanceMethod yX7_takesWork ∈ lw_tbl := List.mem_of_getElem? (i := 505) (by decide +kernel)
theorem mV_X7_takesWork : Cond.selects RX7 yX7_takesWork yX7_takesWork ∈ lw_tbl := List.mem_of_getElem? (i := 506) (by decide +kernel)
theorem mC_X7_takesWork : Cond.code yX7_takesWork cX7_takesWork 4 (some .boolean) ∈ lw_tbl := List.mem_of_getElem? (i := 507) (by decide +kernel)
theorem mL_X9_91 : Cond.methodLink RX9 91 yX6_clear ∈ lw_tbl := List.mem_of_getElem? (i := 508) (by decide +kernel)
theorem mI_X6_clear : Cond.instanceMethod yX6_clear ∈ lw_tbl := List.mem_of_getElem? (i := 509) (by decide +kernel)
theorem mV_X6_clear : Cond.selects RX6 yX6_clear yX6_clear ∈ lw_tbl := List.mem_of_getElem? (i := 510) (by decide +kernel)
theorem mC_X6_clear : Cond.code yX6_clear cX6_clear 1 none ∈ lw_tbl := List.mem_of_getElem? (i := 511) (by decide +kernel)
theorem mL_X9_94 : Cond.methodLink RX9 94 yX5_forget ∈ lw_tbl := List.mem_of_getElem? (i := 512) (by decide +kernel)
theorem mI_X5_forget : Cond.instanceMethod yX5_forget ∈ lw_tbl := List.mem_of_getElem? (i := 513) (by decide +kernel)
theorem mV_X5_forget : Cond.selects RX5 yX5_forget yX5_forget ∈ lw_tbl := List.mem_of_getElem? (i := 514) (by decide +kernel)
theorem mC_X5_forget : Cond.code yX5_forget cX5_forget 1 none ∈ lw_tbl := List.mem_of_getElem? (i := 515) (by decide +kernel)
theorem mL_L_23 : Cond.methodLink RL 23 yX9_person ∈ lw_tbl := List.mem_of_getElem? (i := 516) (by decide +kernel)
theorem mI_X9_person : Cond.instanceMethod yX9_person ∈ lw_tbl := List.mem_of_getElem? (i := 517) (by decide +kernel)
theorem mV_X9_person : Cond.selects RX9 yX9_person yX9_person ∈ lw_tbl := List.mem_of_getElem? (i := 518) (by decide +kernel)
theorem mC_X9_person : Cond.code yX9_person cX9_person 3 (some .int) ∈ lw_tbl := List.mem_of_getElem? (i := 519) (by decide +kernel)
theorem mL_X9_97 : Cond.methodLink RX9 97 yX7_hasPerson ∈ lw_tbl := List.mem_of_getElem? (i := 520) (by decide +kernel)
theorem mI_X7_hasPerson : Cond.instanceMethod yX7_hasPerson ∈ lw_tbl := List.mem_of_getElem? (i := 521) (by decide +kernel)
theorem mV_X7_hasPerson : Cond.selects RX7 yX7_hasPerson yX7_hasPerson ∈ lw_tbl := List.mem_of_getElem? (i := 522) (by decide +kernel)
theorem mC_X7_hasPerson : Cond.code yX7_hasPerson cX7_hasPerson 2 (some .boolean) ∈ lw_tbl := List.mem_of_getElem? (i := 523) (by decide +kernel)
theorem mL_X9_113 : Cond.methodLink RX9 113 yX7_twelfthsOf ∈ lw_tbl := List.mem_of_getElem? (i := 524) (by decide +kernel)
theorem mI_X7_twelfthsOf : Cond.instanceMethod yX7_twelfthsOf ∈ lw_tbl := List.mem_of_getElem? (i := 525) (by decide +kernel)
theorem mV_X7_twelfthsOf : Cond.selects RX7 yX7_twelfthsOf yX7_twelfthsOf ∈ lw_tbl := List.mem_of_getElem? (i := 526) (by decide +kernel)
theorem mC_X7_twelfthsOf : Cond.code yX7_twelfthsOf cX7_twelfthsOf 4 (some .int) ∈ lw_tbl := List.mem_of_getElem? (i := 527) (by decide +kernel)
theorem mL_X7_76 : Cond.methodLink RX7 76 yX7_isPartOf ∈ lw_tbl := List.mem_of_getElem? (i := 528) (by decide +kernel)
theorem mI_X7_isPartOf : Cond.instanceMethod yX7_isPartOf ∈ lw_tbl := List.mem_of_getElem? (i := 529) (by decide +kernel)
theorem mV_X7_isPartOf : Cond.selects RX7 yX7_isPartOf yX7_isPartOf ∈ lw_tbl := List.mem_of_getElem? (i := 530) (by decide +kernel)
theorem mC_X7_isPartOf : Cond.code yX7_isPartOf cX7_isPartOf 3 (some .boolean) ∈ lw_tbl := List.mem_of_getElem? (i := 531) (by decide +kernel)
theorem mL_X9_116 : Cond.methodLink RX9 116 yX7_partsOf ∈ lw_tbl := List.mem_of_getElem? (i := 532) (by decide +kernel)
theorem mI_X7_partsOf : Cond.instanceMethod yX7_partsOf ∈ lw_tbl := List.mem_of_getElem? (i := 533) (by decide +kernel)
theorem mV_X7_partsOf : Cond.selects RX7 yX7_partsOf yX7_partsOf ∈ lw_tbl := List.mem_of_getElem? (i := 534) (by decide +kernel)
theorem mC_X7_partsOf : Cond.code yX7_partsOf cX7_partsOf 4 (some .int) ∈ lw_tbl := List.mem_of_getElem? (i := 535) (by decide +kernel)
theorem mL_L_28 : Cond.methodLink RL 28 yX9_work ∈ lw_tbl := List.mem_of_getElem? (i := 536) (by decide +kernel)
theorem mI_X9_work : Cond.instanceMethod yX9_work ∈ lw_tbl := List.mem_of_getElem? (i := 537) (by decide +kernel)
theorem mV_X9_work : Cond.selects RX9 yX9_work yX9_work ∈ lw_tbl := List.mem_of_getElem? (i := 538) (by decide +kernel)
theorem mC_X9_work : Cond.code yX9_work cX9_work 4 (some .int) ∈ lw_tbl := List.mem_of_getElem? (i := 539) (by decide +kernel)
theorem mL_X9_119 : Cond.methodLink RX9 119 yX7_hasWork ∈ lw_tbl := List.mem_of_getElem? (i := 540) (by decide +kernel)
theorem mI_X7_hasWork : Cond.instanceMethod yX7_hasWork ∈ lw_tbl := List.mem_of_getElem? (i := 541) (by decide +kernel)
theorem mV_X7_hasWork : Cond.selects RX7 yX7_hasWork yX7_hasWork ∈ lw_tbl := List.mem_of_getElem? (i := 542) (by decide +kernel)
theorem mC_X7_hasWork : Cond.code yX7_hasWork cX7_hasWork 2 (some .boolean) ∈ lw_tbl := List.mem_of_getElem? (i := 543) (by decide +kernel)
theorem mL_L_32 : Cond.methodLink RL 32 yX9_minutes ∈ lw_tbl := List.mem_of_getElem? (i := 544) (by decide +kernel)
theorem mI_X9_minutes : Cond.instanceMethod yX9_minutes ∈ lw_tbl := List.mem_of_getElem? (i := 545) (by decide +kernel)
theorem mV_X9_minutes : Cond.selects RX9 yX9_minutes yX9_minutes ∈ lw_tbl := List.mem_of_getElem? (i := 546) (by decide +kernel)
theorem mC_X9_minutes : Cond.code yX9_minutes cX9_minutes 3 (some .int) ∈ lw_tbl := List.mem_of_getElem? (i := 547) (by decide +kernel)
theorem mL_X9_140 : Cond.methodLink RX9 140 yX7_hasPlace ∈ lw_tbl := List.mem_of_getElem? (i := 548) (by decide +kernel)
theorem mL_X9_143 : Cond.methodLink RX9 143 yX7_measure ∈ lw_tbl := List.mem_of_getElem? (i := 549) (by decide +kernel)
theorem mI_X7_measure : Cond.instanceMethod yX7_measure ∈ lw_tbl := List.mem_of_getElem? (i := 550) (by decide +kernel)
theorem mV_X7_measure : Cond.selects RX7 yX7_measure yX7_measure ∈ lw_tbl := List.mem_of_getElem? (i := 551) (by decide +kernel)
theorem mC_X7_measure : Cond.code yX7_measure cX7_measure 4 none ∈ lw_tbl := List.mem_of_getElem? (i := 552) (by decide +kernel)
theorem mL_X7_133 : Cond.methodLink RX7 133 yX7_shorten ∈ lw_tbl := List.mem_of_getElem? (i := 553) (by decide +kernel)
theorem mI_X7_shorten : Cond.instanceMethod yX7_shorten ∈ lw_tbl := List.mem_of_getElem? (i := 554) (by decide +kernel)
theorem mV_X7_shorten : Cond.selects RX7 yX7_shorten yX7_shorten ∈ lw_tbl := List.mem_of_getElem? (i := 555) (by decide +kernel)
theorem mC_X7_shorten : Cond.code yX7_shorten cX7_shorten 5 none ∈ lw_tbl := List.mem_of_getElem? (i := 556) (by decide +kernel)
theorem mL_L_36 : Cond.methodLink RL 36 yX9_partOf ∈ lw_tbl := List.mem_of_getElem? (i := 557) (by decide +kernel)
theorem mI_X9_partOf : Cond.instanceMethod yX9_partOf ∈ lw_tbl := List.mem_of_getElem? (i := 558) (by decide +kernel)
theorem mV_X9_partOf : Cond.selects RX9 yX9_partOf yX9_partOf ∈ lw_tbl := List.mem_of_getElem? (i := 559) (by decide +kernel)
theorem mC_X9_partOf : Cond.code yX9_partOf cX9_partOf 4 (some .int) ∈ lw_tbl := List.mem_of_getElem? (i := 560) (by decide +kernel)
theorem mL_X9_150 : Cond.methodLink RX9 150 yX7_hasPart ∈ lw_tbl := List.mem_of_getElem? (i := 561) (by decide +kernel)
theorem mL_L_40 : Cond.methodLink RL 40 yX9_split ∈ lw_tbl := List.mem_of_getElem? (i := 562) (by decide +kernel)
theorem mI_X9_split : Cond.instanceMethod yX9_split ∈ lw_tbl := List.mem_of_getElem? (i := 563) (by decide +kernel)
theorem mV_X9_split : Cond.selects RX9 yX9_split yX9_split ∈ lw_tbl := List.mem_of_getElem? (i := 564) (by decide +kernel)
theorem mC_X9_split : Cond.code yX9_split cX9_split 7 (some .int) ∈ lw_tbl := List.mem_of_getElem? (i := 565) (by decide +kernel)
theorem mL_X9_178 : Cond.methodLink RX9 178 yX7_freePart ∈ lw_tbl := List.mem_of_getElem? (i := 566) (by decide +kernel)
theorem mL_X9_182 : Cond.methodLink RX9 182 yX2_become ∈ lw_tbl := List.mem_of_getElem? (i := 567) (by decide +kernel)
theorem mL_L_44 : Cond.methodLink RL 44 yX9_go ∈ lw_tbl := List.mem_of_getElem? (i := 568) (by decide +kernel)
theorem mI_X9_go : Cond.instanceMethod yX9_go ∈ lw_tbl := List.mem_of_getElem? (i := 569) (by decide +kernel)
theorem mV_X9_go : Cond.selects RX9 yX9_go yX9_go ∈ lw_tbl := List.mem_of_getElem? (i := 570) (by decide +kernel)
theorem mC_X9_go : Cond.code yX9_go cX9_go 5 (some .int) ∈ lw_tbl := List.mem_of_getElem? (i := 571) (by decide +kernel)
theorem mL_L_48 : Cond.methodLink RL 48 yX9_see ∈ lw_tbl := List.mem_of_getElem? (i := 572) (by decide +kernel)
theorem mI_X9_see : Cond.instanceMethod yX9_see ∈ lw_tbl := List.mem_of_getElem? (i := 573) (by decide +kernel)
theorem mV_X9_see : Cond.selects RX9 yX9_see yX9_see ∈ lw_tbl := List.mem_of_getElem? (i := 574) (by decide +kernel)
theorem mC_X9_see : Cond.code yX9_see cX9_see 3 (some .int) ∈ lw_tbl := List.mem_of_getElem? (i := 575) (by decide +kernel)
theorem mL_X9_185 : Cond.methodLink RX9 185 yJ6_bitCount_0f7a4 ∈ lw_tbl := List.mem_of_getElem? (i := 576) (by decide +kernel)
theorem mS_J6_bitCount_0f7a4 : Cond.static yJ6_bitCount_0f7a4 ∈ lw_tbl := List.mem_of_getElem? (i := 577) (by decide +kernel)
theorem mC_J6_bitCount_0f7a4 : Cond.code yJ6_bitCount_0f7a4 cJ6_bitCount_0f7a4 1 (some .int) ∈ lw_tbl := List.mem_of_getElem? (i := 578) (by decide +kernel)
theorem mQ_java_lang_Integer_265 : Cond.constant "java/lang/Integer" 265 1431655765 ∈ lw_tbl := List.mem_of_getElem? (i := 579) (by decide +kernel)
theorem mQ_java_lang_Integer_266 : Cond.constant "java/lang/Integer" 266 858993459 ∈ lw_tbl := List.mem_of_getElem? (i := 580) (by decide +kernel)
theorem mQ_java_lang_Integer_267 : Cond.constant "java/lang/Integer" 267 252645135 ∈ lw_tbl := List.mem_of_getElem? (i := 581) (by decide +kernel)
theorem mL_L_52 : Cond.methodLink RL 52 yX9_join ∈ lw_tbl := List.mem_of_getElem? (i := 582) (by decide +kernel)
theorem mI_X9_join : Cond.instanceMethod yX9_join ∈ lw_tbl := List.mem_of_getElem? (i := 583) (by decide +kernel)
theorem mV_X9_join : Cond.selects RX9 yX9_join yX9_join ∈ lw_tbl := List.mem_of_getElem? (i := 584) (by decide +kernel)
theorem mC_X9_join : Cond.code yX9_join cX9_join 5 (some .int) ∈ lw_tbl := List.mem_of_getElem? (i := 585) (by decide +kernel)
theorem mL_X9_190 : Cond.methodLink RX9 190 yJ9_max_7cf53 ∈ lw_tbl := List.mem_of_getElem? (i := 586) (by decide +kernel)
theorem mL_X9_196 : Cond.methodLink RX9 196 yX2_clear ∈ lw_tbl := List.mem_of_getElem? (i := 587) (by decide +kernel)
theorem mL_L_56 : Cond.methodLink RL 56 yX9_at ∈ lw_tbl := List.mem_of_getElem? (i := 588) (by decide +kernel)
theorem mI_X9_at : Cond.instanceMethod yX9_at ∈ lw_tbl := List.mem_of_getElem? (i := 589) (by decide +kernel)
theorem mV_X9_at : Cond.selects RX9 yX9_at yX9_at ∈ lw_tbl := List.mem_of_getElem? (i := 590) (by decide +kernel)
theorem mC_X9_at : Cond.code yX9_at cX9_at 5 (some .int) ∈ lw_tbl := List.mem_of_getElem? (i := 591) (by decide +kernel)
theorem mL_L_60 : Cond.methodLink RL 60 yX9_toil ∈ lw_tbl := List.mem_of_getElem? (i := 592) (by decide +kernel)
theorem mI_X9_toil : Cond.instanceMethod yX9_toil ∈ lw_tbl := List.mem_of_getElem? (i := 593) (by decide +kernel)
theorem mV_X9_toil : Cond.selects RX9 yX9_toil yX9_toil ∈ lw_tbl := List.mem_of_getElem? (i := 594) (by decide +kernel)
theorem mC_X9_toil : Cond.code yX9_toil cX9_toil 5 (some .int) ∈ lw_tbl := List.mem_of_getElem? (i := 595) (by decide +kernel)
theorem mL_X9_197 : Cond.methodLink RX9 197 yX9_refusalOfTime ∈ lw_tbl := List.mem_of_getElem? (i := 596) (by decide +kernel)
theorem mI_X9_refusalOfTime : Cond.instanceMethod yX9_refusalOfTime ∈ lw_tbl := List.mem_of_getElem? (i := 598) (by decide +kernel)
theorem mC_X9_refusalOfTime : Cond.code yX9_refusalOfTime cX9_refusalOfTime 3 (some .int) ∈ lw_tbl := List.mem_of_getElem? (i := 599) (by decide +kernel)
theorem mL_L_64 : Cond.methodLink RL 64 yX9_rest ∈ lw_tbl := List.mem_of_getElem? (i := 600) (by decide +kernel)
theorem mI_X9_rest : Cond.instanceMethod yX9_rest ∈ lw_tbl := List.mem_of_getElem? (i := 601) (by decide +kernel)
theorem mV_X9_rest : Cond.selects RX9 yX9_rest yX9_rest ∈ lw_tbl := List.mem_of_getElem? (i := 602) (by decide +kernel)
theorem mC_X9_rest : Cond.code yX9_rest cX9_rest 5 (some .int) ∈ lw_tbl := List.mem_of_getElem? (i := 603) (by decide +kernel)
theorem mL_L_68 : Cond.methodLink RL 68 yX9_lose ∈ lw_tbl := List.mem_of_getElem? (i := 604) (by decide +kernel)
theorem mI_X9_lose : Cond.instanceMethod yX9_lose ∈ lw_tbl := List.mem_of_getElem? (i := 605) (by decide +kernel)
theorem mV_X9_lose : Cond.selects RX9 yX9_lose yX9_lose ∈ lw_tbl := List.mem_of_getElem? (i := 606) (by decide +kernel)
theorem mC_X9_lose : Cond.code yX9_lose cX9_lose 3 (some .int) ∈ lw_tbl := List.mem_of_getElem? (i := 607) (by decide +kernel)
theorem mL_L_72 : Cond.methodLink RL 72 yX9_does ∈ lw_tbl := List.mem_of_getElem? (i := 608) (by decide +kernel)
theorem mI_X9_does : Cond.instanceMethod yX9_does ∈ lw_tbl := List.mem_of_getElem? (i := 609) (by decide +kernel)
theorem mV_X9_does : Cond.selects RX9 yX9_does yX9_does ∈ lw_tbl := List.mem_of_getElem? (i := 610) (by decide +kernel)
theorem mC_X9_does : Cond.code yX9_does cX9_does 3 (some .int) ∈ lw_tbl := List.mem_of_getElem? (i := 611) (by decide +kernel)
theorem mL_X9_200 : Cond.methodLink RX9 200 yX9_gatherParts ∈ lw_tbl := List.mem_of_getElem? (i := 612) (by decide +kernel)
theorem mI_X9_gatherParts : Cond.instanceMethod yX9_gatherParts ∈ lw_tbl := List.mem_of_getElem? (i := 614) (by decide +kernel)
theorem mC_X9_gatherParts : Cond.code yX9_gatherParts cX9_gatherParts 4 none ∈ lw_tbl := List.mem_of_getElem? (i := 615) (by decide +kernel)
theorem mL_X9_245 : Cond.methodLink RX9 245 yX1_begin ∈ lw_tbl := List.mem_of_getElem? (i := 616) (by decide +kernel)
theorem mI_X1_begin : Cond.instanceMethod yX1_begin ∈ lw_tbl := List.mem_of_getElem? (i := 617) (by decide +kernel)
theorem mV_X1_begin : Cond.selects RX1 yX1_begin yX1_begin ∈ lw_tbl := List.mem_of_getElem? (i := 618) (by decide +kernel)
theorem mC_X1_begin : Cond.code yX1_begin cX1_begin 3 none ∈ lw_tbl := List.mem_of_getElem? (i := 619) (by decide +kernel)
theorem mL_X9_249 : Cond.methodLink RX9 249 yX1_add ∈ lw_tbl := List.mem_of_getElem? (i := 620) (by decide +kernel)
theorem mI_X1_add : Cond.instanceMethod yX1_add ∈ lw_tbl := List.mem_of_getElem? (i := 621) (by decide +kernel)
theorem mV_X1_add : Cond.selects RX1 yX1_add yX1_add ∈ lw_tbl := List.mem_of_getElem? (i := 622) (by decide +kernel)
theorem mC_X1_add : Cond.code yX1_add cX1_add 7 none ∈ lw_tbl := List.mem_of_getElem? (i := 623) (by decide +kernel)
theorem mF_X1_32 : Cond.fieldLink RX1 32 "HalfHere$Effort" "LEAST_TO_GIVE" "[I" ∈ lw_tbl := List.mem_of_getElem? (i := 624) (by decide +kernel)
theorem mZ_LEAST_TO_GIVE : Cond.laysStatic RX1 "LEAST_TO_GIVE" "[I" ∈ lw_tbl := List.mem_of_getElem? (i := 625) (by decide +kernel)
theorem mL_X9_204 : Cond.methodLink RX9 204 yX1_sum ∈ lw_tbl := List.mem_of_getElem? (i := 626) (by decide +kernel)
theorem mI_X1_sum : Cond.instanceMethod yX1_sum ∈ lw_tbl := List.mem_of_getElem? (i := 627) (by decide +kernel)
theorem mV_X1_sum : Cond.selects RX1 yX1_sum yX1_sum ∈ lw_tbl := List.mem_of_getElem? (i := 628) (by decide +kernel)
theorem mC_X1_sum : Cond.code yX1_sum cX1_sum 2 (some .int) ∈ lw_tbl := List.mem_of_getElem? (i := 629) (by decide +kernel)
theorem mL_X1_40 : Cond.methodLink RX1 40 yJ6_bitCount_0f7a4 ∈ lw_tbl := List.mem_of_getElem? (i := 630) (by decide +kernel)
theorem mL_L_76 : Cond.methodLink RL 76 yX9_well ∈ lw_tbl := List.mem_of_getElem? (i := 631) (by decide +kernel)
theorem mI_X9_well : Cond.instanceMethod yX9_well ∈ lw_tbl := List.mem_of_getElem? (i := 632) (by decide +kernel)
theorem mV_X9_well : Cond.selects RX9 yX9_well yX9_well ∈ lw_tbl := List.mem_of_getElem? (i := 633) (by decide +kernel)
theorem mC_X9_well : Cond.code yX9_well cX9_well 3 (some .int) ∈ lw_tbl := List.mem_of_getElem? (i := 634) (by decide +kernel)
theorem mL_X9_207 : Cond.methodLink RX9 207 yX1_weigh ∈ lw_tbl := List.mem_of_getElem? (i := 635) (by decide +kernel)
theorem mI_X1_weigh : Cond.instanceMethod yX1_weigh ∈ lw_tbl := List.mem_of_getElem? (i := 636) (by decide +kernel)
theorem mV_X1_weigh : Cond.selects RX1 yX1_weigh yX1_weigh ∈ lw_tbl := List.mem_of_getElem? (i := 637) (by decide +kernel)
theorem mC_X1_weigh : Cond.code yX1_weigh cX1_weigh 3 none ∈ lw_tbl := List.mem_of_getElem? (i := 638) (by decide +kernel)
theorem mL_X1_46 : Cond.methodLink RX1 46 yX1_sum ∈ lw_tbl := List.mem_of_getElem? (i := 639) (by decide +kernel)
theorem mLN_X1_52 : Cond.methodLinkNest RX1 52 yX9_commonDivisor RX9 ∈ lw_tbl := List.mem_of_getElem? (i := 640) (by decide +kernel)
theorem mS_X9_commonDivisor : Cond.static yX9_commonDivisor ∈ lw_tbl := List.mem_of_getElem? (i := 641) (by decide +kernel)
theorem mC_X9_commonDivisor : Cond.code yX9_commonDivisor cX9_commonDivisor 11 (some .long) ∈ lw_tbl := List.mem_of_getElem? (i := 642) (by decide +kernel)
theorem mL_X1_56 : Cond.methodLink RX1 56 yJ9_max_f86c9 ∈ lw_tbl := List.mem_of_getElem? (i := 643) (by decide +kernel)
theorem mS_J9_max_f86c9 : Cond.static yJ9_max_f86c9 ∈ lw_tbl := List.mem_of_getElem? (i := 644) (by decide +kernel)
theorem mC_J9_max_f86c9 : Cond.code yJ9_max_f86c9 cJ9_max_f86c9 4 (some .long) ∈ lw_tbl := List.mem_of_getElem? (i := 645) (by decide +kernel)
theorem mL_L_80 : Cond.methodLink RL 80 yX9_plan ∈ lw_tbl := List.mem_of_getElem? (i := 646) (by decide +kernel)
theorem mI_X9_plan : Cond.instanceMethod yX9_plan ∈ lw_tbl := List.mem_of_getElem? (i := 647) (by decide +kernel)
theorem mV_X9_plan : Cond.selects RX9 yX9_plan yX9_plan ∈ lw_tbl := List.mem_of_getElem? (i := 648) (by decide +kernel)
theorem mC_X9_plan : Cond.code yX9_plan cX9_plan 2 (some .int) ∈ lw_tbl := List.mem_of_getElem? (i := 649) (by decide +kernel)
theorem mL_X9_216 : Cond.methodLink RX9 216 yX4_isKind ∈ lw_tbl := List.mem_of_getElem? (i := 650) (by decide +kernel)
theorem mS_X4_isKind : Cond.static yX4_isKind ∈ lw_tbl := List.mem_of_getElem? (i := 651) (by decide +kernel)
theorem mC_X4_isKind : Cond.code yX4_isKind cX4_isKind 1 (some .boolean) ∈ lw_tbl := List.mem_of_getElem? (i := 652) (by decide +kernel)
theorem mL_X9_219 : Cond.methodLink RX9 219 yX4_make ∈ lw_tbl := List.mem_of_getElem? (i := 653) (by decide +kernel)
theorem mI_X4_make : Cond.instanceMethod yX4_make ∈ lw_tbl := List.mem_of_getElem? (i := 654) (by decide +kernel)
theorem mV_X4_make : Cond.selects RX4 yX4_make yX4_make ∈ lw_tbl := List.mem_of_getElem? (i := 655) (by decide +kernel)
theorem mC_X4_make : Cond.code yX4_make cX4_make 5 none ∈ lw_tbl := List.mem_of_getElem? (i := 656) (by decide +kernel)
theorem mL_X4_26 : Cond.methodLink RX4 26 yX4_makeWholes ∈ lw_tbl := List.mem_of_getElem? (i := 657) (by decide +kernel)
theorem mI_X4_makeWholes : Cond.instanceMethod yX4_makeWholes ∈ lw_tbl := List.mem_of_getElem? (i := 658) (by decide +kernel)
theorem mV_X4_makeWholes : Cond.selects RX4 yX4_makeWholes yX4_makeWholes ∈ lw_tbl := List.mem_of_getElem? (i := 659) (by decide +kernel)
theorem mC_X4_makeWholes : Cond.code yX4_makeWholes cX4_makeWholes 5 none ∈ lw_tbl := List.mem_of_getElem? (i := 660) (by decide +kernel)
theorem mL_X4_43 : Cond.methodLink RX4 43 yX4_isDone ∈ lw_tbl := List.mem_of_getElem? (i := 661) (by decide +kernel)
theorem mI_X4_isDone : Cond.instanceMethod yX4_isDone ∈ lw_tbl := List.mem_of_getElem? (i := 662) (by decide +kernel)
theorem mV_X4_isDone : Cond.selects RX4 yX4_isDone yX4_isDone ∈ lw_tbl := List.mem_of_getElem? (i := 663) (by decide +kernel)
theorem mC_X4_isDone : Cond.code yX4_isDone cX4_isDone 3 (some .boolean) ∈ lw_tbl := List.mem_of_getElem? (i := 664) (by decide +kernel)
theorem mL_X4_80 : Cond.methodLink RX4 80 yX4_gather ∈ lw_tbl := List.mem_of_getElem? (i := 665) (by decide +kernel)
theorem mI_X4_gather : Cond.instanceMethod yX4_gather ∈ lw_tbl := List.mem_of_getElem? (i := 666) (by decide +kernel)
theorem mV_X4_gather : Cond.selects RX4 yX4_gather yX4_gather ∈ lw_tbl := List.mem_of_getElem? (i := 667) (by decide +kernel)
theorem mC_X4_gather : Cond.code yX4_gather cX4_gather 5 none ∈ lw_tbl := List.mem_of_getElem? (i := 668) (by decide +kernel)
theorem mL_X4_91 : Cond.methodLink RX4 91 yX1_begin ∈ lw_tbl := List.mem_of_getElem? (i := 669) (by decide +kernel)
theorem mL_X4_84 : Cond.methodLink RX4 84 yX1_add ∈ lw_tbl := List.mem_of_getElem? (i := 670) (by decide +kernel)
theorem mL_X4_88 : Cond.methodLink RX4 88 yX1_isDone ∈ lw_tbl := List.mem_of_getElem? (i := 671) (by decide +kernel)
theorem mI_X1_isDone : Cond.instanceMethod yX1_isDone ∈ lw_tbl := List.mem_of_getElem? (i := 672) (by decide +kernel)
theorem mV_X1_isDone : Cond.selects RX1 yX1_isDone yX1_isDone ∈ lw_tbl := List.mem_of_getElem? (i := 673) (by decide +kernel)
theorem mC_X1_isDone : Cond.code yX1_isDone cX1_isDone 2 (some .boolean) ∈ lw_tbl := List.mem_of_getElem? (i := 674) (by decide +kernel)
theorem mL_X4_59 : Cond.methodLink RX4 59 yX4_helps ∈ lw_tbl := List.mem_of_getElem? (i := 675) (by decide +kernel)
theorem mI_X4_helps : Cond.instanceMethod yX4_helps ∈ lw_tbl := List.mem_of_getElem? (i := 676) (by decide +kernel)
theorem mV_X4_helps : Cond.selects RX4 yX4_helps yX4_helps ∈ lw_tbl := List.mem_of_getElem? (i := 677) (by decide +kernel)
theorem mC_X4_helps : Cond.code yX4_helps cX4_helps 6 (some .boolean) ∈ lw_tbl := List.mem_of_getElem? (i := 678) (by decide +kernel)
theorem mL_X4_99 : Cond.methodLink RX4 99 yX1_sum ∈ lw_tbl := List.mem_of_getElem? (i := 679) (by decide +kernel)
theorem mL_X4_30 : Cond.methodLink RX4 30 yX4_makeEven ∈ lw_tbl := List.mem_of_getElem? (i := 680) (by decide +kernel)
theorem mI_X4_makeEven : Cond.instanceMethod yX4_makeEven ∈ lw_tbl := List.mem_of_getElem? (i := 681) (by decide +kernel)
theorem mV_X4_makeEven : Cond.selects RX4 yX4_makeEven yX4_makeEven ∈ lw_tbl := List.mem_of_getElem? (i := 682) (by decide +kernel)
theorem mC_X4_makeEven : Cond.code yX4_makeEven cX4_makeEven 5 none ∈ lw_tbl := List.mem_of_getElem? (i := 683) (by decide +kernel)
theorem mL_X4_33 : Cond.methodLink RX4 33 yX4_makeNeed ∈ lw_tbl := List.mem_of_getElem? (i := 684) (by decide +kernel)
theorem mI_X4_makeNeed : Cond.instanceMethod yX4_makeNeed ∈ lw_tbl := List.mem_of_getElem? (i := 685) (by decide +kernel)
theorem mV_X4_makeNeed : Cond.selects RX4 yX4_makeNeed yX4_makeNeed ∈ lw_tbl := List.mem_of_getElem? (i := 686) (by decide +kernel)
theorem mC_X4_makeNeed : Cond.code yX4_makeNeed cX4_makeNeed 7 none ∈ lw_tbl := List.mem_of_getElem? (i := 687) (by decide +kernel)
theorem mL_X4_72 : Cond.methodLink RX4 72 yX4_used ∈ lw_tbl := List.mem_of_getElem? (i := 688) (by decide +kernel)
theorem mI_X4_used : Cond.instanceMethod yX4_used ∈ lw_tbl := List.mem_of_getElem? (i := 689) (by decide +kernel)
theorem mV_X4_used : Cond.selects RX4 yX4_used yX4_used ∈ lw_tbl := List.mem_of_getElem? (i := 690) (by decide +kernel)
theorem mC_X4_used : Cond.code yX4_used cX4_used 4 (some .int) ∈ lw_tbl := List.mem_of_getElem? (i := 691) (by decide +kernel)
theorem mL_X4_76 : Cond.methodLink RX4 76 yX4_needed ∈ lw_tbl := List.mem_of_getElem? (i := 692) (by decide +kernel)
theorem mI_X4_needed : Cond.instanceMethod yX4_needed ∈ lw_tbl := List.mem_of_getElem? (i := 693) (by decide +kernel)
theorem mV_X4_needed : Cond.selects RX4 yX4_needed yX4_needed ∈ lw_tbl := List.mem_of_getElem? (i := 694) (by decide +kernel)
theorem mC_X4_needed : Cond.code yX4_needed cX4_needed 7 (some .int) ∈ lw_tbl := List.mem_of_getElem? (i := 695) (by decide +kernel)
theorem mL_X9_223 : Cond.methodLink RX9 223 yX4_worth ∈ lw_tbl := List.mem_of_getElem? (i := 696) (by decide +kernel)
theorem mI_X4_worth : Cond.instanceMethod yX4_worth ∈ lw_tbl := List.mem_of_getElem? (i := 697) (by decide +kernel)
theorem mV_X4_worth : Cond.selects RX4 yX4_worth yX4_worth ∈ lw_tbl := List.mem_of_getElem? (i := 698) (by decide +kernel)
theorem mC_X4_worth : Cond.code yX4_worth cX4_worth 4 (some .int) ∈ lw_tbl := List.mem_of_getElem? (i := 699) (by decide +kernel)
theorem mL_L_84 : Cond.methodLink RL 84 yX9_planned ∈ lw_tbl := List.mem_of_getElem? (i := 700) (by decide +kernel)
theorem mI_X9_planned : Cond.instanceMethod yX9_planned ∈ lw_tbl := List.mem_of_getElem? (i := 701) (by decide +kernel)
theorem mV_X9_planned : Cond.selects RX9 yX9_planned yX9_planned ∈ lw_tbl := List.mem_of_getElem? (i := 702) (by decide +kernel)
theorem mC_X9_planned : Cond.code yX9_planned cX9_planned 4 (some .int) ∈ lw_tbl := List.mem_of_getElem? (i := 703) (by decide +kernel)
theorem mL_L_89 : Cond.methodLink RL 89 yX9_best ∈ lw_tbl := List.mem_of_getElem? (i := 704) (by decide +kernel)
theorem mI_X9_best : Cond.instanceMethod yX9_best ∈ lw_tbl := List.mem_of_getElem? (i := 705) (by decide +kernel)
theorem mV_X9_best : Cond.selects RX9 yX9_best yX9_best ∈ lw_tbl := List.mem_of_getElem? (i := 706) (by decide +kernel)
theorem mC_X9_best : Cond.code yX9_best cX9_best 1 (some .int) ∈ lw_tbl := List.mem_of_getElem? (i := 707) (by decide +kernel)
theorem mL_X9_227 : Cond.methodLink RX9 227 yX5_fits ∈ lw_tbl := List.mem_of_getElem? (i := 708) (by decide +kernel)
theorem mS_X5_fits : Cond.static yX5_fits ∈ lw_tbl := List.mem_of_getElem? (i := 709) (by decide +kernel)
theorem mC_X5_fits : Cond.code yX5_fits cX5_fits 1 (some .boolean) ∈ lw_tbl := List.mem_of_getElem? (i := 710) (by decide +kernel)
theorem mL_X9_231 : Cond.methodLink RX9 231 yX5_find ∈ lw_tbl := List.mem_of_getElem? (i := 711) (by decide +kernel)
theorem mI_X5_find : Cond.instanceMethod yX5_find ∈ lw_tbl := List.mem_of_getElem? (i := 712) (by decide +kernel)
theorem mV_X5_find : Cond.selects RX5 yX5_find yX5_find ∈ lw_tbl := List.mem_of_getElem? (i := 713) (by decide +kernel)
theorem mC_X5_find : Cond.code yX5_find cX5_find 4 none ∈ lw_tbl := List.mem_of_getElem? (i := 714) (by decide +kernel)
theorem mL_X5_41 : Cond.methodLink RX5 41 yX5_fits ∈ lw_tbl := List.mem_of_getElem? (i := 715) (by decide +kernel)
theorem mL_X5_45 : Cond.methodLink RX5 45 yX5_listHows ∈ lw_tbl := List.mem_of_getElem? (i := 716) (by decide +kernel)
theorem mI_X5_listHows : Cond.instanceMethod yX5_listHows ∈ lw_tbl := List.mem_of_getElem? (i := 717) (by decide +kernel)
theorem mV_X5_listHows : Cond.selects RX5 yX5_listHows yX5_listHows ∈ lw_tbl := List.mem_of_getElem? (i := 718) (by decide +kernel)
theorem mC_X5_listHows : Cond.code yX5_listHows cX5_listHows 5 none ∈ lw_tbl := List.mem_of_getElem? (i := 719) (by decide +kernel)
theorem mL_X5_49 : Cond.methodLink RX5 49 yX5_fillGains ∈ lw_tbl := List.mem_of_getElem? (i := 720) (by decide +kernel)
theorem mI_X5_fillGains : Cond.instanceMethod yX5_fillGains ∈ lw_tbl := List.mem_of_getElem? (i := 721) (by decide +kernel)
theorem mV_X5_fillGains : Cond.selects RX5 yX5_fillGains yX5_fillGains ∈ lw_tbl := List.mem_of_getElem? (i := 722) (by decide +kernel)
theorem mC_X5_fillGains : Cond.code yX5_fillGains cX5_fillGains 5 (some .int) ∈ lw_tbl := List.mem_of_getElem? (i := 723) (by decide +kernel)
theorem mL_X5_60 : Cond.methodLink RX5 60 yX5_gain ∈ lw_tbl := List.mem_of_getElem? (i := 724) (by decide +kernel)
theorem mI_X5_gain : Cond.instanceMethod yX5_gain ∈ lw_tbl := List.mem_of_getElem? (i := 725) (by decide +kernel)
theorem mV_X5_gain : Cond.selects RX5 yX5_gain yX5_gain ∈ lw_tbl := List.mem_of_getElem? (i := 726) (by decide +kernel)
theorem mC_X5_gain : Cond.code yX5_gain cX5_gain 7 (some .int) ∈ lw_tbl := List.mem_of_getElem? (i := 727) (by decide +kernel)
theorem mL_X5_74 : Cond.methodLink RX5 74 yX1_begin ∈ lw_tbl := List.mem_of_getElem? (i := 728) (by decide +kernel)
theorem mL_X5_78 : Cond.methodLink RX5 78 yX5_addQuarters ∈ lw_tbl := List.mem_of_getElem? (i := 729) (by decide +kernel)
theorem mI_X5_addQuarters : Cond.instanceMethod yX5_addQuarters ∈ lw_tbl := List.mem_of_getElem? (i := 730) (by decide +kernel)
theorem mV_X5_addQuarters : Cond.selects RX5 yX5_addQuarters yX5_addQuarters ∈ lw_tbl := List.mem_of_getElem? (i := 731) (by decide +kernel)
theorem mC_X5_addQuarters : Cond.code yX5_addQuarters cX5_addQuarters 5 none ∈ lw_tbl := List.mem_of_getElem? (i := 732) (by decide +kernel)
theorem mL_X5_100 : Cond.methodLink RX5 100 yX1_stand ∈ lw_tbl := List.mem_of_getElem? (i := 733) (by decide +kernel)
theorem mI_X1_stand : Cond.instanceMethod yX1_stand ∈ lw_tbl := List.mem_of_getElem? (i := 734) (by decide +kernel)
theorem mV_X1_stand : Cond.selects RX1 yX1_stand yX1_stand ∈ lw_tbl := List.mem_of_getElem? (i := 735) (by decide +kernel)
theorem mC_X1_stand : Cond.code yX1_stand cX1_stand 2 none ∈ lw_tbl := List.mem_of_getElem? (i := 736) (by decide +kernel)
theorem mL_X5_103 : Cond.methodLink RX5 103 yX1_add ∈ lw_tbl := List.mem_of_getElem? (i := 737) (by decide +kernel)
theorem mL_X5_82 : Cond.methodLink RX5 82 yX1_isDone ∈ lw_tbl := List.mem_of_getElem? (i := 738) (by decide +kernel)
theorem mL_X5_64 : Cond.methodLink RX5 64 yJ9_max_7cf53 ∈ lw_tbl := List.mem_of_getElem? (i := 739) (by decide +kernel)
theorem mL_X5_53 : Cond.methodLink RX5 53 yX5_search ∈ lw_tbl := List.mem_of_getElem? (i := 740) (by decide +kernel)
theorem mI_X5_search : Cond.instanceMethod yX5_search ∈ lw_tbl := List.mem_of_getElem? (i := 741) (by decide +kernel)
theorem mV_X5_search : Cond.selects RX5 yX5_search yX5_search ∈ lw_tbl := List.mem_of_getElem? (i := 742) (by decide +kernel)
theorem mC_X5_search : Cond.code yX5_search cX5_search 10 none ∈ lw_tbl := List.mem_of_getElem? (i := 743) (by decide +kernel)
theorem mL_X5_108 : Cond.methodLink RX5 108 yX5_worthOf ∈ lw_tbl := List.mem_of_getElem? (i := 744) (by decide +kernel)
theorem mI_X5_worthOf : Cond.instanceMethod yX5_worthOf ∈ lw_tbl := List.mem_of_getElem? (i := 745) (by decide +kernel)
theorem mV_X5_worthOf : Cond.selects RX5 yX5_worthOf yX5_worthOf ∈ lw_tbl := List.mem_of_getElem? (i := 746) (by decide +kernel)
theorem mC_X5_worthOf : Cond.code yX5_worthOf cX5_worthOf 4 (some .int) ∈ lw_tbl := List.mem_of_getElem? (i := 747) (by decide +kernel)
theorem mL_X5_112 : Cond.methodLink RX5 112 yX5_mix ∈ lw_tbl := List.mem_of_getElem? (i := 748) (by decide +kernel)
theorem mS_X5_mix : Cond.static yX5_mix ∈ lw_tbl := List.mem_of_getElem? (i := 749) (by decide +kernel)
theorem mC_X5_mix : Cond.code yX5_mix cX5_mix 3 (some .int) ∈ lw_tbl := List.mem_of_getElem? (i := 750) (by decide +kernel)
theorem mL_L_93 : Cond.methodLink RL 93 yX9_quarters ∈ lw_tbl := List.mem_of_getElem? (i := 751) (by decide +kernel)
theorem mI_X9_quarters : Cond.instanceMethod yX9_quarters ∈ lw_tbl := List.mem_of_getElem? (i := 752) (by decide +kernel)
theorem mV_X9_quarters : Cond.selects RX9 yX9_quarters yX9_quarters ∈ lw_tbl := List.mem_of_getElem? (i := 753) (by decide +kernel)
theorem mC_X9_quarters : Cond.code yX9_quarters cX9_quarters 3 (some .int) ∈ lw_tbl := List.mem_of_getElem? (i := 754) (by decide +kernel)
theorem mL_X9_235 : Cond.methodLink RX9 235 yX5_quartersAt ∈ lw_tbl := List.mem_of_getElem? (i := 755) (by decide +kernel)
theorem mI_X5_quartersAt : Cond.instanceMethod yX5_quartersAt ∈ lw_tbl := List.mem_of_getElem? (i := 756) (by decide +kernel)
theorem mV_X5_quartersAt : Cond.selects RX5 yX5_quartersAt yX5_quartersAt ∈ lw_tbl := List.mem_of_getElem? (i := 757) (by decide +kernel)
theorem mC_X5_quartersAt : Cond.code yX5_quartersAt cX5_quartersAt 3 (some .int) ∈ lw_tbl := List.mem_of_getElem? (i := 758) (by decide +kernel)
theorem mL_L_97 : Cond.methodLink RL 97 yX9_must ∈ lw_tbl := List.mem_of_getElem? (i := 759) (by decide +kernel)
theorem mI_X9_must : Cond.instanceMethod yX9_must ∈ lw_tbl := List.mem_of_getElem? (i := 760) (by decide +kernel)
theorem mV_X9_must : Cond.selects RX9 yX9_must yX9_must ∈ lw_tbl := List.mem_of_getElem? (i := 761) (by decide +kernel)
theorem mC_X9_must : Cond.code yX9_must cX9_must 1 (some .int) ∈ lw_tbl := List.mem_of_getElem? (i := 762) (by decide +kernel)
theorem mL_X9_238 : Cond.methodLink RX9 238 yX0_fewestForWholes ∈ lw_tbl := List.mem_of_getElem? (i := 763) (by decide +kernel)
theorem mI_X0_fewestForWholes : Cond.instanceMethod yX0_fewestForWholes ∈ lw_tbl := List.mem_of_getElem? (i := 764) (by decide +kernel)
theorem mV_X0_fewestForWholes : Cond.selects RX0 yX0_fewestForWholes yX0_fewestForWholes ∈ lw_tbl := List.mem_of_getElem? (i := 765) (by decide +kernel)
theorem mC_X0_fewestForWholes : Cond.code yX0_fewestForWholes cX0_fewestForWholes 5 (some .int) ∈ lw_tbl := List.mem_of_getElem? (i := 766) (by decide +kernel)
theorem mL_X0_43 : Cond.methodLink RX0 43 yX0_fillEnough ∈ lw_tbl := List.mem_of_getElem? (i := 767) (by decide +kernel)
theorem mI_X0_fillEnough : Cond.instanceMethod yX0_fillEnough ∈ lw_tbl := List.mem_of_getElem? (i := 768) (by decide +kernel)
theorem mV_X0_fillEnough : Cond.selects RX0 yX0_fillEnough yX0_fillEnough ∈ lw_tbl := List.mem_of_getElem? (i := 769) (by decide +kernel)
theorem mC_X0_fillEnough : Cond.code yX0_fillEnough cX0_fillEnough 5 none ∈ lw_tbl := List.mem_of_getElem? (i := 770) (by decide +kernel)
theorem mL_X0_57 : Cond.methodLink RX0 57 yX1_begin ∈ lw_tbl := List.mem_of_getElem? (i := 771) (by decide +kernel)
theorem mL_X0_65 : Cond.methodLink RX0 65 yX1_add ∈ lw_tbl := List.mem_of_getElem? (i := 772) (by decide +kernel)
theorem mL_X0_69 : Cond.methodLink RX0 69 yX1_isDone ∈ lw_tbl := List.mem_of_getElem? (i := 773) (by decide +kernel)
theorem mL_X0_47 : Cond.methodLink RX0 47 yX0_share ∈ lw_tbl := List.mem_of_getElem? (i := 774) (by decide +kernel)
theorem mI_X0_share : Cond.instanceMethod yX0_share ∈ lw_tbl := List.mem_of_getElem? (i := 775) (by decide +kernel)
theorem mV_X0_share : Cond.selects RX0 yX0_share yX0_share ∈ lw_tbl := List.mem_of_getElem? (i := 776) (by decide +kernel)
theorem mC_X0_share : Cond.code yX0_share cX0_share 5 none ∈ lw_tbl := List.mem_of_getElem? (i := 777) (by decide +kernel)
theorem mL_X0_73 : Cond.methodLink RX0 73 yJ9_min_7cf53 ∈ lw_tbl := List.mem_of_getElem? (i := 778) (by decide +kernel)
theorem mS_J9_min_7cf53 : Cond.static yJ9_min_7cf53 ∈ lw_tbl := List.mem_of_getElem? (i := 779) (by decide +kernel)
theorem mC_J9_min_7cf53 : Cond.code yJ9_min_7cf53 cJ9_min_7cf53 2 (some .int) ∈ lw_tbl := List.mem_of_getElem? (i := 780) (by decide +kernel)
theorem mL_X0_51 : Cond.methodLink RX0 51 yJ6_bitCount_0f7a4 ∈ lw_tbl := List.mem_of_getElem? (i := 781) (by decide +kernel)
theorem mL_L_101 : Cond.methodLink RL 101 yX9_with ∈ lw_tbl := List.mem_of_getElem? (i := 782) (by decide +kernel)
theorem mI_X9_with : Cond.instanceMethod yX9_with ∈ lw_tbl := List.mem_of_getElem? (i := 783) (by decide +kernel)
theorem mV_X9_with : Cond.selects RX9 yX9_with yX9_with ∈ lw_tbl := List.mem_of_getElem? (i := 784) (by decide +kernel)
theorem mC_X9_with : Cond.code yX9_with cX9_with 2 (some .int) ∈ lw_tbl := List.mem_of_getElem? (i := 785) (by decide +kernel)
theorem mL_X9_241 : Cond.methodLink RX9 241 yX0_bestTwo ∈ lw_tbl := List.mem_of_getElem? (i := 786) (by decide +kernel)
theorem mI_X0_bestTwo : Cond.instanceMethod yX0_bestTwo ∈ lw_tbl := List.mem_of_getElem? (i := 787) (by decide +kernel)
theorem mV_X0_bestTwo : Cond.selects RX0 yX0_bestTwo yX0_bestTwo ∈ lw_tbl := List.mem_of_getElem? (i := 788) (by decide +kernel)
theorem mC_X0_bestTwo : Cond.code yX0_bestTwo cX0_bestTwo 8 (some .int) ∈ lw_tbl := List.mem_of_getElem? (i := 789) (by decide +kernel)
theorem mL_X0_79 : Cond.methodLink RX0 79 yX1_weigh ∈ lw_tbl := List.mem_of_getElem? (i := 790) (by decide +kernel)
theorem mL_L_105 : Cond.methodLink RL 105 yX9_thin ∈ lw_tbl := List.mem_of_getElem? (i := 791) (by decide +kernel)
theorem mI_X9_thin : Cond.instanceMethod yX9_thin ∈ lw_tbl := List.mem_of_getElem? (i := 792) (by decide +kernel)
theorem mV_X9_thin : Cond.selects RX9 yX9_thin yX9_thin ∈ lw_tbl := List.mem_of_getElem? (i := 793) (by decide +kernel)
theorem mC_X9_thin : Cond.code yX9_thin cX9_thin 3 (some .int) ∈ lw_tbl := List.mem_of_getElem? (i := 794) (by decide +kernel)
theorem mL_L_109 : Cond.methodLink RL 109 yX9_few ∈ lw_tbl := List.mem_of_getElem? (i := 795) (by decide +kernel)
theorem mI_X9_few : Cond.instanceMethod yX9_few ∈ lw_tbl := List.mem_of_getElem? (i := 796) (by decide +kernel)
theorem mV_X9_few : Cond.selects RX9 yX9_few yX9_few ∈ lw_tbl := List.mem_of_getElem? (i := 797) (by decide +kernel)
theorem mC_X9_few : Cond.code yX9_few cX9_few 6 (some .int) ∈ lw_tbl := List.mem_of_getElem? (i := 798) (by decide +kernel)
theorem mL_X9_253 : Cond.methodLink RX9 253 yX1_isDone ∈ lw_tbl := List.mem_of_getElem? (i := 799) (by decide +kernel)
theorem mL_L_113 : Cond.methodLink RL 113 yX9_chance ∈ lw_tbl := List.mem_of_getElem? (i := 800) (by decide +kernel)
theorem mI_X9_chance : Cond.instanceMethod yX9_chance ∈ lw_tbl := List.mem_of_getElem? (i := 801) (by decide +kernel)
theorem mV_X9_chance : Cond.selects RX9 yX9_chance yX9_chance ∈ lw_tbl := List.mem_of_getElem? (i := 802) (by decide +kernel)
theorem mC_X9_chance : Cond.code yX9_chance cX9_chance 6 (some .long) ∈ lw_tbl := List.mem_of_getElem? (i := 803) (by decide +kernel)
theorem mL_X9_256 : Cond.methodLink RX9 256 yX9_refusalOfChance ∈ lw_tbl := List.mem_of_getElem? (i := 804) (by decide +kernel)
theorem mI_X9_refusalOfChance : Cond.instanceMethod yX9_refusalOfChance ∈ lw_tbl := List.mem_of_getElem? (i := 806) (by decide +kernel)
theorem mC_X9_refusalOfChance : Cond.code yX9_refusalOfChance cX9_refusalOfChance 5 (some .int) ∈ lw_tbl := List.mem_of_getElem? (i := 807) (by decide +kernel)
theorem mL_X9_300 : Cond.methodLink RX9 300 yX7_partsAway ∈ lw_tbl := List.mem_of_getElem? (i := 808) (by decide +kernel)
theorem mI_X7_partsAway : Cond.instanceMethod yX7_partsAway ∈ lw_tbl := List.mem_of_getElem? (i := 809) (by decide +kernel)
theorem mV_X7_partsAway : Cond.selects RX7 yX7_partsAway yX7_partsAway ∈ lw_tbl := List.mem_of_getElem? (i := 810) (by decide +kernel)
theorem mC_X7_partsAway : Cond.code yX7_partsAway cX7_partsAway 4 (some .int) ∈ lw_tbl := List.mem_of_getElem? (i := 811) (by decide +kernel)
theorem mQ_X9_260 : Cond.constantLong RX9 260 4000000000000000000 ∈ lw_tbl := List.mem_of_getElem? (i := 812) (by decide +kernel)
theorem mL_X9_262 : Cond.methodLink RX9 262 yX9_meanLeft ∈ lw_tbl := List.mem_of_getElem? (i := 813) (by decide +kernel)
theorem mI_X9_meanLeft : Cond.instanceMethod yX9_meanLeft ∈ lw_tbl := List.mem_of_getElem? (i := 815) (by decide +kernel)
theorem mC_X9_meanLeft : Cond.code yX9_meanLeft cX9_meanLeft 12 (some .long) ∈ lw_tbl := List.mem_of_getElem? (i := 816) (by decide +kernel)
theorem mL_X9_303 : Cond.methodLink RX9 303 yX7_twelfthsAway ∈ lw_tbl := List.mem_of_getElem? (i := 817) (by decide +kernel)
theorem mI_X7_twelfthsAway : Cond.instanceMethod yX7_twelfthsAway ∈ lw_tbl := List.mem_of_getElem? (i := 818) (by decide +kernel)
theorem mV_X7_twelfthsAway : Cond.selects RX7 yX7_twelfthsAway yX7_twelfthsAway ∈ lw_tbl := List.mem_of_getElem? (i := 819) (by decide +kernel)
theorem mC_X7_twelfthsAway : Cond.code yX7_twelfthsAway cX7_twelfthsAway 4 (some .int) ∈ lw_tbl := List.mem_of_getElem? (i := 820) (by decide +kernel)
theorem mQ_X9_306 : Cond.constantLong RX9 306 100 ∈ lw_tbl := List.mem_of_getElem? (i := 821) (by decide +kernel)
theorem mL_X9_308 : Cond.methodLink RX9 308 yX9_commonDivisor ∈ lw_tbl := List.mem_of_getElem? (i := 822) (by decide +kernel)
theorem mL_X9_312 : Cond.methodLink RX9 312 yJ9_max_f86c9 ∈ lw_tbl := List.mem_of_getElem? (i := 823) (by decide +kernel)
theorem mL_X9_266 : Cond.methodLink RX9 266 yX9_allLeft ∈ lw_tbl := List.mem_of_getElem? (i := 824) (by decide +kernel)
theorem mI_X9_allLeft : Cond.instanceMethod yX9_allLeft ∈ lw_tbl := List.mem_of_getElem? (i := 826) (by decide +kernel)
theorem mC_X9_allLeft : Cond.code yX9_allLeft cX9_allLeft 12 (some .long) ∈ lw_tbl := List.mem_of_getElem? (i := 827) (by decide +kernel)
theorem mL_L_118 : Cond.methodLink RL 118 yX9_together ∈ lw_tbl := List.mem_of_getElem? (i := 828) (by decide +kernel)
theorem mI_X9_together : Cond.instanceMethod yX9_together ∈ lw_tbl := List.mem_of_getElem? (i := 829) (by decide +kernel)
theorem mV_X9_together : Cond.selects RX9 yX9_together yX9_together ∈ lw_tbl := List.mem_of_getElem? (i := 830) (by decide +kernel)
theorem mC_X9_together : Cond.code yX9_together cX9_together 8 (some .int) ∈ lw_tbl := List.mem_of_getElem? (i := 831) (by decide +kernel)
theorem mL_X9_269 : Cond.methodLink RX9 269 yX9_refusalOfParts ∈ lw_tbl := List.mem_of_getElem? (i := 832) (by decide +kernel)
theorem mI_X9_refusalOfParts : Cond.instanceMethod yX9_refusalOfParts ∈ lw_tbl := List.mem_of_getElem? (i := 834) (by decide +kernel)
theorem mC_X9_refusalOfParts : Cond.code yX9_refusalOfParts cX9_refusalOfParts 3 (some .int) ∈ lw_tbl := List.mem_of_getElem? (i := 835) (by decide +kernel)
theorem mL_X9_275 : Cond.methodLink RX9 275 yX7_minuteAt ∈ lw_tbl := List.mem_of_getElem? (i := 836) (by decide +kernel)
theorem mI_X7_minuteAt : Cond.instanceMethod yX7_minuteAt ∈ lw_tbl := List.mem_of_getElem? (i := 837) (by decide +kernel)
theorem mV_X7_minuteAt : Cond.selects RX7 yX7_minuteAt yX7_minuteAt ∈ lw_tbl := List.mem_of_getElem? (i := 838) (by decide +kernel)
theorem mC_X7_minuteAt : Cond.code yX7_minuteAt cX7_minuteAt 6 (some .int) ∈ lw_tbl := List.mem_of_getElem? (i := 839) (by decide +kernel)
theorem mL_L_122 : Cond.methodLink RL 122 yX9_known ∈ lw_tbl := List.mem_of_getElem? (i := 840) (by decide +kernel)
theorem mI_X9_known : Cond.instanceMethod yX9_known ∈ lw_tbl := List.mem_of_getElem? (i := 841) (by decide +kernel)
theorem mV_X9_known : Cond.selects RX9 yX9_known yX9_known ∈ lw_tbl := List.mem_of_getElem? (i := 842) (by decide +kernel)
theorem mC_X9_known : Cond.code yX9_known cX9_known 7 (some .int) ∈ lw_tbl := List.mem_of_getElem? (i := 843) (by decide +kernel)
theorem mL_X9_278 : Cond.methodLink RX9 278 yX7_isPartOf ∈ lw_tbl := List.mem_of_getElem? (i := 844) (by decide +kernel)
theorem mL_L_126 : Cond.methodLink RL 126 yX9_row ∈ lw_tbl := List.mem_of_getElem? (i := 845) (by decide +kernel)
theorem mI_X9_row : Cond.instanceMethod yX9_row ∈ lw_tbl := List.mem_of_getElem? (i := 846) (by decide +kernel)
theorem mV_X9_row : Cond.selects RX9 yX9_row yX9_row ∈ lw_tbl := List.mem_of_getElem? (i := 847) (by decide +kernel)
theorem mC_X9_row : Cond.code yX9_row cX9_row 2 (some .int) ∈ lw_tbl := List.mem_of_getElem? (i := 848) (by decide +kernel)
theorem mL_L_130 : Cond.methodLink RL 130 yX9_judge ∈ lw_tbl := List.mem_of_getElem? (i := 849) (by decide +kernel)
theorem mI_X9_judge : Cond.instanceMethod yX9_judge ∈ lw_tbl := List.mem_of_getElem? (i := 850) (by decide +kernel)
theorem mV_X9_judge : Cond.selects RX9 yX9_judge yX9_judge ∈ lw_tbl := List.mem_of_getElem? (i := 851) (by decide +kernel)
theorem mC_X9_judge : Cond.code yX9_judge cX9_judge 3 (some .int) ∈ lw_tbl := List.mem_of_getElem? (i := 852) (by decide +kernel)
theorem mL_X9_282 : Cond.methodLink RX9 282 yX9_judged ∈ lw_tbl := List.mem_of_getElem? (i := 853) (by decide +kernel)
theorem mI_X9_judged : Cond.instanceMethod yX9_judged ∈ lw_tbl := List.mem_of_getElem? (i := 855) (by decide +kernel)
theorem mC_X9_judged : Cond.code yX9_judged cX9_judged 4 (some .int) ∈ lw_tbl := List.mem_of_getElem? (i := 856) (by decide +kernel)
theorem mL_L_134 : Cond.methodLink RL 134 yX9_image ∈ lw_tbl := List.mem_of_getElem? (i := 857) (by decide +kernel)
theorem mI_X9_image : Cond.instanceMethod yX9_image ∈ lw_tbl := List.mem_of_getElem? (i := 858) (by decide +kernel)
theorem mV_X9_image : Cond.selects RX9 yX9_image yX9_image ∈ lw_tbl := List.mem_of_getElem? (i := 859) (by decide +kernel)
theorem mC_X9_image : Cond.code yX9_image cX9_image 1 (some .int) ∈ lw_tbl := List.mem_of_getElem? (i := 860) (by decide +kernel)
theorem mL_X9_285 : Cond.methodLink RX9 285 yX7_partCount ∈ lw_tbl := List.mem_of_getElem? (i := 861) (by decide +kernel)
theorem mI_X7_partCount : Cond.instanceMethod yX7_partCount ∈ lw_tbl := List.mem_of_getElem? (i := 862) (by decide +kernel)
theorem mV_X7_partCount : Cond.selects RX7 yX7_partCount yX7_partCount ∈ lw_tbl := List.mem_of_getElem? (i := 863) (by decide +kernel)
theorem mC_X7_partCount : Cond.code yX7_partCount cX7_partCount 3 (some .int) ∈ lw_tbl := List.mem_of_getElem? (i := 864) (by decide +kernel)
theorem mL_L_138 : Cond.methodLink RL 138 yX9_on ∈ lw_tbl := List.mem_of_getElem? (i := 865) (by decide +kernel)
theorem mI_X9_on : Cond.instanceMethod yX9_on ∈ lw_tbl := List.mem_of_getElem? (i := 866) (by decide +kernel)
theorem mV_X9_on : Cond.selects RX9 yX9_on yX9_on ∈ lw_tbl := List.mem_of_getElem? (i := 867) (by decide +kernel)
theorem mC_X9_on : Cond.code yX9_on cX9_on 1 (some .int) ∈ lw_tbl := List.mem_of_getElem? (i := 868) (by decide +kernel)
theorem mL_L_142 : Cond.methodLink RL 142 yX9_count ∈ lw_tbl := List.mem_of_getElem? (i := 869) (by decide +kernel)
theorem mI_X9_count : Cond.instanceMethod yX9_count ∈ lw_tbl := List.mem_of_getElem? (i := 870) (by decide +kernel)
theorem mV_X9_count : Cond.selects RX9 yX9_count yX9_count ∈ lw_tbl := List.mem_of_getElem? (i := 871) (by decide +kernel)
theorem mC_X9_count : Cond.code yX9_count cX9_count 2 (some .int) ∈ lw_tbl := List.mem_of_getElem? (i := 872) (by decide +kernel)
theorem mL_X9_294 : Cond.methodLink RX9 294 yX9_worksDone ∈ lw_tbl := List.mem_of_getElem? (i := 873) (by decide +kernel)
theorem mI_X9_worksDone : Cond.instanceMethod yX9_worksDone ∈ lw_tbl := List.mem_of_getElem? (i := 875) (by decide +kernel)
theorem mC_X9_worksDone : Cond.code yX9_worksDone cX9_worksDone 3 (some .int) ∈ lw_tbl := List.mem_of_getElem? (i := 876) (by decide +kernel)
theorem mK_L_10 : Cond.classLink RL 10 RX10 ∈ lw_tbl := List.mem_of_getElem? (i := 877) (by decide +kernel)
theorem mM_X10 : Cond.instantiable RX10 20 ∈ lw_tbl := List.mem_of_getElem? (i := 878) (by decide +kernel)
theorem mL_L_12 : Cond.methodLink RL 12 yX10_init ∈ lw_tbl := List.mem_of_getElem? (i := 879) (by decide +kernel)
theorem mI_X10_init : Cond.instanceMethod yX10_init ∈ lw_tbl := List.mem_of_getElem? (i := 880) (by decide +kernel)
theorem mC_X10_init : Cond.code yX10_init cX10_init 1 none ∈ lw_tbl := List.mem_of_getElem? (i := 881) (by decide +kernel)
theorem mL_X10_1 : Cond.methodLink RX10 1 ⟨"java/lang/Object", "<init>", "()V"⟩ ∈ lw_tbl := List.mem_of_getElem? (i := 882) (by decide +kernel)
theorem mF_X10_7 : Cond.fieldLink RX10 7 "HalfHereModel" "refusals" "[I" ∈ lw_tbl := List.mem_of_getElem? (i := 883) (by decide +kernel)
theorem mF_X10_13 : Cond.fieldLink RX10 13 "HalfHereModel" "s" "[I" ∈ lw_tbl := List.mem_of_getElem? (i := 884) (by decide +kernel)
theorem mF_X10_16 : Cond.fieldLink RX10 16 "HalfHereModel" "image" "[I" ∈ lw_tbl := List.mem_of_getElem? (i := 885) (by decide +kernel)
theorem mF_X10_19 : Cond.fieldLink RX10 19 "HalfHereModel" "read" "[I" ∈ lw_tbl := List.mem_of_getElem? (i := 886) (by decide +kernel)
theorem mF_X10_238 : Cond.fieldLink RX10 238 "HalfHereModel" "isImage" "Z" ∈ lw_tbl := List.mem_of_getElem? (i := 887) (by decide +kernel)
theorem mF_X10_22 : Cond.fieldLink RX10 22 "HalfHereModel" "tape" "[I" ∈ lw_tbl := List.mem_of_getElem? (i := 888) (by decide +kernel)
theorem mF_X10_25 : Cond.fieldLink RX10 25 "HalfHereModel" "told" "[I" ∈ lw_tbl := List.mem_of_getElem? (i := 889) (by decide +kernel)
theorem mF_X10_58 : Cond.fieldLink RX10 58 "HalfHereModel" "taped" "I" ∈ lw_tbl := List.mem_of_getElem? (i := 890) (by decide +kernel)
theorem mF_X10_66 : Cond.fieldLink RX10 66 "HalfHereModel" "at" "I" ∈ lw_tbl := List.mem_of_getElem? (i := 891) (by decide +kernel)
theorem mF_X10_28 : Cond.fieldLink RX10 28 "HalfHereModel" "far" "[I" ∈ lw_tbl := List.mem_of_getElem? (i := 892) (by decide +kernel)
theorem mF_X10_31 : Cond.fieldLink RX10 31 "HalfHereModel" "sum" "[I" ∈ lw_tbl := List.mem_of_getElem? (i := 893) (by decide +kernel)
theorem mF_X10_144 : Cond.fieldLink RX10 144 "HalfHereModel" "there" "I" ∈ lw_tbl := List.mem_of_getElem? (i := 894) (by decide +kernel)
theorem mF_X10_165 : Cond.fieldLink RX10 165 "HalfHereModel" "above" "I" ∈ lw_tbl := List.mem_of_getElem? (i := 895) (by decide +kernel)
theorem mF_X10_168 : Cond.fieldLink RX10 168 "HalfHereModel" "below" "I" ∈ lw_tbl := List.mem_of_getElem? (i := 896) (by decide +kernel)
theorem mF_X10_34 : Cond.fieldLink RX10 34 "HalfHereModel" "share" "[I" ∈ lw_tbl := List.mem_of_getElem? (i := 897) (by decide +kernel)
theorem mF_X10_37 : Cond.fieldLink RX10 37 "HalfHereModel" "ahead" "[I" ∈ lw_tbl := List.mem_of_getElem? (i := 898) (by decide +kernel)
theorem mF_X10_40 : Cond.fieldLink RX10 40 "HalfHereModel" "bestShare" "[I" ∈ lw_tbl := List.mem_of_getElem? (i := 899) (by decide +kernel)
theorem mF_X10_212 : Cond.fieldLink RX10 212 "HalfHereModel" "bestWorth" "I" ∈ lw_tbl := List.mem_of_getElem? (i := 900) (by decide +kernel)
theorem mF_X10_43 : Cond.fieldLink RX10 43 "HalfHereModel" "row" "[I" ∈ lw_tbl := List.mem_of_getElem? (i := 901) (by decide +kernel)
theorem mF_X10_235 : Cond.fieldLink RX10 235 "HalfHereModel" "rowed" "I" ∈ lw_tbl := List.mem_of_getElem? (i := 902) (by decide +kernel)
theorem mL_L_17 : Cond.methodLink RL 17 yX10_feed ∈ lw_tbl := List.mem_of_getElem? (i := 944) (by decide +kernel)
theorem mI_X10_feed : Cond.instanceMethod yX10_feed ∈ lw_tbl := List.mem_of_getElem? (i := 945) (by decide +kernel)
theorem mV_X10_feed : Cond.selects RX10 yX10_feed yX10_feed ∈ lw_tbl := List.mem_of_getElem? (i := 946) (by decide +kernel)
theorem mC_X10_feed : Cond.code yX10_feed cX10_feed 3 (some .int) ∈ lw_tbl := List.mem_of_getElem? (i := 947) (by decide +kernel)
theorem mL_X10_54 : Cond.methodLink RX10 54 yX10_within ∈ lw_tbl := List.mem_of_getElem? (i := 948) (by decide +kernel)
theorem mS_X10_within : Cond.static yX10_within ∈ lw_tbl := List.mem_of_getElem? (i := 949) (by decide +kernel)
theorem mC_X10_within : Cond.code yX10_within cX10_within 3 (some .int) ∈ lw_tbl := List.mem_of_getElem? (i := 950) (by decide +kernel)
theorem mL_X10_62 : Cond.methodLink RX10 62 yX10_refuse ∈ lw_tbl := List.mem_of_getElem? (i := 951) (by decide +kernel)
theorem mI_X10_refuse : Cond.instanceMethod yX10_refuse ∈ lw_tbl := List.mem_of_getElem? (i := 953) (by decide +kernel)
theorem mC_X10_refuse : Cond.code yX10_refuse cX10_refuse 2 (some .int) ∈ lw_tbl := List.mem_of_getElem? (i := 954) (by decide +kernel)
theorem mL_L_22 : Cond.methodLink RL 22 yX10_village ∈ lw_tbl := List.mem_of_getElem? (i := 955) (by decide +kernel)
theorem mI_X10_village : Cond.instanceMethod yX10_village ∈ lw_tbl := List.mem_of_getElem? (i := 956) (by decide +kernel)
theorem mV_X10_village : Cond.selects RX10 yX10_village yX10_village ∈ lw_tbl := List.mem_of_getElem? (i := 957) (by decide +kernel)
theorem mC_X10_village : Cond.code yX10_village cX10_village 2 (some .int) ∈ lw_tbl := List.mem_of_getElem? (i := 958) (by decide +kernel)
theorem mL_X10_100 : Cond.methodLink RX10 100 yX10_reads ∈ lw_tbl := List.mem_of_getElem? (i := 959) (by decide +kernel)
theorem mI_X10_reads : Cond.instanceMethod yX10_reads ∈ lw_tbl := List.mem_of_getElem? (i := 961) (by decide +kernel)
theorem mC_X10_reads : Cond.code yX10_reads cX10_reads 5 (some .int) ∈ lw_tbl := List.mem_of_getElem? (i := 962) (by decide +kernel)
theorem mL_X10_94 : Cond.methodLink RX10 94 yX10_readsStatement ∈ lw_tbl := List.mem_of_getElem? (i := 963) (by decide +kernel)
theorem mI_X10_readsStatement : Cond.instanceMethod yX10_readsStatement ∈ lw_tbl := List.mem_of_getElem? (i := 965) (by decide +kernel)
theorem mC_X10_readsStatement : Cond.code yX10_readsStatement cX10_readsStatement 3 (some .boolean) ∈ lw_tbl := List.mem_of_getElem? (i := 966) (by decide +kernel)
theorem mL_X10_69 : Cond.methodLink RX10 69 yX10_sign ∈ lw_tbl := List.mem_of_getElem? (i := 967) (by decide +kernel)
theorem mI_X10_sign : Cond.instanceMethod yX10_sign ∈ lw_tbl := List.mem_of_getElem? (i := 969) (by decide +kernel)
theorem mC_X10_sign : Cond.code yX10_sign cX10_sign 1 (some .int) ∈ lw_tbl := List.mem_of_getElem? (i := 970) (by decide +kernel)
theorem mL_X10_73 : Cond.methodLink RX10 73 yX10_readsNumber ∈ lw_tbl := List.mem_of_getElem? (i := 971) (by decide +kernel)
theorem mI_X10_readsNumber : Cond.instanceMethod yX10_readsNumber ∈ lw_tbl := List.mem_of_getElem? (i := 973) (by decide +kernel)
theorem mC_X10_readsNumber : Cond.code yX10_readsNumber cX10_readsNumber 4 (some .boolean) ∈ lw_tbl := List.mem_of_getElem? (i := 974) (by decide +kernel)
theorem mL_X10_76 : Cond.methodLink RX10 76 yX10_takes ∈ lw_tbl := List.mem_of_getElem? (i := 975) (by decide +kernel)
theorem mI_X10_takes : Cond.instanceMethod yX10_takes ∈ lw_tbl := List.mem_of_getElem? (i := 977) (by decide +kernel)
theorem mC_X10_takes : Cond.code yX10_takes cX10_takes 2 (some .boolean) ∈ lw_tbl := List.mem_of_getElem? (i := 978) (by decide +kernel)
theorem mL_X10_80 : Cond.methodLink RX10 80 yX10_kindOf ∈ lw_tbl := List.mem_of_getElem? (i := 979) (by decide +kernel)
theorem mS_X10_kindOf : Cond.static yX10_kindOf ∈ lw_tbl := List.mem_of_getElem? (i := 980) (by decide +kernel)
theorem mC_X10_kindOf : Cond.code yX10_kindOf cX10_kindOf 1 (some .int) ∈ lw_tbl := List.mem_of_getElem? (i := 981) (by decide +kernel)
theorem mL_X10_97 : Cond.methodLink RX10 97 yX10_comes ∈ lw_tbl := List.mem_of_getElem? (i := 982) (by decide +kernel)
theorem mI_X10_comes : Cond.instanceMethod yX10_comes ∈ lw_tbl := List.mem_of_getElem? (i := 984) (by decide +kernel)
theorem mC_X10_comes : Cond.code yX10_comes cX10_comes 6 (some .boolean) ∈ lw_tbl := List.mem_of_getElem? (i := 985) (by decide +kernel)
theorem mL_X10_87 : Cond.methodLink RX10 87 yX10_toldOf ∈ lw_tbl := List.mem_of_getElem? (i := 986) (by decide +kernel)
theorem mI_X10_toldOf : Cond.instanceMethod yX10_toldOf ∈ lw_tbl := List.mem_of_getElem? (i := 988) (by decide +kernel)
theorem mC_X10_toldOf : Cond.code yX10_toldOf cX10_toldOf 4 (some .int) ∈ lw_tbl := List.mem_of_getElem? (i := 989) (by decide +kernel)
theorem mL_X10_90 : Cond.methodLink RX10 90 yX10_comesPerson ∈ lw_tbl := List.mem_of_getElem? (i := 990) (by decide +kernel)
theorem mI_X10_comesPerson : Cond.instanceMethod yX10_comesPerson ∈ lw_tbl := List.mem_of_getElem? (i := 992) (by decide +kernel)
theorem mC_X10_comesPerson : Cond.code yX10_comesPerson cX10_comesPerson 5 (some .boolean) ∈ lw_tbl := List.mem_of_getElem? (i := 993) (by decide +kernel)
theorem mL_X10_83 : Cond.methodLink RX10 83 yX10_free ∈ lw_tbl := List.mem_of_getElem? (i := 994) (by decide +kernel)
theorem mS_X10_free : Cond.static yX10_free ∈ lw_tbl := List.mem_of_getElem? (i := 995) (by decide +kernel)
theorem mC_X10_free : Cond.code yX10_free cX10_free 2 (some .int) ∈ lw_tbl := List.mem_of_getElem? (i := 996) (by decide +kernel)
theorem mL_L_27 : Cond.methodLink RL 27 yX10_person ∈ lw_tbl := List.mem_of_getElem? (i := 997) (by decide +kernel)
theorem mI_X10_person : Cond.instanceMethod yX10_person ∈ lw_tbl := List.mem_of_getElem? (i := 998) (by decide +kernel)
theorem mV_X10_person : Cond.selects RX10 yX10_person yX10_person ∈ lw_tbl := List.mem_of_getElem? (i := 999) (by decide +kernel)
theorem mC_X10_person : Cond.code yX10_person cX10_person 3 (some .int) ∈ lw_tbl := List.mem_of_getElem? (i := 1000) (by decide +kernel)
theorem mL_X10_103 : Cond.methodLink RX10 103 yX10_isPerson ∈ lw_tbl := List.mem_of_getElem? (i := 1001) (by decide +kernel)
theorem mI_X10_isPerson : Cond.instanceMethod yX10_isPerson ∈ lw_tbl := List.mem_of_getElem? (i := 1003) (by decide +kernel)
theorem mC_X10_isPerson : Cond.code yX10_isPerson cX10_isPerson 2 (some .boolean) ∈ lw_tbl := List.mem_of_getElem? (i := 1004) (by decide +kernel)
theorem mL_X10_46 : Cond.methodLink RX10 46 yX10_isIn ∈ lw_tbl := List.mem_of_getElem? (i := 1005) (by decide +kernel)
theorem mS_X10_isIn : Cond.static yX10_isIn ∈ lw_tbl := List.mem_of_getElem? (i := 1006) (by decide +kernel)
theorem mC_X10_isIn : Cond.code yX10_isIn cX10_isIn 2 (some .boolean) ∈ lw_tbl := List.mem_of_getElem? (i := 1007) (by decide +kernel)
theorem mL_X10_106 : Cond.methodLink RX10 106 yX10_get ∈ lw_tbl := List.mem_of_getElem? (i := 1008) (by decide +kernel)
theorem mI_X10_get : Cond.instanceMethod yX10_get ∈ lw_tbl := List.mem_of_getElem? (i := 1010) (by decide +kernel)
theorem mC_X10_get : Cond.code yX10_get cX10_get 3 (some .int) ∈ lw_tbl := List.mem_of_getElem? (i := 1011) (by decide +kernel)
theorem mL_X10_109 : Cond.methodLink RX10 109 yX10_leftOf ∈ lw_tbl := List.mem_of_getElem? (i := 1012) (by decide +kernel)
theorem mI_X10_leftOf : Cond.instanceMethod yX10_leftOf ∈ lw_tbl := List.mem_of_getElem? (i := 1014) (by decide +kernel)
theorem mC_X10_leftOf : Cond.code yX10_leftOf cX10_leftOf 4 (some .int) ∈ lw_tbl := List.mem_of_getElem? (i := 1015) (by decide +kernel)
theorem mL_X10_50 : Cond.methodLink RX10 50 yX10_part ∈ lw_tbl := List.mem_of_getElem? (i := 1016) (by decide +kernel)
theorem mI_X10_part : Cond.instanceMethod yX10_part ∈ lw_tbl := List.mem_of_getElem? (i := 1018) (by decide +kernel)
theorem mC_X10_part : Cond.code yX10_part cX10_part 3 (some .int) ∈ lw_tbl := List.mem_of_getElem? (i := 1019) (by decide +kernel)
theorem mL_X10_112 : Cond.methodLink RX10 112 yX10_partsOf ∈ lw_tbl := List.mem_of_getElem? (i := 1020) (by decide +kernel)
theorem mI_X10_partsOf : Cond.instanceMethod yX10_partsOf ∈ lw_tbl := List.mem_of_getElem? (i := 1022) (by decide +kernel)
theorem mC_X10_partsOf : Cond.code yX10_partsOf cX10_partsOf 4 (some .int) ∈ lw_tbl := List.mem_of_getElem? (i := 1023) (by decide +kernel)
theorem mL_L_31 : Cond.methodLink RL 31 yX10_work ∈ lw_tbl := List.mem_of_getElem? (i := 1024) (by decide +kernel)
theorem mI_X10_work : Cond.instanceMethod yX10_work ∈ lw_tbl := List.mem_of_getElem? (i := 1025) (by decide +kernel)
theorem mV_X10_work : Cond.selects RX10 yX10_work yX10_work ∈ lw_tbl := List.mem_of_getElem? (i := 1026) (by decide +kernel)
theorem mC_X10_work : Cond.code yX10_work cX10_work 3 (some .int) ∈ lw_tbl := List.mem_of_getElem? (i := 1027) (by decide +kernel)
theorem mL_X10_115 : Cond.methodLink RX10 115 yX10_isWork ∈ lw_tbl := List.mem_of_getElem? (i := 1028) (by decide +kernel)
theorem mI_X10_isWork : Cond.instanceMethod yX10_isWork ∈ lw_tbl := List.mem_of_getElem? (i := 1030) (by decide +kernel)
theorem mC_X10_isWork : Cond.code yX10_isWork cX10_isWork 2 (some .boolean) ∈ lw_tbl := List.mem_of_getElem? (i := 1031) (by decide +kernel)
theorem mL_X10_118 : Cond.methodLink RX10 118 yX10_of ∈ lw_tbl := List.mem_of_getElem? (i := 1032) (by decide +kernel)
theorem mI_X10_of : Cond.instanceMethod yX10_of ∈ lw_tbl := List.mem_of_getElem? (i := 1034) (by decide +kernel)
theorem mC_X10_of : Cond.code yX10_of cX10_of 3 (some .int) ∈ lw_tbl := List.mem_of_getElem? (i := 1035) (by decide +kernel)
theorem mL_L_35 : Cond.methodLink RL 35 yX10_minutes ∈ lw_tbl := List.mem_of_getElem? (i := 1036) (by decide +kernel)
theorem mI_X10_minutes : Cond.instanceMethod yX10_minutes ∈ lw_tbl := List.mem_of_getElem? (i := 1037) (by decide +kernel)
theorem mV_X10_minutes : Cond.selects RX10 yX10_minutes yX10_minutes ∈ lw_tbl := List.mem_of_getElem? (i := 1038) (by decide +kernel)
theorem mC_X10_minutes : Cond.code yX10_minutes cX10_minutes 3 (some .int) ∈ lw_tbl := List.mem_of_getElem? (i := 1039) (by decide +kernel)
theorem mL_X10_125 : Cond.methodLink RX10 125 yX10_isSpot ∈ lw_tbl := List.mem_of_getElem? (i := 1040) (by decide +kernel)
theorem mI_X10_isSpot : Cond.instanceMethod yX10_isSpot ∈ lw_tbl := List.mem_of_getElem? (i := 1042) (by decide +kernel)
theorem mC_X10_isSpot : Cond.code yX10_isSpot cX10_isSpot 2 (some .boolean) ∈ lw_tbl := List.mem_of_getElem? (i := 1043) (by decide +kernel)
theorem mL_X10_128 : Cond.methodLink RX10 128 yX10_minutesOf ∈ lw_tbl := List.mem_of_getElem? (i := 1044) (by decide +kernel)
theorem mI_X10_minutesOf : Cond.instanceMethod yX10_minutesOf ∈ lw_tbl := List.mem_of_getElem? (i := 1046) (by decide +kernel)
theorem mC_X10_minutesOf : Cond.code yX10_minutesOf cX10_minutesOf 3 (some .int) ∈ lw_tbl := List.mem_of_getElem? (i := 1047) (by decide +kernel)
theorem mL_X10_122 : Cond.methodLink RX10 122 yX10_findsFar ∈ lw_tbl := List.mem_of_getElem? (i := 1048) (by decide +kernel)
theorem mI_X10_findsFar : Cond.instanceMethod yX10_findsFar ∈ lw_tbl := List.mem_of_getElem? (i := 1050) (by decide +kernel)
theorem mC_X10_findsFar : Cond.code yX10_findsFar cX10_findsFar 5 none ∈ lw_tbl := List.mem_of_getElem? (i := 1051) (by decide +kernel)
theorem mQ_X10_121 : Cond.constant RX10 121 1000000 ∈ lw_tbl := List.mem_of_getElem? (i := 1052) (by decide +kernel)
theorem mL_L_39 : Cond.methodLink RL 39 yX10_partOf ∈ lw_tbl := List.mem_of_getElem? (i := 1053) (by decide +kernel)
theorem mI_X10_partOf : Cond.instanceMethod yX10_partOf ∈ lw_tbl := List.mem_of_getElem? (i := 1054) (by decide +kernel)
theorem mV_X10_partOf : Cond.selects RX10 yX10_partOf yX10_partOf ∈ lw_tbl := List.mem_of_getElem? (i := 1055) (by decide +kernel)
theorem mC_X10_partOf : Cond.code yX10_partOf cX10_partOf 3 (some .int) ∈ lw_tbl := List.mem_of_getElem? (i := 1056) (by decide +kernel)
theorem mL_X10_131 : Cond.methodLink RX10 131 yX10_isPart ∈ lw_tbl := List.mem_of_getElem? (i := 1057) (by decide +kernel)
theorem mI_X10_isPart : Cond.instanceMethod yX10_isPart ∈ lw_tbl := List.mem_of_getElem? (i := 1059) (by decide +kernel)
theorem mC_X10_isPart : Cond.code yX10_isPart cX10_isPart 2 (some .boolean) ∈ lw_tbl := List.mem_of_getElem? (i := 1060) (by decide +kernel)
theorem mL_L_43 : Cond.methodLink RL 43 yX10_split ∈ lw_tbl := List.mem_of_getElem? (i := 1061) (by decide +kernel)
theorem mI_X10_split : Cond.instanceMethod yX10_split ∈ lw_tbl := List.mem_of_getElem? (i := 1062) (by decide +kernel)
theorem mV_X10_split : Cond.selects RX10 yX10_split yX10_split ∈ lw_tbl := List.mem_of_getElem? (i := 1063) (by decide +kernel)
theorem mC_X10_split : Cond.code yX10_split cX10_split 6 (some .int) ∈ lw_tbl := List.mem_of_getElem? (i := 1064) (by decide +kernel)
theorem mL_X10_134 : Cond.methodLink RX10 134 yX10_puts ∈ lw_tbl := List.mem_of_getElem? (i := 1065) (by decide +kernel)
theorem mI_X10_puts : Cond.instanceMethod yX10_puts ∈ lw_tbl := List.mem_of_getElem? (i := 1067) (by decide +kernel)
theorem mC_X10_puts : Cond.code yX10_puts cX10_puts 4 none ∈ lw_tbl := List.mem_of_getElem? (i := 1068) (by decide +kernel)
theorem mL_L_47 : Cond.methodLink RL 47 yX10_go ∈ lw_tbl := List.mem_of_getElem? (i := 1069) (by decide +kernel)
theorem mI_X10_go : Cond.instanceMethod yX10_go ∈ lw_tbl := List.mem_of_getElem? (i := 1070) (by decide +kernel)
theorem mV_X10_go : Cond.selects RX10 yX10_go yX10_go ∈ lw_tbl := List.mem_of_getElem? (i := 1071) (by decide +kernel)
theorem mC_X10_go : Cond.code yX10_go cX10_go 4 (some .int) ∈ lw_tbl := List.mem_of_getElem? (i := 1072) (by decide +kernel)
theorem mL_L_51 : Cond.methodLink RL 51 yX10_see ∈ lw_tbl := List.mem_of_getElem? (i := 1073) (by decide +kernel)
theorem mI_X10_see : Cond.instanceMethod yX10_see ∈ lw_tbl := List.mem_of_getElem? (i := 1074) (by decide +kernel)
theorem mV_X10_see : Cond.selects RX10 yX10_see yX10_see ∈ lw_tbl := List.mem_of_getElem? (i := 1075) (by decide +kernel)
theorem mC_X10_see : Cond.code yX10_see cX10_see 2 (some .int) ∈ lw_tbl := List.mem_of_getElem? (i := 1076) (by decide +kernel)
theorem mL_X10_138 : Cond.methodLink RX10 138 yX10_bits ∈ lw_tbl := List.mem_of_getElem? (i := 1077) (by decide +kernel)
theorem mS_X10_bits : Cond.static yX10_bits ∈ lw_tbl := List.mem_of_getElem? (i := 1078) (by decide +kernel)
theorem mC_X10_bits : Cond.code yX10_bits cX10_bits 3 (some .int) ∈ lw_tbl := List.mem_of_getElem? (i := 1079) (by decide +kernel)
theorem mL_L_55 : Cond.methodLink RL 55 yX10_join ∈ lw_tbl := List.mem_of_getElem? (i := 1080) (by decide +kernel)
theorem mI_X10_join : Cond.instanceMethod yX10_join ∈ lw_tbl := List.mem_of_getElem? (i := 1081) (by decide +kernel)
theorem mV_X10_join : Cond.selects RX10 yX10_join yX10_join ∈ lw_tbl := List.mem_of_getElem? (i := 1082) (by decide +kernel)
theorem mC_X10_join : Cond.code yX10_join cX10_join 3 (some .int) ∈ lw_tbl := List.mem_of_getElem? (i := 1083) (by decide +kernel)
theorem mL_X10_141 : Cond.methodLink RX10 141 yX10_greater ∈ lw_tbl := List.mem_of_getElem? (i := 1084) (by decide +kernel)
theorem mS_X10_greater : Cond.static yX10_greater ∈ lw_tbl := List.mem_of_getElem? (i := 1085) (by decide +kernel)
theorem mC_X10_greater : Cond.code yX10_greater cX10_greater 2 (some .int) ∈ lw_tbl := List.mem_of_getElem? (i := 1086) (by decide +kernel)
theorem mL_L_59 : Cond.methodLink RL 59 yX10_at ∈ lw_tbl := List.mem_of_getElem? (i := 1087) (by decide +kernel)
theorem mI_X10_at : Cond.instanceMethod yX10_at ∈ lw_tbl := List.mem_of_getElem? (i := 1088) (by decide +kernel)
theorem mV_X10_at : Cond.selects RX10 yX10_at yX10_at ∈ lw_tbl := List.mem_of_getElem? (i := 1089) (by decide +kernel)
theorem mC_X10_at : Cond.code yX10_at cX10_at 4 (some .int) ∈ lw_tbl := List.mem_of_getElem? (i := 1090) (by decide +kernel)
theorem mL_L_63 : Cond.methodLink RL 63 yX10_toil ∈ lw_tbl := List.mem_of_getElem? (i := 1091) (by decide +kernel)
theorem mI_X10_toil : Cond.instanceMethod yX10_toil ∈ lw_tbl := List.mem_of_getElem? (i := 1092) (by decide +kernel)
theorem mV_X10_toil : Cond.selects RX10 yX10_toil yX10_toil ∈ lw_tbl := List.mem_of_getElem? (i := 1093) (by decide +kernel)
theorem mC_X10_toil : Cond.code yX10_toil cX10_toil 4 (some .int) ∈ lw_tbl := List.mem_of_getElem? (i := 1094) (by decide +kernel)
theorem mL_L_67 : Cond.methodLink RL 67 yX10_rest ∈ lw_tbl := List.mem_of_getElem? (i := 1095) (by decide +kernel)
theorem mI_X10_rest : Cond.instanceMethod yX10_rest ∈ lw_tbl := List.mem_of_getElem? (i := 1096) (by decide +kernel)
theorem mV_X10_rest : Cond.selects RX10 yX10_rest yX10_rest ∈ lw_tbl := List.mem_of_getElem? (i := 1097) (by decide +kernel)
theorem mC_X10_rest : Cond.code yX10_rest cX10_rest 4 (some .int) ∈ lw_tbl := List.mem_of_getElem? (i := 1098) (by decide +kernel)
theorem mL_L_71 : Cond.methodLink RL 71 yX10_lose ∈ lw_tbl := List.mem_of_getElem? (i := 1099) (by decide +kernel)
theorem mI_X10_lose : Cond.instanceMethod yX10_lose ∈ lw_tbl := List.mem_of_getElem? (i := 1100) (by decide +kernel)
theorem mV_X10_lose : Cond.selects RX10 yX10_lose yX10_lose ∈ lw_tbl := List.mem_of_getElem? (i := 1101) (by decide +kernel)
theorem mC_X10_lose : Cond.code yX10_lose cX10_lose 2 (some .int) ∈ lw_tbl := List.mem_of_getElem? (i := 1102) (by decide +kernel)
theorem mL_L_75 : Cond.methodLink RL 75 yX10_does ∈ lw_tbl := List.mem_of_getElem? (i := 1103) (by decide +kernel)
theorem mI_X10_does : Cond.instanceMethod yX10_does ∈ lw_tbl := List.mem_of_getElem? (i := 1104) (by decide +kernel)
theorem mV_X10_does : Cond.selects RX10 yX10_does yX10_does ∈ lw_tbl := List.mem_of_getElem? (i := 1105) (by decide +kernel)
theorem mC_X10_does : Cond.code yX10_does cX10_does 3 (some .int) ∈ lw_tbl := List.mem_of_getElem? (i := 1106) (by decide +kernel)
theorem mL_X10_158 : Cond.methodLink RX10 158 yX10_gathers ∈ lw_tbl := List.mem_of_getElem? (i := 1107) (by decide +kernel)
theorem mI_X10_gathers : Cond.instanceMethod yX10_gathers ∈ lw_tbl := List.mem_of_getElem? (i := 1109) (by decide +kernel)
theorem mC_X10_gathers : Cond.code yX10_gathers cX10_gathers 3 none ∈ lw_tbl := List.mem_of_getElem? (i := 1110) (by decide +kernel)
theorem mL_X10_151 : Cond.methodLink RX10 151 yX10_begins ∈ lw_tbl := List.mem_of_getElem? (i := 1111) (by decide +kernel)
theorem mI_X10_begins : Cond.instanceMethod yX10_begins ∈ lw_tbl := List.mem_of_getElem? (i := 1113) (by decide +kernel)
theorem mC_X10_begins : Cond.code yX10_begins cX10_begins 2 none ∈ lw_tbl := List.mem_of_getElem? (i := 1114) (by decide +kernel)
theorem mL_X10_154 : Cond.methodLink RX10 154 yX10_gives ∈ lw_tbl := List.mem_of_getElem? (i := 1115) (by decide +kernel)
theorem mI_X10_gives : Cond.instanceMethod yX10_gives ∈ lw_tbl := List.mem_of_getElem? (i := 1117) (by decide +kernel)
theorem mC_X10_gives : Cond.code yX10_gives cX10_gives 6 none ∈ lw_tbl := List.mem_of_getElem? (i := 1118) (by decide +kernel)
theorem mL_X10_147 : Cond.methodLink RX10 147 yX10_giftOf ∈ lw_tbl := List.mem_of_getElem? (i := 1119) (by decide +kernel)
theorem mS_X10_giftOf : Cond.static yX10_giftOf ∈ lw_tbl := List.mem_of_getElem? (i := 1120) (by decide +kernel)
theorem mC_X10_giftOf : Cond.code yX10_giftOf cX10_giftOf 6 (some .int) ∈ lw_tbl := List.mem_of_getElem? (i := 1121) (by decide +kernel)
theorem mL_X10_162 : Cond.methodLink RX10 162 yX10_doesOf ∈ lw_tbl := List.mem_of_getElem? (i := 1122) (by decide +kernel)
theorem mI_X10_doesOf : Cond.instanceMethod yX10_doesOf ∈ lw_tbl := List.mem_of_getElem? (i := 1124) (by decide +kernel)
theorem mC_X10_doesOf : Cond.code yX10_doesOf cX10_doesOf 3 (some .int) ∈ lw_tbl := List.mem_of_getElem? (i := 1125) (by decide +kernel)
theorem mL_L_79 : Cond.methodLink RL 79 yX10_well ∈ lw_tbl := List.mem_of_getElem? (i := 1126) (by decide +kernel)
theorem mI_X10_well : Cond.instanceMethod yX10_well ∈ lw_tbl := List.mem_of_getElem? (i := 1127) (by decide +kernel)
theorem mV_X10_well : Cond.selects RX10 yX10_well yX10_well ∈ lw_tbl := List.mem_of_getElem? (i := 1128) (by decide +kernel)
theorem mC_X10_well : Cond.code yX10_well cX10_well 4 (some .int) ∈ lw_tbl := List.mem_of_getElem? (i := 1129) (by decide +kernel)
theorem mL_X10_171 : Cond.methodLink RX10 171 yX10_findsWell ∈ lw_tbl := List.mem_of_getElem? (i := 1130) (by decide +kernel)
theorem mI_X10_findsWell : Cond.instanceMethod yX10_findsWell ∈ lw_tbl := List.mem_of_getElem? (i := 1132) (by decide +kernel)
theorem mC_X10_findsWell : Cond.code yX10_findsWell cX10_findsWell 5 none ∈ lw_tbl := List.mem_of_getElem? (i := 1133) (by decide +kernel)
theorem mL_X10_174 : Cond.methodLink RX10 174 yX10_common ∈ lw_tbl := List.mem_of_getElem? (i := 1134) (by decide +kernel)
theorem mS_X10_common : Cond.static yX10_common ∈ lw_tbl := List.mem_of_getElem? (i := 1135) (by decide +kernel)
theorem mC_X10_common : Cond.code yX10_common cX10_common 2 (some .int) ∈ lw_tbl := List.mem_of_getElem? (i := 1136) (by decide +kernel)
theorem mL_L_83 : Cond.methodLink RL 83 yX10_plan ∈ lw_tbl := List.mem_of_getElem? (i := 1137) (by decide +kernel)
theorem mI_X10_plan : Cond.instanceMethod yX10_plan ∈ lw_tbl := List.mem_of_getElem? (i := 1138) (by decide +kernel)
theorem mV_X10_plan : Cond.selects RX10 yX10_plan yX10_plan ∈ lw_tbl := List.mem_of_getElem? (i := 1139) (by decide +kernel)
theorem mC_X10_plan : Cond.code yX10_plan cX10_plan 2 (some .int) ∈ lw_tbl := List.mem_of_getElem? (i := 1140) (by decide +kernel)
theorem mL_X10_203 : Cond.methodLink RX10 203 yX10_plans ∈ lw_tbl := List.mem_of_getElem? (i := 1141) (by decide +kernel)
theorem mI_X10_plans : Cond.instanceMethod yX10_plans ∈ lw_tbl := List.mem_of_getElem? (i := 1143) (by decide +kernel)
theorem mC_X10_plans : Cond.code yX10_plans cX10_plans 3 none ∈ lw_tbl := List.mem_of_getElem? (i := 1144) (by decide +kernel)
theorem mL_X10_193 : Cond.methodLink RX10 193 yX10_plansWholes ∈ lw_tbl := List.mem_of_getElem? (i := 1145) (by decide +kernel)
theorem mI_X10_plansWholes : Cond.instanceMethod yX10_plansWholes ∈ lw_tbl := List.mem_of_getElem? (i := 1147) (by decide +kernel)
theorem mC_X10_plansWholes : Cond.code yX10_plansWholes cX10_plansWholes 3 none ∈ lw_tbl := List.mem_of_getElem? (i := 1148) (by decide +kernel)
theorem mL_X10_183 : Cond.methodLink RX10 183 yX10_isDoneBy ∈ lw_tbl := List.mem_of_getElem? (i := 1149) (by decide +kernel)
theorem mI_X10_isDoneBy : Cond.instanceMethod yX10_isDoneBy ∈ lw_tbl := List.mem_of_getElem? (i := 1151) (by decide +kernel)
theorem mC_X10_isDoneBy : Cond.code yX10_isDoneBy cX10_isDoneBy 4 (some .boolean) ∈ lw_tbl := List.mem_of_getElem? (i := 1152) (by decide +kernel)
theorem mL_X10_177 : Cond.methodLink RX10 177 yX10_gathersBy ∈ lw_tbl := List.mem_of_getElem? (i := 1153) (by decide +kernel)
theorem mI_X10_gathersBy : Cond.instanceMethod yX10_gathersBy ∈ lw_tbl := List.mem_of_getElem? (i := 1155) (by decide +kernel)
theorem mC_X10_gathersBy : Cond.code yX10_gathersBy cX10_gathersBy 5 none ∈ lw_tbl := List.mem_of_getElem? (i := 1156) (by decide +kernel)
theorem mL_X10_180 : Cond.methodLink RX10 180 yX10_isDoneNow ∈ lw_tbl := List.mem_of_getElem? (i := 1157) (by decide +kernel)
theorem mI_X10_isDoneNow : Cond.instanceMethod yX10_isDoneNow ∈ lw_tbl := List.mem_of_getElem? (i := 1159) (by decide +kernel)
theorem mC_X10_isDoneNow : Cond.code yX10_isDoneNow cX10_isDoneNow 2 (some .boolean) ∈ lw_tbl := List.mem_of_getElem? (i := 1160) (by decide +kernel)
theorem mL_X10_187 : Cond.methodLink RX10 187 yX10_helps ∈ lw_tbl := List.mem_of_getElem? (i := 1161) (by decide +kernel)
theorem mI_X10_helps : Cond.instanceMethod yX10_helps ∈ lw_tbl := List.mem_of_getElem? (i := 1163) (by decide +kernel)
theorem mC_X10_helps : Cond.code yX10_helps cX10_helps 6 (some .boolean) ∈ lw_tbl := List.mem_of_getElem? (i := 1164) (by decide +kernel)
theorem mL_X10_196 : Cond.methodLink RX10 196 yX10_plansEven ∈ lw_tbl := List.mem_of_getElem? (i := 1165) (by decide +kernel)
theorem mI_X10_plansEven : Cond.instanceMethod yX10_plansEven ∈ lw_tbl := List.mem_of_getElem? (i := 1167) (by decide +kernel)
theorem mC_X10_plansEven : Cond.code yX10_plansEven cX10_plansEven 4 none ∈ lw_tbl := List.mem_of_getElem? (i := 1168) (by decide +kernel)
theorem mL_X10_199 : Cond.methodLink RX10 199 yX10_plansNeed ∈ lw_tbl := List.mem_of_getElem? (i := 1169) (by decide +kernel)
theorem mI_X10_plansNeed : Cond.instanceMethod yX10_plansNeed ∈ lw_tbl := List.mem_of_getElem? (i := 1171) (by decide +kernel)
theorem mC_X10_plansNeed : Cond.code yX10_plansNeed cX10_plansNeed 8 none ∈ lw_tbl := List.mem_of_getElem? (i := 1172) (by decide +kernel)
theorem mL_X10_190 : Cond.methodLink RX10 190 yX10_givenOf ∈ lw_tbl := List.mem_of_getElem? (i := 1173) (by decide +kernel)
theorem mI_X10_givenOf : Cond.instanceMethod yX10_givenOf ∈ lw_tbl := List.mem_of_getElem? (i := 1175) (by decide +kernel)
theorem mC_X10_givenOf : Cond.code yX10_givenOf cX10_givenOf 4 (some .int) ∈ lw_tbl := List.mem_of_getElem? (i := 1176) (by decide +kernel)
theorem mL_X10_206 : Cond.methodLink RX10 206 yX10_worthOf ∈ lw_tbl := List.mem_of_getElem? (i := 1177) (by decide +kernel)
theorem mI_X10_worthOf : Cond.instanceMethod yX10_worthOf ∈ lw_tbl := List.mem_of_getElem? (i := 1179) (by decide +kernel)
theorem mC_X10_worthOf : Cond.code yX10_worthOf cX10_worthOf 3 (some .int) ∈ lw_tbl := List.mem_of_getElem? (i := 1180) (by decide +kernel)
theorem mL_L_88 : Cond.methodLink RL 88 yX10_planned ∈ lw_tbl := List.mem_of_getElem? (i := 1181) (by decide +kernel)
theorem mI_X10_planned : Cond.instanceMethod yX10_planned ∈ lw_tbl := List.mem_of_getElem? (i := 1182) (by decide +kernel)
theorem mV_X10_planned : Cond.selects RX10 yX10_planned yX10_planned ∈ lw_tbl := List.mem_of_getElem? (i := 1183) (by decide +kernel)
theorem mC_X10_planned : Cond.code yX10_planned cX10_planned 4 (some .int) ∈ lw_tbl := List.mem_of_getElem? (i := 1184) (by decide +kernel)
theorem mL_L_92 : Cond.methodLink RL 92 yX10_best ∈ lw_tbl := List.mem_of_getElem? (i := 1185) (by decide +kernel)
theorem mI_X10_best : Cond.instanceMethod yX10_best ∈ lw_tbl := List.mem_of_getElem? (i := 1186) (by decide +kernel)
theorem mV_X10_best : Cond.selects RX10 yX10_best yX10_best ∈ lw_tbl := List.mem_of_getElem? (i := 1187) (by decide +kernel)
theorem mC_X10_best : Cond.code yX10_best cX10_best 1 (some .int) ∈ lw_tbl := List.mem_of_getElem? (i := 1188) (by decide +kernel)
theorem mL_X10_218 : Cond.methodLink RX10 218 yX10_areFew ∈ lw_tbl := List.mem_of_getElem? (i := 1189) (by decide +kernel)
theorem mI_X10_areFew : Cond.instanceMethod yX10_areFew ∈ lw_tbl := List.mem_of_getElem? (i := 1191) (by decide +kernel)
theorem mC_X10_areFew : Cond.code yX10_areFew cX10_areFew 1 (some .boolean) ∈ lw_tbl := List.mem_of_getElem? (i := 1192) (by decide +kernel)
theorem mL_X10_221 : Cond.methodLink RX10 221 yX10_findsBest ∈ lw_tbl := List.mem_of_getElem? (i := 1193) (by decide +kernel)
theorem mI_X10_findsBest : Cond.instanceMethod yX10_findsBest ∈ lw_tbl := List.mem_of_getElem? (i := 1195) (by decide +kernel)
theorem mC_X10_findsBest : Cond.code yX10_findsBest cX10_findsBest 2 none ∈ lw_tbl := List.mem_of_getElem? (i := 1196) (by decide +kernel)
theorem mL_X10_215 : Cond.methodLink RX10 215 yX10_quartersFrom ∈ lw_tbl := List.mem_of_getElem? (i := 1197) (by decide +kernel)
theorem mI_X10_quartersFrom : Cond.instanceMethod yX10_quartersFrom ∈ lw_tbl := List.mem_of_getElem? (i := 1199) (by decide +kernel)
theorem mC_X10_quartersFrom : Cond.code yX10_quartersFrom cX10_quartersFrom 6 none ∈ lw_tbl := List.mem_of_getElem? (i := 1200) (by decide +kernel)
theorem mL_X10_209 : Cond.methodLink RX10 209 yX10_worthByQuarters ∈ lw_tbl := List.mem_of_getElem? (i := 1201) (by decide +kernel)
theorem mI_X10_worthByQuarters : Cond.instanceMethod yX10_worthByQuarters ∈ lw_tbl := List.mem_of_getElem? (i := 1203) (by decide +kernel)
theorem mC_X10_worthByQuarters : Cond.code yX10_worthByQuarters cX10_worthByQuarters 5 (some .int) ∈ lw_tbl := List.mem_of_getElem? (i := 1204) (by decide +kernel)
theorem mL_L_96 : Cond.methodLink RL 96 yX10_quarters ∈ lw_tbl := List.mem_of_getElem? (i := 1205) (by decide +kernel)
theorem mI_X10_quarters : Cond.instanceMethod yX10_quarters ∈ lw_tbl := List.mem_of_getElem? (i := 1206) (by decide +kernel)
theorem mV_X10_quarters : Cond.selects RX10 yX10_quarters yX10_quarters ∈ lw_tbl := List.mem_of_getElem? (i := 1207) (by decide +kernel)
theorem mC_X10_quarters : Cond.code yX10_quarters cX10_quarters 4 (some .int) ∈ lw_tbl := List.mem_of_getElem? (i := 1208) (by decide +kernel)
theorem mL_L_100 : Cond.methodLink RL 100 yX10_must ∈ lw_tbl := List.mem_of_getElem? (i := 1209) (by decide +kernel)
theorem mI_X10_must : Cond.instanceMethod yX10_must ∈ lw_tbl := List.mem_of_getElem? (i := 1210) (by decide +kernel)
theorem mV_X10_must : Cond.selects RX10 yX10_must yX10_must ∈ lw_tbl := List.mem_of_getElem? (i := 1211) (by decide +kernel)
theorem mC_X10_must : Cond.code yX10_must cX10_must 4 (some .int) ∈ lw_tbl := List.mem_of_getElem? (i := 1212) (by decide +kernel)
theorem mL_X10_224 : Cond.methodLink RX10 224 yX10_canAll ∈ lw_tbl := List.mem_of_getElem? (i := 1213) (by decide +kernel)
theorem mI_X10_canAll : Cond.instanceMethod yX10_canAll ∈ lw_tbl := List.mem_of_getElem? (i := 1215) (by decide +kernel)
theorem mC_X10_canAll : Cond.code yX10_canAll cX10_canAll 5 (some .boolean) ∈ lw_tbl := List.mem_of_getElem? (i := 1216) (by decide +kernel)
theorem mL_L_104 : Cond.methodLink RL 104 yX10_with ∈ lw_tbl := List.mem_of_getElem? (i := 1217) (by decide +kernel)
theorem mI_X10_with : Cond.instanceMethod yX10_with ∈ lw_tbl := List.mem_of_getElem? (i := 1218) (by decide +kernel)
theorem mV_X10_with : Cond.selects RX10 yX10_with yX10_with ∈ lw_tbl := List.mem_of_getElem? (i := 1219) (by decide +kernel)
theorem mC_X10_with : Cond.code yX10_with cX10_with 7 (some .int) ∈ lw_tbl := List.mem_of_getElem? (i := 1220) (by decide +kernel)
theorem mL_L_108 : Cond.methodLink RL 108 yX10_thin ∈ lw_tbl := List.mem_of_getElem? (i := 1221) (by decide +kernel)
theorem mI_X10_thin : Cond.instanceMethod yX10_thin ∈ lw_tbl := List.mem_of_getElem? (i := 1222) (by decide +kernel)
theorem mV_X10_thin : Cond.selects RX10 yX10_thin yX10_thin ∈ lw_tbl := List.mem_of_getElem? (i := 1223) (by decide +kernel)
theorem mC_X10_thin : Cond.code yX10_thin cX10_thin 2 (some .int) ∈ lw_tbl := List.mem_of_getElem? (i := 1224) (by decide +kernel)
theorem mL_L_112 : Cond.methodLink RL 112 yX10_few ∈ lw_tbl := List.mem_of_getElem? (i := 1225) (by decide +kernel)
theorem mI_X10_few : Cond.instanceMethod yX10_few ∈ lw_tbl := List.mem_of_getElem? (i := 1226) (by decide +kernel)
theorem mV_X10_few : Cond.selects RX10 yX10_few yX10_few ∈ lw_tbl := List.mem_of_getElem? (i := 1227) (by decide +kernel)
theorem mC_X10_few : Cond.code yX10_few cX10_few 4 (some .int) ∈ lw_tbl := List.mem_of_getElem? (i := 1228) (by decide +kernel)
theorem mL_L_117 : Cond.methodLink RL 117 yX10_chance ∈ lw_tbl := List.mem_of_getElem? (i := 1229) (by decide +kernel)
theorem mI_X10_chance : Cond.instanceMethod yX10_chance ∈ lw_tbl := List.mem_of_getElem? (i := 1230) (by decide +kernel)
theorem mV_X10_chance : Cond.selects RX10 yX10_chance yX10_chance ∈ lw_tbl := List.mem_of_getElem? (i := 1231) (by decide +kernel)
theorem mC_X10_chance : Cond.code yX10_chance cX10_chance 16 (some .long) ∈ lw_tbl := List.mem_of_getElem? (i := 1232) (by decide +kernel)
theorem mQ_X10_231 : Cond.constantLong RX10 231 4000000000000000000 ∈ lw_tbl := List.mem_of_getElem? (i := 1233) (by decide +kernel)
theorem mQ_X10_233 : Cond.constantLong RX10 233 100 ∈ lw_tbl := List.mem_of_getElem? (i := 1234) (by decide +kernel)
theorem mL_X10_227 : Cond.methodLink RX10 227 yX10_commonLong ∈ lw_tbl := List.mem_of_getElem? (i := 1235) (by decide +kernel)
theorem mS_X10_commonLong : Cond.static yX10_commonLong ∈ lw_tbl := List.mem_of_getElem? (i := 1236) (by decide +kernel)
theorem mC_X10_commonLong : Cond.code yX10_commonLong cX10_commonLong 4 (some .long) ∈ lw_tbl := List.mem_of_getElem? (i := 1237) (by decide +kernel)
theorem mL_L_121 : Cond.methodLink RL 121 yX10_together ∈ lw_tbl := List.mem_of_getElem? (i := 1238) (by decide +kernel)
theorem mI_X10_together : Cond.instanceMethod yX10_together ∈ lw_tbl := List.mem_of_getElem? (i := 1239) (by decide +kernel)
theorem mV_X10_together : Cond.selects RX10 yX10_together yX10_together ∈ lw_tbl := List.mem_of_getElem? (i := 1240) (by decide +kernel)
theorem mC_X10_together : Cond.code yX10_together cX10_together 10 (some .int) ∈ lw_tbl := List.mem_of_getElem? (i := 1241) (by decide +kernel)
theorem mL_L_125 : Cond.methodLink RL 125 yX10_known ∈ lw_tbl := List.mem_of_getElem? (i := 1242) (by decide +kernel)
theorem mI_X10_known : Cond.instanceMethod yX10_known ∈ lw_tbl := List.mem_of_getElem? (i := 1243) (by decide +kernel)
theorem mV_X10_known : Cond.selects RX10 yX10_known yX10_known ∈ lw_tbl := List.mem_of_getElem? (i := 1244) (by decide +kernel)
theorem mC_X10_known : Cond.code yX10_known cX10_known 7 (some .int) ∈ lw_tbl := List.mem_of_getElem? (i := 1245) (by decide +kernel)
theorem mL_L_129 : Cond.methodLink RL 129 yX10_row ∈ lw_tbl := List.mem_of_getElem? (i := 1246) (by decide +kernel)
theorem mI_X10_row : Cond.instanceMethod yX10_row ∈ lw_tbl := List.mem_of_getElem? (i := 1247) (by decide +kernel)
theorem mV_X10_row : Cond.selects RX10 yX10_row yX10_row ∈ lw_tbl := List.mem_of_getElem? (i := 1248) (by decide +kernel)
theorem mC_X10_row : Cond.code yX10_row cX10_row 3 (some .int) ∈ lw_tbl := List.mem_of_getElem? (i := 1249) (by decide +kernel)
theorem mL_L_133 : Cond.methodLink RL 133 yX10_judge ∈ lw_tbl := List.mem_of_getElem? (i := 1250) (by decide +kernel)
theorem mI_X10_judge : Cond.instanceMethod yX10_judge ∈ lw_tbl := List.mem_of_getElem? (i := 1251) (by decide +kernel)
theorem mV_X10_judge : Cond.selects RX10 yX10_judge yX10_judge ∈ lw_tbl := List.mem_of_getElem? (i := 1252) (by decide +kernel)
theorem mC_X10_judge : Cond.code yX10_judge cX10_judge 5 (some .int) ∈ lw_tbl := List.mem_of_getElem? (i := 1253) (by decide +kernel)
theorem mL_L_137 : Cond.methodLink RL 137 yX10_image ∈ lw_tbl := List.mem_of_getElem? (i := 1254) (by decide +kernel)
theorem mI_X10_image : Cond.instanceMethod yX10_image ∈ lw_tbl := List.mem_of_getElem? (i := 1255) (by decide +kernel)
theorem mV_X10_image : Cond.selects RX10 yX10_image yX10_image ∈ lw_tbl := List.mem_of_getElem? (i := 1256) (by decide +kernel)
theorem mC_X10_image : Cond.code yX10_image cX10_image 2 (some .int) ∈ lw_tbl := List.mem_of_getElem? (i := 1257) (by decide +kernel)
theorem mL_X10_242 : Cond.methodLink RX10 242 yX10_parts ∈ lw_tbl := List.mem_of_getElem? (i := 1258) (by decide +kernel)
theorem mI_X10_parts : Cond.instanceMethod yX10_parts ∈ lw_tbl := List.mem_of_getElem? (i := 1260) (by decide +kernel)
theorem mC_X10_parts : Cond.code yX10_parts cX10_parts 3 (some .int) ∈ lw_tbl := List.mem_of_getElem? (i := 1261) (by decide +kernel)
theorem mL_L_141 : Cond.methodLink RL 141 yX10_on ∈ lw_tbl := List.mem_of_getElem? (i := 1262) (by decide +kernel)
theorem mI_X10_on : Cond.instanceMethod yX10_on ∈ lw_tbl := List.mem_of_getElem? (i := 1263) (by decide +kernel)
theorem mV_X10_on : Cond.selects RX10 yX10_on yX10_on ∈ lw_tbl := List.mem_of_getElem? (i := 1264) (by decide +kernel)
theorem mC_X10_on : Cond.code yX10_on cX10_on 2 (some .int) ∈ lw_tbl := List.mem_of_getElem? (i := 1265) (by decide +kernel)
theorem mL_L_145 : Cond.methodLink RL 145 yX10_count ∈ lw_tbl := List.mem_of_getElem? (i := 1266) (by decide +kernel)
theorem mI_X10_count : Cond.instanceMethod yX10_count ∈ lw_tbl := List.mem_of_getElem? (i := 1267) (by decide +kernel)
theorem mV_X10_count : Cond.selects RX10 yX10_count yX10_count ∈ lw_tbl := List.mem_of_getElem? (i := 1268) (by decide +kernel)
theorem mC_X10_count : Cond.code yX10_count cX10_count 4 (some .int) ∈ lw_tbl := List.mem_of_getElem? (i := 1269) (by decide +kernel)
theorem mA_char : Cond.arrayClass .char ∈ lw_tbl := List.mem_of_getElem? (i := 1270) (by decide +kernel)
theorem mV_X9_refuse : Cond.selects RX9 yX9_refuse yX9_refuse ∈ lw_tbl := List.mem_of_getElem? (i := 0) (by decide +kernel)
theorem mV_X9_refusalOfTime : Cond.selects RX9 yX9_refusalOfTime yX9_refusalOfTime ∈ lw_tbl := List.mem_of_getElem? (i := 1) (by decide +kernel)
theorem mV_X9_gatherParts : Cond.selects RX9 yX9_gatherParts yX9_gatherParts ∈ lw_tbl := List.mem_of_getElem? (i := 2) (by decide +kernel)
theorem mV_X9_refusalOfChance : Cond.selects RX9 yX9_refusalOfChance yX9_refusalOfChance ∈ lw_tbl := List.mem_of_getElem? (i := 3) (by decide +kernel)
theorem mV_X9_meanLeft : Cond.selects RX9 yX9_meanLeft yX9_meanLeft ∈ lw_tbl := List.mem_of_getElem? (i := 4) (by decide +kernel)
theorem mV_X9_allLeft : Cond.selects RX9 yX9_allLeft yX9_allLeft ∈ lw_tbl := List.mem_of_getElem? (i := 5) (by decide +kernel)
theorem mV_X9_refusalOfParts : Cond.selects RX9 yX9_refusalOfParts yX9_refusalOfParts ∈ lw_tbl := List.mem_of_getElem? (i := 6) (by decide +kernel)
theorem mV_X9_judged : Cond.selects RX9 yX9_judged yX9_judged ∈ lw_tbl := List.mem_of_getElem? (i := 7) (by decide +kernel)
theorem mV_X9_worksDone : Cond.selects RX9 yX9_worksDone yX9_worksDone ∈ lw_tbl := List.mem_of_getElem? (i := 8) (by decide +kernel)
theorem mV_X10_refuse : Cond.selects RX10 yX10_refuse yX10_refuse ∈ lw_tbl := List.mem_of_getElem? (i := 9) (by decide +kernel)
theorem mV_X10_reads : Cond.selects RX10 yX10_reads yX10_reads ∈ lw_tbl := List.mem_of_getElem? (i := 10) (by decide +kernel)
theorem mV_X10_readsStatement : Cond.selects RX10 yX10_readsStatement yX10_readsStatement ∈ lw_tbl := List.mem_of_getElem? (i := 11) (by decide +kernel)
theorem mV_X10_sign : Cond.selects RX10 yX10_sign yX10_sign ∈ lw_tbl := List.mem_of_getElem? (i := 12) (by decide +kernel)
theorem mV_X10_readsNumber : Cond.selects RX10 yX10_readsNumber yX10_readsNumber ∈ lw_tbl := List.mem_of_getElem? (i := 13) (by decide +kernel)
theorem mV_X10_takes : Cond.selects RX10 yX10_takes yX10_takes ∈ lw_tbl := List.mem_of_getElem? (i := 14) (by decide +kernel)
theorem mV_X10_comes : Cond.selects RX10 yX10_comes yX10_comes ∈ lw_tbl := List.mem_of_getElem? (i := 15) (by decide +kernel)
theorem mV_X10_toldOf : Cond.selects RX10 yX10_toldOf yX10_toldOf ∈ lw_tbl := List.mem_of_getElem? (i := 16) (by decide +kernel)
theorem mV_X10_comesPerson : Cond.selects RX10 yX10_comesPerson yX10_comesPerson ∈ lw_tbl := List.mem_of_getElem? (i := 17) (by decide +kernel)
theorem mV_X10_isPerson : Cond.selects RX10 yX10_isPerson yX10_isPerson ∈ lw_tbl := List.mem_of_getElem? (i := 18) (by decide +kernel)
theorem mV_X10_get : Cond.selects RX10 yX10_get yX10_get ∈ lw_tbl := List.mem_of_getElem? (i := 19) (by decide +kernel)
theorem mV_X10_leftOf : Cond.selects RX10 yX10_leftOf yX10_leftOf ∈ lw_tbl := List.mem_of_getElem? (i := 20) (by decide +kernel)
theorem mV_X10_part : Cond.selects RX10 yX10_part yX10_part ∈ lw_tbl := List.mem_of_getElem? (i := 21) (by decide +kernel)
theorem mV_X10_partsOf : Cond.selects RX10 yX10_partsOf yX10_partsOf ∈ lw_tbl := List.mem_of_getElem? (i := 22) (by decide +kernel)
theorem mV_X10_isWork : Cond.selects RX10 yX10_isWork yX10_isWork ∈ lw_tbl := List.mem_of_getElem? (i := 23) (by decide +kernel)
theorem mV_X10_of : Cond.selects RX10 yX10_of yX10_of ∈ lw_tbl := List.mem_of_getElem? (i := 24) (by decide +kernel)
theorem mV_X10_isSpot : Cond.selects RX10 yX10_isSpot yX10_isSpot ∈ lw_tbl := List.mem_of_getElem? (i := 25) (by decide +kernel)
theorem mV_X10_minutesOf : Cond.selects RX10 yX10_minutesOf yX10_minutesOf ∈ lw_tbl := List.mem_of_getElem? (i := 26) (by decide +kernel)
theorem mV_X10_findsFar : Cond.selects RX10 yX10_findsFar yX10_findsFar ∈ lw_tbl := List.mem_of_getElem? (i := 27) (by decide +kernel)
theorem mV_X10_isPart : Cond.selects RX10 yX10_isPart yX10_isPart ∈ lw_tbl := List.mem_of_getElem? (i := 28) (by decide +kernel)
theorem mV_X10_puts : Cond.selects RX10 yX10_puts yX10_puts ∈ lw_tbl := List.mem_of_getElem? (i := 29) (by decide +kernel)
theorem mV_X10_gathers : Cond.selects RX10 yX10_gathers yX10_gathers ∈ lw_tbl := List.mem_of_getElem? (i := 30) (by decide +kernel)
theorem mV_X10_begins : Cond.selects RX10 yX10_begins yX10_begins ∈ lw_tbl := List.mem_of_getElem? (i := 31) (by decide +kernel)
theorem mV_X10_gives : Cond.selects RX10 yX10_gives yX10_gives ∈ lw_tbl := List.mem_of_getElem? (i := 32) (by decide +kernel)
theorem mV_X10_doesOf : Cond.selects RX10 yX10_doesOf yX10_doesOf ∈ lw_tbl := List.mem_of_getElem? (i := 33) (by decide +kernel)
theorem mV_X10_findsWell : Cond.selects RX10 yX10_findsWell yX10_findsWell ∈ lw_tbl := List.mem_of_getElem? (i := 34) (by decide +kernel)
theorem mV_X10_plans : Cond.selects RX10 yX10_plans yX10_plans ∈ lw_tbl := List.mem_of_getElem? (i := 35) (by decide +kernel)
theorem mV_X10_plansWholes : Cond.selects RX10 yX10_plansWholes yX10_plansWholes ∈ lw_tbl := List.mem_of_getElem? (i := 36) (by decide +kernel)
theorem mV_X10_isDoneBy : Cond.selects RX10 yX10_isDoneBy yX10_isDoneBy ∈ lw_tbl := List.mem_of_getElem? (i := 37) (by decide +kernel)
theorem mV_X10_gathersBy : Cond.selects RX10 yX10_gathersBy yX10_gathersBy ∈ lw_tbl := List.mem_of_getElem? (i := 38) (by decide +kernel)
theorem mV_X10_isDoneNow : Cond.selects RX10 yX10_isDoneNow yX10_isDoneNow ∈ lw_tbl := List.mem_of_getElem? (i := 39) (by decide +kernel)
theorem mV_X10_helps : Cond.selects RX10 yX10_helps yX10_helps ∈ lw_tbl := List.mem_of_getElem? (i := 40) (by decide +kernel)
theorem mV_X10_plansEven : Cond.selects RX10 yX10_plansEven yX10_plansEven ∈ lw_tbl := List.mem_of_getElem? (i := 41) (by decide +kernel)
theorem mV_X10_plansNeed : Cond.selects RX10 yX10_plansNeed yX10_plansNeed ∈ lw_tbl := List.mem_of_getElem? (i := 42) (by decide +kernel)
theorem mV_X10_givenOf : Cond.selects RX10 yX10_givenOf yX10_givenOf ∈ lw_tbl := List.mem_of_getElem? (i := 43) (by decide +kernel)
theorem mV_X10_worthOf : Cond.selects RX10 yX10_worthOf yX10_worthOf ∈ lw_tbl := List.mem_of_getElem? (i := 44) (by decide +kernel)
theorem mV_X10_areFew : Cond.selects RX10 yX10_areFew yX10_areFew ∈ lw_tbl := List.mem_of_getElem? (i := 45) (by decide +kernel)
theorem mV_X10_findsBest : Cond.selects RX10 yX10_findsBest yX10_findsBest ∈ lw_tbl := List.mem_of_getElem? (i := 46) (by decide +kernel)
theorem mV_X10_quartersFrom : Cond.selects RX10 yX10_quartersFrom yX10_quartersFrom ∈ lw_tbl := List.mem_of_getElem? (i := 47) (by decide +kernel)
theorem mV_X10_worthByQuarters : Cond.selects RX10 yX10_worthByQuarters yX10_worthByQuarters ∈ lw_tbl := List.mem_of_getElem? (i := 48) (by decide +kernel)
theorem mV_X10_canAll : Cond.selects RX10 yX10_canAll yX10_canAll ∈ lw_tbl := List.mem_of_getElem? (i := 49) (by decide +kernel)
theorem mV_X10_parts : Cond.selects RX10 yX10_parts yX10_parts ∈ lw_tbl := List.mem_of_getElem? (i := 50) (by decide +kernel)
theorem mS_arraycopy : Cond.static arraycopyName ∈ lw_tbl := List.mem_of_getElem? (i := 407) (by decide +kernel)
theorem mAC_native : Cond.native arraycopyName ∈ lw_tbl := List.mem_of_getElem? (i := 408) (by decide +kernel)
theorem mI_objectInit : Cond.instanceMethod objectInit ∈ lw_tbl := List.mem_of_getElem? (i := 72) (by decide +kernel)
theorem mC_objectInit : Cond.code objectInit ⟨#[0xb1]⟩ 1 none ∈ lw_tbl := List.mem_of_getElem? (i := 73) (by decide +kernel)
theorem mY_X0 : ∀ w ∈ u_ws RX0 TX0 3, w ∈ lw_tbl := by decide +kernel
theorem mY_X1 : ∀ w ∈ u_ws RX1 TX1 6, w ∈ lw_tbl := by decide +kernel
theorem mY_X2 : ∀ w ∈ u_ws RX2 TX2 7, w ∈ lw_tbl := by decide +kernel
theorem mY_X3 : ∀ w ∈ u_ws RX3 TX3 2, w ∈ lw_tbl := by decide +kernel
theorem mY_X4 : ∀ w ∈ u_ws RX4 TX4 3, w ∈ lw_tbl := by decide +kernel
theorem mY_X5 : ∀ w ∈ u_ws RX5 TX5 7, w ∈ lw_tbl := by decide +kernel
theorem mY_X6 : ∀ w ∈ u_ws RX6 TX6 5, w ∈ lw_tbl := by decide +kernel
theorem mY_X7 : ∀ w ∈ u_ws RX7 TX7 8, w ∈ lw_tbl := by decide +kernel
theorem mY_X8 : ∀ w ∈ u_ws RX8 TX8 4, w ∈ lw_tbl := by decide +kernel
theorem mY_X9 : ∀ w ∈ u_ws RX9 TX9 12, w ∈ lw_tbl := by decide +kernel
theorem mY_X10 : ∀ w ∈ u_ws RX10 TX10 20, w ∈ lw_tbl := by decide +kernel
end
