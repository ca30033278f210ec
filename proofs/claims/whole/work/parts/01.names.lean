-- ===== PART A: goes FIRST, ahead of the names: the tables' words, and 'selects' of the private methods out of them =====
/-- a private method of a class that the tables say can be made, by its rows of tables_1 -/
def lw_okq (q : MethodName × Nat) : Prop := (q.1.cls ≠ "java/lang/invoke/MethodHandle" ∧ q.1.cls ≠ "java/lang/invoke/VarHandle") ∧ Cond.instantiable q.1.cls q.2 ∈ tables_1 ∧ Cond.privateMethod q.1 ∈ tables_1 ∧ Cond.instanceMethod q.1 ∈ tables_1
theorem lw_p0 : lw_okq (⟨"SledgeStove", "fail", "(I)I"⟩, 11) := ⟨⟨by decide +kernel, by decide +kernel⟩, List.mem_of_getElem? (i := 19) (by decide +kernel), List.mem_of_getElem? (i := 212) (by decide +kernel), List.mem_of_getElem? (i := 213) (by decide +kernel)⟩
theorem lw_p1 : lw_okq (⟨"SledgeStove", "endsTooLate", "(I)Z"⟩, 11) := ⟨⟨by decide +kernel, by decide +kernel⟩, List.mem_of_getElem? (i := 19) (by decide +kernel), List.mem_of_getElem? (i := 316) (by decide +kernel), List.mem_of_getElem? (i := 317) (by decide +kernel)⟩
theorem lw_p2 : lw_okq (⟨"SledgeStove", "trial", "()LSledgeStove$Village;"⟩, 11) := ⟨⟨by decide +kernel, by decide +kernel⟩, List.mem_of_getElem? (i := 19) (by decide +kernel), List.mem_of_getElem? (i := 382) (by decide +kernel), List.mem_of_getElem? (i := 383) (by decide +kernel)⟩
theorem lw_p3 : lw_okq (⟨"SledgeStove", "cannotStart", "(I)Z"⟩, 11) := ⟨⟨by decide +kernel, by decide +kernel⟩, List.mem_of_getElem? (i := 19) (by decide +kernel), List.mem_of_getElem? (i := 411) (by decide +kernel), List.mem_of_getElem? (i := 412) (by decide +kernel)⟩
theorem lw_p4 : lw_okq (⟨"SledgeStove", "sentTo", "(II)LSledgeStove$Village;"⟩, 11) := ⟨⟨by decide +kernel, by decide +kernel⟩, List.mem_of_getElem? (i := 19) (by decide +kernel), List.mem_of_getElem? (i := 419) (by decide +kernel), List.mem_of_getElem? (i := 420) (by decide +kernel)⟩
theorem lw_p5 : lw_okq (⟨"SledgeStove", "leastValue", "(III)I"⟩, 11) := ⟨⟨by decide +kernel, by decide +kernel⟩, List.mem_of_getElem? (i := 19) (by decide +kernel), List.mem_of_getElem? (i := 435) (by decide +kernel), List.mem_of_getElem? (i := 436) (by decide +kernel)⟩
theorem lw_p6 : lw_okq (⟨"SledgeStove", "changed", "(IIII)LSledgeStove$House;"⟩, 11) := ⟨⟨by decide +kernel, by decide +kernel⟩, List.mem_of_getElem? (i := 19) (by decide +kernel), List.mem_of_getElem? (i := 439) (by decide +kernel), List.mem_of_getElem? (i := 440) (by decide +kernel)⟩
theorem lw_p7 : lw_okq (⟨"SledgeStove", "roundFinding", "(I)I"⟩, 11) := ⟨⟨by decide +kernel, by decide +kernel⟩, List.mem_of_getElem? (i := 19) (by decide +kernel), List.mem_of_getElem? (i := 461) (by decide +kernel), List.mem_of_getElem? (i := 462) (by decide +kernel)⟩
theorem lw_p8 : lw_okq (⟨"SledgeStove", "wholeRound", "(I)LSledgeStove$Village;"⟩, 11) := ⟨⟨by decide +kernel, by decide +kernel⟩, List.mem_of_getElem? (i := 19) (by decide +kernel), List.mem_of_getElem? (i := 465) (by decide +kernel), List.mem_of_getElem? (i := 466) (by decide +kernel)⟩
theorem lw_p9 : lw_okq (⟨"SledgeStove", "tryThrees", "(ILSledgeStove$Wish;)V"⟩, 11) := ⟨⟨by decide +kernel, by decide +kernel⟩, List.mem_of_getElem? (i := 19) (by decide +kernel), List.mem_of_getElem? (i := 509) (by decide +kernel), List.mem_of_getElem? (i := 510) (by decide +kernel)⟩
theorem lw_p10 : lw_okq (⟨"SledgeStove", "sheetAt", "(I)LSledgeStove$Sheet;"⟩, 11) := ⟨⟨by decide +kernel, by decide +kernel⟩, List.mem_of_getElem? (i := 19) (by decide +kernel), List.mem_of_getElem? (i := 749) (by decide +kernel), List.mem_of_getElem? (i := 750) (by decide +kernel)⟩
theorem lw_p11 : lw_okq (⟨"SledgeStove", "tellsHouses", "(LSledgeStove$Sheet;)Z"⟩, 11) := ⟨⟨by decide +kernel, by decide +kernel⟩, List.mem_of_getElem? (i := 19) (by decide +kernel), List.mem_of_getElem? (i := 790) (by decide +kernel), List.mem_of_getElem? (i := 791) (by decide +kernel)⟩
theorem lw_p12 : lw_okq (⟨"SledgeStoveModel", "finds", "(I)I"⟩, 26) := ⟨⟨by decide +kernel, by decide +kernel⟩, List.mem_of_getElem? (i := 840) (by decide +kernel), List.mem_of_getElem? (i := 934) (by decide +kernel), List.mem_of_getElem? (i := 935) (by decide +kernel)⟩
theorem lw_p13 : lw_okq (⟨"SledgeStoveModel", "newHouse", "(IIIII)I"⟩, 26) := ⟨⟨by decide +kernel, by decide +kernel⟩, List.mem_of_getElem? (i := 840) (by decide +kernel), List.mem_of_getElem? (i := 939) (by decide +kernel), List.mem_of_getElem? (i := 940) (by decide +kernel)⟩
theorem lw_p14 : lw_okq (⟨"SledgeStoveModel", "isHouse", "(I)Z"⟩, 26) := ⟨⟨by decide +kernel, by decide +kernel⟩, List.mem_of_getElem? (i := 840) (by decide +kernel), List.mem_of_getElem? (i := 950) (by decide +kernel), List.mem_of_getElem? (i := 951) (by decide +kernel)⟩
theorem lw_p15 : lw_okq (⟨"SledgeStoveModel", "its", "(II)I"⟩, 26) := ⟨⟨by decide +kernel, by decide +kernel⟩, List.mem_of_getElem? (i := 840) (by decide +kernel), List.mem_of_getElem? (i := 955) (by decide +kernel), List.mem_of_getElem? (i := 956) (by decide +kernel)⟩
def lw_privs_1 : List (MethodName × Nat) := [(⟨"SledgeStove", "fail", "(I)I"⟩, 11), (⟨"SledgeStove", "endsTooLate", "(I)Z"⟩, 11), (⟨"SledgeStove", "trial", "()LSledgeStove$Village;"⟩, 11), (⟨"SledgeStove", "cannotStart", "(I)Z"⟩, 11), (⟨"SledgeStove", "sentTo", "(II)LSledgeStove$Village;"⟩, 11), (⟨"SledgeStove", "leastValue", "(III)I"⟩, 11), (⟨"SledgeStove", "changed", "(IIII)LSledgeStove$House;"⟩, 11), (⟨"SledgeStove", "roundFinding", "(I)I"⟩, 11), (⟨"SledgeStove", "wholeRound", "(I)LSledgeStove$Village;"⟩, 11), (⟨"SledgeStove", "tryThrees", "(ILSledgeStove$Wish;)V"⟩, 11), (⟨"SledgeStove", "sheetAt", "(I)LSledgeStove$Sheet;"⟩, 11), (⟨"SledgeStove", "tellsHouses", "(LSledgeStove$Sheet;)Z"⟩, 11), (⟨"SledgeStoveModel", "finds", "(I)I"⟩, 26), (⟨"SledgeStoveModel", "newHouse", "(IIIII)I"⟩, 26), (⟨"SledgeStoveModel", "isHouse", "(I)Z"⟩, 26), (⟨"SledgeStoveModel", "its", "(II)I"⟩, 26)]
theorem lw_r1 : ∀ q ∈ lw_privs_1, lw_okq q := List.forall_mem_cons.mpr ⟨lw_p0, List.forall_mem_cons.mpr ⟨lw_p1, List.forall_mem_cons.mpr ⟨lw_p2, List.forall_mem_cons.mpr ⟨lw_p3, List.forall_mem_cons.mpr ⟨lw_p4, List.forall_mem_cons.mpr ⟨lw_p5, List.forall_mem_cons.mpr ⟨lw_p6, List.forall_mem_cons.mpr ⟨lw_p7, List.forall_mem_cons.mpr ⟨lw_p8, List.forall_mem_cons.mpr ⟨lw_p9, List.forall_mem_cons.mpr ⟨lw_p10, List.forall_mem_cons.mpr ⟨lw_p11, List.forall_mem_cons.mpr ⟨lw_p12, List.forall_mem_cons.mpr ⟨lw_p13, List.forall_mem_cons.mpr ⟨lw_p14, List.forall_mem_cons.mpr ⟨lw_p15, fun _ h => absurd h List.not_mem_nil⟩⟩⟩⟩⟩⟩⟩⟩⟩⟩⟩⟩⟩⟩⟩⟩
theorem lw_p16 : lw_okq (⟨"SledgeStoveModel", "heats", "(I)I"⟩, 26) := ⟨⟨by decide +kernel, by decide +kernel⟩, List.mem_of_getElem? (i := 840) (by decide +kernel), List.mem_of_getElem? (i := 959) (by decide +kernel), List.mem_of_getElem? (i := 960) (by decide +kernel)⟩
theorem lw_p17 : lw_okq (⟨"SledgeStoveModel", "loses", "(I)I"⟩, 26) := ⟨⟨by decide +kernel, by decide +kernel⟩, List.mem_of_getElem? (i := 840) (by decide +kernel), List.mem_of_getElem? (i := 963) (by decide +kernel), List.mem_of_getElem? (i := 964) (by decide +kernel)⟩
theorem lw_p18 : lw_okq (⟨"SledgeStoveModel", "burns", "(I)I"⟩, 26) := ⟨⟨by decide +kernel, by decide +kernel⟩, List.mem_of_getElem? (i := 840) (by decide +kernel), List.mem_of_getElem? (i := 967) (by decide +kernel), List.mem_of_getElem? (i := 968) (by decide +kernel)⟩
theorem lw_p19 : lw_okq (⟨"SledgeStoveModel", "wayOf", "(II)I"⟩, 26) := ⟨⟨by decide +kernel, by decide +kernel⟩, List.mem_of_getElem? (i := 840) (by decide +kernel), List.mem_of_getElem? (i := 1000) (by decide +kernel), List.mem_of_getElem? (i := 1001) (by decide +kernel)⟩
theorem lw_p20 : lw_okq (⟨"SledgeStoveModel", "isGoing", "()Z"⟩, 26) := ⟨⟨by decide +kernel, by decide +kernel⟩, List.mem_of_getElem? (i := 840) (by decide +kernel), List.mem_of_getElem? (i := 1008) (by decide +kernel), List.mem_of_getElem? (i := 1009) (by decide +kernel)⟩
theorem lw_p21 : lw_okq (⟨"SledgeStoveModel", "sends", "(I)V"⟩, 26) := ⟨⟨by decide +kernel, by decide +kernel⟩, List.mem_of_getElem? (i := 840) (by decide +kernel), List.mem_of_getElem? (i := 1012) (by decide +kernel), List.mem_of_getElem? (i := 1013) (by decide +kernel)⟩
theorem lw_p22 : lw_okq (⟨"SledgeStoveModel", "isTooLate", "(I)Z"⟩, 26) := ⟨⟨by decide +kernel, by decide +kernel⟩, List.mem_of_getElem? (i := 840) (by decide +kernel), List.mem_of_getElem? (i := 1021) (by decide +kernel), List.mem_of_getElem? (i := 1022) (by decide +kernel)⟩
theorem lw_p23 : lw_okq (⟨"SledgeStoveModel", "sumOf", "(I)I"⟩, 26) := ⟨⟨by decide +kernel, by decide +kernel⟩, List.mem_of_getElem? (i := 840) (by decide +kernel), List.mem_of_getElem? (i := 1025) (by decide +kernel), List.mem_of_getElem? (i := 1026) (by decide +kernel)⟩
theorem lw_p24 : lw_okq (⟨"SledgeStoveModel", "quartersGo", "(I)V"⟩, 26) := ⟨⟨by decide +kernel, by decide +kernel⟩, List.mem_of_getElem? (i := 840) (by decide +kernel), List.mem_of_getElem? (i := 1029) (by decide +kernel), List.mem_of_getElem? (i := 1030) (by decide +kernel)⟩
theorem lw_p25 : lw_okq (⟨"SledgeStoveModel", "quarter", "()V"⟩, 26) := ⟨⟨by decide +kernel, by decide +kernel⟩, List.mem_of_getElem? (i := 840) (by decide +kernel), List.mem_of_getElem? (i := 1033) (by decide +kernel), List.mem_of_getElem? (i := 1034) (by decide +kernel)⟩
theorem lw_p26 : lw_okq (⟨"SledgeStoveModel", "warms", "(II)V"⟩, 26) := ⟨⟨by decide +kernel, by decide +kernel⟩, List.mem_of_getElem? (i := 840) (by decide +kernel), List.mem_of_getElem? (i := 1037) (by decide +kernel), List.mem_of_getElem? (i := 1038) (by decide +kernel)⟩
theorem lw_p27 : lw_okq (⟨"SledgeStoveModel", "getsOf", "(II)V"⟩, 26) := ⟨⟨by decide +kernel, by decide +kernel⟩, List.mem_of_getElem? (i := 840) (by decide +kernel), List.mem_of_getElem? (i := 1041) (by decide +kernel), List.mem_of_getElem? (i := 1042) (by decide +kernel)⟩
theorem lw_p28 : lw_okq (⟨"SledgeStoveModel", "coldSet", "()I"⟩, 26) := ⟨⟨by decide +kernel, by decide +kernel⟩, List.mem_of_getElem? (i := 840) (by decide +kernel), List.mem_of_getElem? (i := 1049) (by decide +kernel), List.mem_of_getElem? (i := 1050) (by decide +kernel)⟩
theorem lw_p29 : lw_okq (⟨"SledgeStoveModel", "isCold", "(I)Z"⟩, 26) := ⟨⟨by decide +kernel, by decide +kernel⟩, List.mem_of_getElem? (i := 840) (by decide +kernel), List.mem_of_getElem? (i := 1053) (by decide +kernel), List.mem_of_getElem? (i := 1054) (by decide +kernel)⟩
theorem lw_p30 : lw_okq (⟨"SledgeStoveModel", "saves", "()V"⟩, 26) := ⟨⟨by decide +kernel, by decide +kernel⟩, List.mem_of_getElem? (i := 840) (by decide +kernel), List.mem_of_getElem? (i := 1061) (by decide +kernel), List.mem_of_getElem? (i := 1062) (by decide +kernel)⟩
theorem lw_p31 : lw_okq (⟨"SledgeStoveModel", "leastWarmth", "()I"⟩, 26) := ⟨⟨by decide +kernel, by decide +kernel⟩, List.mem_of_getElem? (i := 840) (by decide +kernel), List.mem_of_getElem? (i := 1065) (by decide +kernel), List.mem_of_getElem? (i := 1066) (by decide +kernel)⟩
def lw_privs_2 : List (MethodName × Nat) := [(⟨"SledgeStoveModel", "heats", "(I)I"⟩, 26), (⟨"SledgeStoveModel", "loses", "(I)I"⟩, 26), (⟨"SledgeStoveModel", "burns", "(I)I"⟩, 26), (⟨"SledgeStoveModel", "wayOf", "(II)I"⟩, 26), (⟨"SledgeStoveModel", "isGoing", "()Z"⟩, 26), (⟨"SledgeStoveModel", "sends", "(I)V"⟩, 26), (⟨"SledgeStoveModel", "isTooLate", "(I)Z"⟩, 26), (⟨"SledgeStoveModel", "sumOf", "(I)I"⟩, 26), (⟨"SledgeStoveModel", "quartersGo", "(I)V"⟩, 26), (⟨"SledgeStoveModel", "quarter", "()V"⟩, 26), (⟨"SledgeStoveModel", "warms", "(II)V"⟩, 26), (⟨"SledgeStoveModel", "getsOf", "(II)V"⟩, 26), (⟨"SledgeStoveModel", "coldSet", "()I"⟩, 26), (⟨"SledgeStoveModel", "isCold", "(I)Z"⟩, 26), (⟨"SledgeStoveModel", "saves", "()V"⟩, 26), (⟨"SledgeStoveModel", "leastWarmth", "()I"⟩, 26)]
theorem lw_r2 : ∀ q ∈ lw_privs_2, lw_okq q := List.forall_mem_cons.mpr ⟨lw_p16, List.forall_mem_cons.mpr ⟨lw_p17, List.forall_mem_cons.mpr ⟨lw_p18, List.forall_mem_cons.mpr ⟨lw_p19, List.forall_mem_cons.mpr ⟨lw_p20, List.forall_mem_cons.mpr ⟨lw_p21, List.forall_mem_cons.mpr ⟨lw_p22, List.forall_mem_cons.mpr ⟨lw_p23, List.forall_mem_cons.mpr ⟨lw_p24, List.forall_mem_cons.mpr ⟨lw_p25, List.forall_mem_cons.mpr ⟨lw_p26, List.forall_mem_cons.mpr ⟨lw_p27, List.forall_mem_cons.mpr ⟨lw_p28, List.forall_mem_cons.mpr ⟨lw_p29, List.forall_mem_cons.mpr ⟨lw_p30, List.forall_mem_cons.mpr ⟨lw_p31, fun _ h => absurd h List.not_mem_nil⟩⟩⟩⟩⟩⟩⟩⟩⟩⟩⟩⟩⟩⟩⟩⟩
theorem lw_p32 : lw_okq (⟨"SledgeStoveModel", "putsBack", "()V"⟩, 26) := ⟨⟨by decide +kernel, by decide +kernel⟩, List.mem_of_getElem? (i := 840) (by decide +kernel), List.mem_of_getElem? (i := 1069) (by decide +kernel), List.mem_of_getElem? (i := 1070) (by decide +kernel)⟩
theorem lw_p33 : lw_okq (⟨"SledgeStoveModel", "isFixed", "(I)Z"⟩, 26) := ⟨⟨by decide +kernel, by decide +kernel⟩, List.mem_of_getElem? (i := 840) (by decide +kernel), List.mem_of_getElem? (i := 1089) (by decide +kernel), List.mem_of_getElem? (i := 1090) (by decide +kernel)⟩
theorem lw_p34 : lw_okq (⟨"SledgeStoveModel", "isAbove", "(I)Z"⟩, 26) := ⟨⟨by decide +kernel, by decide +kernel⟩, List.mem_of_getElem? (i := 840) (by decide +kernel), List.mem_of_getElem? (i := 1101) (by decide +kernel), List.mem_of_getElem? (i := 1102) (by decide +kernel)⟩
theorem lw_p35 : lw_okq (⟨"SledgeStoveModel", "leastPart", "(IIIII)I"⟩, 26) := ⟨⟨by decide +kernel, by decide +kernel⟩, List.mem_of_getElem? (i := 840) (by decide +kernel), List.mem_of_getElem? (i := 1109) (by decide +kernel), List.mem_of_getElem? (i := 1110) (by decide +kernel)⟩
theorem lw_p36 : lw_okq (⟨"SledgeStoveModel", "isBarred", "()Z"⟩, 26) := ⟨⟨by decide +kernel, by decide +kernel⟩, List.mem_of_getElem? (i := 840) (by decide +kernel), List.mem_of_getElem? (i := 1133) (by decide +kernel), List.mem_of_getElem? (i := 1134) (by decide +kernel)⟩
theorem lw_p37 : lw_okq (⟨"SledgeStoveModel", "leastRound", "(I)I"⟩, 26) := ⟨⟨by decide +kernel, by decide +kernel⟩, List.mem_of_getElem? (i := 840) (by decide +kernel), List.mem_of_getElem? (i := 1137) (by decide +kernel), List.mem_of_getElem? (i := 1138) (by decide +kernel)⟩
theorem lw_p38 : lw_okq (⟨"SledgeStoveModel", "goesRound", "(I)V"⟩, 26) := ⟨⟨by decide +kernel, by decide +kernel⟩, List.mem_of_getElem? (i := 840) (by decide +kernel), List.mem_of_getElem? (i := 1141) (by decide +kernel), List.mem_of_getElem? (i := 1142) (by decide +kernel)⟩
theorem lw_p39 : lw_okq (⟨"SledgeStoveModel", "begins", "()V"⟩, 26) := ⟨⟨by decide +kernel, by decide +kernel⟩, List.mem_of_getElem? (i := 840) (by decide +kernel), List.mem_of_getElem? (i := 1145) (by decide +kernel), List.mem_of_getElem? (i := 1146) (by decide +kernel)⟩
theorem lw_p40 : lw_okq (⟨"SledgeStoveModel", "visits", "(II)V"⟩, 26) := ⟨⟨by decide +kernel, by decide +kernel⟩, List.mem_of_getElem? (i := 840) (by decide +kernel), List.mem_of_getElem? (i := 1149) (by decide +kernel), List.mem_of_getElem? (i := 1150) (by decide +kernel)⟩
theorem lw_p41 : lw_okq (⟨"SledgeStoveModel", "watches", "(I)V"⟩, 26) := ⟨⟨by decide +kernel, by decide +kernel⟩, List.mem_of_getElem? (i := 840) (by decide +kernel), List.mem_of_getElem? (i := 1153) (by decide +kernel), List.mem_of_getElem? (i := 1154) (by decide +kernel)⟩
theorem lw_p42 : lw_okq (⟨"SledgeStoveModel", "isDone", "()Z"⟩, 26) := ⟨⟨by decide +kernel, by decide +kernel⟩, List.mem_of_getElem? (i := 840) (by decide +kernel), List.mem_of_getElem? (i := 1157) (by decide +kernel), List.mem_of_getElem? (i := 1158) (by decide +kernel)⟩
theorem lw_p43 : lw_okq (⟨"SledgeStoveModel", "threes", "(III)V"⟩, 26) := ⟨⟨by decide +kernel, by decide +kernel⟩, List.mem_of_getElem? (i := 840) (by decide +kernel), List.mem_of_getElem? (i := 1169) (by decide +kernel), List.mem_of_getElem? (i := 1170) (by decide +kernel)⟩
theorem lw_p44 : lw_okq (⟨"SledgeStoveModel", "seconds", "(IIII)V"⟩, 26) := ⟨⟨by decide +kernel, by decide +kernel⟩, List.mem_of_getElem? (i := 840) (by decide +kernel), List.mem_of_getElem? (i := 1173) (by decide +kernel), List.mem_of_getElem? (i := 1174) (by decide +kernel)⟩
theorem lw_p45 : lw_okq (⟨"SledgeStoveModel", "stands", "(I)V"⟩, 26) := ⟨⟨by decide +kernel, by decide +kernel⟩, List.mem_of_getElem? (i := 840) (by decide +kernel), List.mem_of_getElem? (i := 1177) (by decide +kernel), List.mem_of_getElem? (i := 1178) (by decide +kernel)⟩
theorem lw_p46 : lw_okq (⟨"SledgeStoveModel", "thirds", "(IIII)V"⟩, 26) := ⟨⟨by decide +kernel, by decide +kernel⟩, List.mem_of_getElem? (i := 840) (by decide +kernel), List.mem_of_getElem? (i := 1181) (by decide +kernel), List.mem_of_getElem? (i := 1182) (by decide +kernel)⟩
theorem lw_p47 : lw_okq (⟨"SledgeStoveModel", "ended", "(III)V"⟩, 26) := ⟨⟨by decide +kernel, by decide +kernel⟩, List.mem_of_getElem? (i := 840) (by decide +kernel), List.mem_of_getElem? (i := 1185) (by decide +kernel), List.mem_of_getElem? (i := 1186) (by decide +kernel)⟩
def lw_privs_3 : List (MethodName × Nat) := [(⟨"SledgeStoveModel", "putsBack", "()V"⟩, 26), (⟨"SledgeStoveModel", "isFixed", "(I)Z"⟩, 26), (⟨"SledgeStoveModel", "isAbove", "(I)Z"⟩, 26), (⟨"SledgeStoveModel", "leastPart", "(IIIII)I"⟩, 26), (⟨"SledgeStoveModel", "isBarred", "()Z"⟩, 26), (⟨"SledgeStoveModel", "leastRound", "(I)I"⟩, 26), (⟨"SledgeStoveModel", "goesRound", "(I)V"⟩, 26), (⟨"SledgeStoveModel", "begins", "()V"⟩, 26), (⟨"SledgeStoveModel", "visits", "(II)V"⟩, 26), (⟨"SledgeStoveModel", "watches", "(I)V"⟩, 26), (⟨"SledgeStoveModel", "isDone", "()Z"⟩, 26), (⟨"SledgeStoveModel", "threes", "(III)V"⟩, 26), (⟨"SledgeStoveModel", "seconds", "(IIII)V"⟩, 26), (⟨"SledgeStoveModel", "stands", "(I)V"⟩, 26), (⟨"SledgeStoveModel", "thirds", "(IIII)V"⟩, 26), (⟨"SledgeStoveModel", "ended", "(III)V"⟩, 26)]
theorem lw_r3 : ∀ q ∈ lw_privs_3, lw_okq q := List.forall_mem_cons.mpr ⟨lw_p32, List.forall_mem_cons.mpr ⟨lw_p33, List.forall_mem_cons.mpr ⟨lw_p34, List.forall_mem_cons.mpr ⟨lw_p35, List.forall_mem_cons.mpr ⟨lw_p36, List.forall_mem_cons.mpr ⟨lw_p37, List.forall_mem_cons.mpr ⟨lw_p38, List.forall_mem_cons.mpr ⟨lw_p39, List.forall_mem_cons.mpr ⟨lw_p40, List.forall_mem_cons.mpr ⟨lw_p41, List.forall_mem_cons.mpr ⟨lw_p42, List.forall_mem_cons.mpr ⟨lw_p43, List.forall_mem_cons.mpr ⟨lw_p44, List.forall_mem_cons.mpr ⟨lw_p45, List.forall_mem_cons.mpr ⟨lw_p46, List.forall_mem_cons.mpr ⟨lw_p47, fun _ h => absurd h List.not_mem_nil⟩⟩⟩⟩⟩⟩⟩⟩⟩⟩⟩⟩⟩⟩⟩⟩
theorem lw_p48 : lw_okq (⟨"SledgeStoveModel", "standsAgain", "(I)V"⟩, 26) := ⟨⟨by decide +kernel, by decide +kernel⟩, List.mem_of_getElem? (i := 840) (by decide +kernel), List.mem_of_getElem? (i := 1189) (by decide +kernel), List.mem_of_getElem? (i := 1190) (by decide +kernel)⟩
theorem lw_p49 : lw_okq (⟨"SledgeStoveModel", "draw", "()I"⟩, 26) := ⟨⟨by decide +kernel, by decide +kernel⟩, List.mem_of_getElem? (i := 840) (by decide +kernel), List.mem_of_getElem? (i := 1213) (by decide +kernel), List.mem_of_getElem? (i := 1214) (by decide +kernel)⟩
theorem lw_p50 : lw_okq (⟨"SledgeStoveModel", "token", "()V"⟩, 26) := ⟨⟨by decide +kernel, by decide +kernel⟩, List.mem_of_getElem? (i := 840) (by decide +kernel), List.mem_of_getElem? (i := 1238) (by decide +kernel), List.mem_of_getElem? (i := 1239) (by decide +kernel)⟩
theorem lw_p51 : lw_okq (⟨"SledgeStoveModel", "byteAt", "(I)I"⟩, 26) := ⟨⟨by decide +kernel, by decide +kernel⟩, List.mem_of_getElem? (i := 840) (by decide +kernel), List.mem_of_getElem? (i := 1242) (by decide +kernel), List.mem_of_getElem? (i := 1243) (by decide +kernel)⟩
theorem lw_p52 : lw_okq (⟨"SledgeStoveModel", "item", "()V"⟩, 26) := ⟨⟨by decide +kernel, by decide +kernel⟩, List.mem_of_getElem? (i := 840) (by decide +kernel), List.mem_of_getElem? (i := 1256) (by decide +kernel), List.mem_of_getElem? (i := 1257) (by decide +kernel)⟩
theorem lw_p53 : lw_okq (⟨"SledgeStoveModel", "kindHere", "()I"⟩, 26) := ⟨⟨by decide +kernel, by decide +kernel⟩, List.mem_of_getElem? (i := 840) (by decide +kernel), List.mem_of_getElem? (i := 1260) (by decide +kernel), List.mem_of_getElem? (i := 1261) (by decide +kernel)⟩
theorem lw_p54 : lw_okq (⟨"SledgeStoveModel", "word", "()J"⟩, 26) := ⟨⟨by decide +kernel, by decide +kernel⟩, List.mem_of_getElem? (i := 840) (by decide +kernel), List.mem_of_getElem? (i := 1264) (by decide +kernel), List.mem_of_getElem? (i := 1265) (by decide +kernel)⟩
theorem lw_p55 : lw_okq (⟨"SledgeStoveModel", "houseItem", "(I)V"⟩, 26) := ⟨⟨by decide +kernel, by decide +kernel⟩, List.mem_of_getElem? (i := 840) (by decide +kernel), List.mem_of_getElem? (i := 1277) (by decide +kernel), List.mem_of_getElem? (i := 1278) (by decide +kernel)⟩
theorem lw_p56 : lw_okq (⟨"SledgeStoveModel", "needs", "(Z)V"⟩, 26) := ⟨⟨by decide +kernel, by decide +kernel⟩, List.mem_of_getElem? (i := 840) (by decide +kernel), List.mem_of_getElem? (i := 1281) (by decide +kernel), List.mem_of_getElem? (i := 1282) (by decide +kernel)⟩
theorem lw_p57 : lw_okq (⟨"SledgeStoveModel", "perhaps", "(ZIII)I"⟩, 26) := ⟨⟨by decide +kernel, by decide +kernel⟩, List.mem_of_getElem? (i := 840) (by decide +kernel), List.mem_of_getElem? (i := 1286) (by decide +kernel), List.mem_of_getElem? (i := 1287) (by decide +kernel)⟩
theorem lw_p58 : lw_okq (⟨"SledgeStoveModel", "number", "(II)V"⟩, 26) := ⟨⟨by decide +kernel, by decide +kernel⟩, List.mem_of_getElem? (i := 840) (by decide +kernel), List.mem_of_getElem? (i := 1290) (by decide +kernel), List.mem_of_getElem? (i := 1291) (by decide +kernel)⟩
theorem lw_p59 : lw_okq (⟨"SledgeStoveModel", "steepItem", "()V"⟩, 26) := ⟨⟨by decide +kernel, by decide +kernel⟩, List.mem_of_getElem? (i := 840) (by decide +kernel), List.mem_of_getElem? (i := 1298) (by decide +kernel), List.mem_of_getElem? (i := 1299) (by decide +kernel)⟩
theorem lw_p60 : lw_okq (⟨"SledgeStoveModel", "wrong", "(I)I"⟩, 26) := ⟨⟨by decide +kernel, by decide +kernel⟩, List.mem_of_getElem? (i := 840) (by decide +kernel), List.mem_of_getElem? (i := 1328) (by decide +kernel), List.mem_of_getElem? (i := 1329) (by decide +kernel)⟩
theorem lw_p61 : lw_okq (⟨"SledgeStoveModel", "held", "()I"⟩, 26) := ⟨⟨by decide +kernel, by decide +kernel⟩, List.mem_of_getElem? (i := 840) (by decide +kernel), List.mem_of_getElem? (i := 1371) (by decide +kernel), List.mem_of_getElem? (i := 1372) (by decide +kernel)⟩
def lw_privs_4 : List (MethodName × Nat) := [(⟨"SledgeStoveModel", "standsAgain", "(I)V"⟩, 26), (⟨"SledgeStoveModel", "draw", "()I"⟩, 26), (⟨"SledgeStoveModel", "token", "()V"⟩, 26), (⟨"SledgeStoveModel", "byteAt", "(I)I"⟩, 26), (⟨"SledgeStoveModel", "item", "()V"⟩, 26), (⟨"SledgeStoveModel", "kindHere", "()I"⟩, 26), (⟨"SledgeStoveModel", "word", "()J"⟩, 26), (⟨"SledgeStoveModel", "houseItem", "(I)V"⟩, 26), (⟨"SledgeStoveModel", "needs", "(Z)V"⟩, 26), (⟨"SledgeStoveModel", "perhaps", "(ZIII)I"⟩, 26), (⟨"SledgeStoveModel", "number", "(II)V"⟩, 26), (⟨"SledgeStoveModel", "steepItem", "()V"⟩, 26), (⟨"SledgeStoveModel", "wrong", "(I)I"⟩, 26), (⟨"SledgeStoveModel", "held", "()I"⟩, 26)]
theorem lw_r4 : ∀ q ∈ lw_privs_4, lw_okq q := List.forall_mem_cons.mpr ⟨lw_p48, List.forall_mem_cons.mpr ⟨lw_p49, List.forall_mem_cons.mpr ⟨lw_p50, List.forall_mem_cons.mpr ⟨lw_p51, List.forall_mem_cons.mpr ⟨lw_p52, List.forall_mem_cons.mpr ⟨lw_p53, List.forall_mem_cons.mpr ⟨lw_p54, List.forall_mem_cons.mpr ⟨lw_p55, List.forall_mem_cons.mpr ⟨lw_p56, List.forall_mem_cons.mpr ⟨lw_p57, List.forall_mem_cons.mpr ⟨lw_p58, List.forall_mem_cons.mpr ⟨lw_p59, List.forall_mem_cons.mpr ⟨lw_p60, List.forall_mem_cons.mpr ⟨lw_p61, fun _ h => absurd h List.not_mem_nil⟩⟩⟩⟩⟩⟩⟩⟩⟩⟩⟩⟩⟩⟩
def lw_privs : List (MethodName × Nat) := lw_privs_1 ++ (lw_privs_2 ++ (lw_privs_3 ++ (lw_privs_4)))
def lw_tbl : List Cond := k2_sels lw_privs ++ tables_1
theorem lw_privs_ok : ∀ q ∈ lw_privs, lw_okq q := by
  show ∀ q ∈ lw_privs_1 ++ (lw_privs_2 ++ (lw_privs_3 ++ (lw_privs_4))), lw_okq q
  exact List.forall_mem_append.mpr ⟨lw_r1, List.forall_mem_append.mpr ⟨lw_r2, List.forall_mem_append.mpr ⟨lw_r3, lw_r4⟩⟩⟩
/-! names of classes, fields, methods (by program out of the claim) -/
def RX0 : String := "SledgeStove$Diary"
def TX0 : u_T := fun k => match k with
  | 0 => ("SledgeStove$Diary", "sheet", "LSledgeStove$Sheet;", true)
  | _ => ("SledgeStove$Diary", "fitting", "I", false)
def tyX0 : Nat → FieldType := fun k => match k with
  | 0 => .object "SledgeStove$Sheet"
  | _ => .int
abbrev wsX00 : List Cond := u_ws RX0 TX0 2
theorem nmX0 : ∀ a, a < 2 → ∀ b, b < 2 → a ≠ b → (TX0 a).2.1 ≠ (TX0 b).2.1 := by decide +kernel
theorem tyX0_ok : ∀ k, k < 2 → parseFieldDescriptor (TX0 k).2.2.1 = some (tyX0 k) := by decide +kernel
abbrev cX0_init : ByteArray := prog_2_method_1_code
def yX0_init : MethodName := ⟨RX0, "<init>", "(LSledgeStove$Sheet;)V"⟩
abbrev cX0_givesUp : ByteArray := prog_2_method_2_code
def yX0_givesUp : MethodName := ⟨RX0, "givesUp", "(LSledgeStove$Village;)Z"⟩
abbrev cX0_look : ByteArray := prog_2_method_3_code
def yX0_look : MethodName := ⟨RX0, "look", "(LSledgeStove$Village;I)V"⟩
def RX1 : String := "SledgeStove$House"
def TX1 : u_T := fun k => match k with
  | 0 => ("SledgeStove$House", "kind", "I", false)
  | 1 => ("SledgeStove$House", "warmth", "I", false)
  | 2 => ("SledgeStove$House", "wall", "I", false)
  | 3 => ("SledgeStove$House", "logs", "I", false)
  | 4 => ("SledgeStove$House", "bound", "I", false)
  | _ => ("SledgeStove$House", "bread", "I", false)
def tyX1 : Nat → FieldType := fun k => match k with
  | 0 => .int
  | 1 => .int
  | 2 => .int
  | 3 => .int
  | 4 => .int
  | _ => .int
abbrev wsX10 : List Cond := u_ws RX1 TX1 6
theorem nmX1 : ∀ a, a < 6 → ∀ b, b < 6 → a ≠ b → (TX1 a).2.1 ≠ (TX1 b).2.1 := by decide +kernel
theorem tyX1_ok : ∀ k, k < 6 → parseFieldDescriptor (TX1 k).2.2.1 = some (tyX1 k) := by decide +kernel
abbrev cX1_init : ByteArray := prog_3_method_1_code
def yX1_init : MethodName := ⟨RX1, "<init>", "()V"⟩
abbrev cX1_begin : ByteArray := prog_3_method_2_code
def yX1_begin : MethodName := ⟨RX1, "begin", "(I)V"⟩
abbrev cX1_be : ByteArray := prog_3_method_3_code
def yX1_be : MethodName := ⟨RX1, "be", "(LSledgeStove$House;)V"⟩
abbrev cX1_told : ByteArray := prog_3_method_4_code
def yX1_told : MethodName := ⟨RX1, "told", "(I)I"⟩
abbrev cX1_put : ByteArray := prog_3_method_5_code
def yX1_put : MethodName := ⟨RX1, "put", "(II)V"⟩
abbrev cX1_isA : ByteArray := prog_3_method_6_code
def yX1_isA : MethodName := ⟨RX1, "isA", "(I)Z"⟩
abbrev cX1_heats : ByteArray := prog_3_method_7_code
def yX1_heats : MethodName := ⟨RX1, "heats", "()I"⟩
abbrev cX1_loses : ByteArray := prog_3_method_8_code
def yX1_loses : MethodName := ⟨RX1, "loses", "(I)I"⟩
abbrev cX1_burns : ByteArray := prog_3_method_9_code
def yX1_burns : MethodName := ⟨RX1, "burns", "()I"⟩
abbrev cX1_needs : ByteArray := prog_3_method_10_code
def yX1_needs : MethodName := ⟨RX1, "needs", "()Z"⟩
abbrev cX1_gets : ByteArray := prog_3_method_11_code
def yX1_gets : MethodName := ⟨RX1, "gets", "(I)I"⟩
abbrev cX1_isCold : ByteArray := prog_3_method_12_code
def yX1_isCold : MethodName := ⟨RX1, "isCold", "()Z"⟩
abbrev cX1_warmBy : ByteArray := prog_3_method_13_code
def yX1_warmBy : MethodName := ⟨RX1, "warmBy", "(I)V"⟩
abbrev cX1_cool : ByteArray := prog_3_method_14_code
def yX1_cool : MethodName := ⟨RX1, "cool", "(I)V"⟩
def RX2 : String := "SledgeStove$Reader"
def TX2 : u_T := fun k => match k with
  | 0 => ("SledgeStove$Reader", "bytes", "[I", true)
  | 1 => ("SledgeStove$Reader", "village", "LSledgeStove$Village;", true)
  | 2 => ("SledgeStove$Reader", "length", "I", false)
  | 3 => ("SledgeStove$Reader", "pos", "I", false)
  | 4 => ("SledgeStove$Reader", "start", "I", false)
  | 5 => ("SledgeStove$Reader", "token", "I", false)
  | _ => ("SledgeStove$Reader", "value", "I", false)
def tyX2 : Nat → FieldType := fun k => match k with
  | 0 => .array .int
  | 1 => .object "SledgeStove$Village"
  | 2 => .int
  | 3 => .int
  | 4 => .int
  | 5 => .int
  | _ => .int
abbrev wsX20 : List Cond := u_ws RX2 TX2 7
theorem nmX2 : ∀ a, a < 7 → ∀ b, b < 7 → a ≠ b → (TX2 a).2.1 ≠ (TX2 b).2.1 := by decide +kernel
theorem tyX2_ok : ∀ k, k < 7 → parseFieldDescriptor (TX2 k).2.2.1 = some (tyX2 k) := by decide +kernel
abbrev cX2_init : ByteArray := prog_4_method_1_code
def yX2_init : MethodName := ⟨RX2, "<init>", "([ILSledgeStove$Village;)V"⟩
abbrev cX2_readAll : ByteArray := prog_4_method_2_code
def yX2_readAll : MethodName := ⟨RX2, "readAll", "(I)I"⟩
abbrev cX2_readItem : ByteArray := prog_4_method_3_code
def yX2_readItem : MethodName := ⟨RX2, "readItem", "()Z"⟩
abbrev cX2_kindTold : ByteArray := prog_4_method_4_code
def yX2_kindTold : MethodName := ⟨RX2, "kindTold", "()I"⟩
abbrev cX2_readHouse : ByteArray := prog_4_method_5_code
def yX2_readHouse : MethodName := ⟨RX2, "readHouse", "(I)Z"⟩
abbrev cX2_readPart : ByteArray := prog_4_method_6_code
def yX2_readPart : MethodName := ⟨RX2, "readPart", "(LSledgeStove$House;Ljava/lang/String;I)Z"⟩
abbrev cX2_readSteep : ByteArray := prog_4_method_7_code
def yX2_readSteep : MethodName := ⟨RX2, "readSteep", "()Z"⟩
abbrev cX2_readOut : ByteArray := prog_4_method_8_code
def yX2_readOut : MethodName := ⟨RX2, "readOut", "()Z"⟩
abbrev cX2_isNumber : ByteArray := prog_4_method_9_code
def yX2_isNumber : MethodName := ⟨RX2, "isNumber", "(II)Z"⟩
abbrev cX2_isWord : ByteArray := prog_4_method_10_code
def yX2_isWord : MethodName := ⟨RX2, "isWord", "(Ljava/lang/String;)Z"⟩
abbrev cX2_byteAt : ByteArray := prog_4_method_11_code
def yX2_byteAt : MethodName := ⟨RX2, "byteAt", "(I)I"⟩
abbrev cX2_isLetter : ByteArray := prog_4_method_12_code
def yX2_isLetter : MethodName := ⟨RX2, "isLetter", "(I)Z"⟩
abbrev cX2_isDigit : ByteArray := prog_4_method_13_code
def yX2_isDigit : MethodName := ⟨RX2, "isDigit", "(I)Z"⟩
abbrev cX2_next : ByteArray := prog_4_method_14_code
def yX2_next : MethodName := ⟨RX2, "next", "()V"⟩
def RX3 : String := "SledgeStove$Sheet"
def TX3 : u_T := fun k => match k with
  | 0 => ("SledgeStove$Sheet", "numbers", "[I", true)
  | 1 => ("SledgeStove$Sheet", "bits", "I", false)
  | _ => ("SledgeStove$Sheet", "length", "I", false)
def tyX3 : Nat → FieldType := fun k => match k with
  | 0 => .array .int
  | 1 => .int
  | _ => .int
abbrev wsX30 : List Cond := u_ws RX3 TX3 3
theorem nmX3 : ∀ a, a < 3 → ∀ b, b < 3 → a ≠ b → (TX3 a).2.1 ≠ (TX3 b).2.1 := by decide +kernel
theorem tyX3_ok : ∀ k, k < 3 → parseFieldDescriptor (TX3 k).2.2.1 = some (tyX3 k) := by decide +kernel
abbrev cX3_init : ByteArray := prog_5_method_1_code
def yX3_init : MethodName := ⟨RX3, "<init>", "()V"⟩
abbrev cX3_begin : ByteArray := prog_5_method_2_code
def yX3_begin : MethodName := ⟨RX3, "begin", "(II)V"⟩
abbrev cX3_isMissing : ByteArray := prog_5_method_3_code
def yX3_isMissing : MethodName := ⟨RX3, "isMissing", "()Z"⟩
abbrev cX3_has : ByteArray := prog_5_method_4_code
def yX3_has : MethodName := ⟨RX3, "has", "(II)Z"⟩
abbrev cX3_get : ByteArray := prog_5_method_5_code
def yX3_get : MethodName := ⟨RX3, "get", "(I)I"⟩
abbrev cX3_put : ByteArray := prog_5_method_6_code
def yX3_put : MethodName := ⟨RX3, "put", "(II)V"⟩
abbrev cX3_cut : ByteArray := prog_5_method_7_code
def yX3_cut : MethodName := ⟨RX3, "cut", "(I)I"⟩
def RX4 : String := "SledgeStove$Thriftiest"
def TX4 : u_T := fun k => match k with
  | 0 => ("SledgeStove$Thriftiest", "burnt", "I", false)
  | _ => ("SledgeStove$Thriftiest", "code", "I", false)
def tyX4 : Nat → FieldType := fun k => match k with
  | 0 => .int
  | _ => .int
abbrev wsX40 : List Cond := u_ws RX4 TX4 2
theorem nmX4 : ∀ a, a < 2 → ∀ b, b < 2 → a ≠ b → (TX4 a).2.1 ≠ (TX4 b).2.1 := by decide +kernel
theorem tyX4_ok : ∀ k, k < 2 → parseFieldDescriptor (TX4 k).2.2.1 = some (tyX4 k) := by decide +kernel
abbrev cX4_init : ByteArray := prog_6_method_1_code
def yX4_init : MethodName := ⟨RX4, "<init>", "()V"⟩
abbrev cX4_givesUp : ByteArray := prog_6_method_2_code
def yX4_givesUp : MethodName := ⟨RX4, "givesUp", "(LSledgeStove$Village;)Z"⟩
abbrev cX4_look : ByteArray := prog_6_method_3_code
def yX4_look : MethodName := ⟨RX4, "look", "(LSledgeStove$Village;I)V"⟩
def RX5 : String := "SledgeStove$Village"
def TX5 : u_T := fun k => match k with
  | 0 => ("SledgeStove$Village", "lane", "[LSledgeStove$House;", true)
  | 1 => ("SledgeStove$Village", "steeps", "[I", true)
  | 2 => ("SledgeStove$Village", "spots", "[I", true)
  | 3 => ("SledgeStove$Village", "houses", "I", false)
  | 4 => ("SledgeStove$Village", "ice", "I", false)
  | 5 => ("SledgeStove$Village", "out", "I", false)
  | 6 => ("SledgeStove$Village", "at", "I", false)
  | 7 => ("SledgeStove$Village", "left", "I", false)
  | 8 => ("SledgeStove$Village", "quarter", "I", false)
  | 9 => ("SledgeStove$Village", "burnt", "I", false)
  | 10 => ("SledgeStove$Village", "z", "I", false)
  | 11 => ("SledgeStove$Village", "least", "I", false)
  | _ => ("SledgeStove$Village", "chilled", "Z", false)
def tyX5 : Nat → FieldType := fun k => match k with
  | 0 => .array (.object "SledgeStove$House")
  | 1 => .array .int
  | 2 => .array .int
  | 3 => .int
  | 4 => .int
  | 5 => .int
  | 6 => .int
  | 7 => .int
  | 8 => .int
  | 9 => .int
  | 10 => .int
  | 11 => .int
  | _ => .boolean
abbrev wsX50 : List Cond := u_ws RX5 TX5 13
theorem nmX5 : ∀ a, a < 13 → ∀ b, b < 13 → a ≠ b → (TX5 a).2.1 ≠ (TX5 b).2.1 := by decide +kernel
theorem tyX5_ok : ∀ k, k < 13 → parseFieldDescriptor (TX5 k).2.2.1 = some (tyX5 k) := by decide +kernel
abbrev cX5_init : ByteArray := prog_7_method_1_code
def yX5_init : MethodName := ⟨RX5, "<init>", "()V"⟩
abbrev cX5_be : ByteArray := prog_7_method_2_code
def yX5_be : MethodName := ⟨RX5, "be", "(LSledgeStove$Village;)V"⟩
abbrev cX5_get : ByteArray := prog_7_method_3_code
def yX5_get : MethodName := ⟨RX5, "get", "(I)LSledgeStove$House;"⟩
abbrev cX5_build : ByteArray := prog_7_method_4_code
def yX5_build : MethodName := ⟨RX5, "build", "(I)LSledgeStove$House;"⟩
abbrev cX5_steepAt : ByteArray := prog_7_method_5_code
def yX5_steepAt : MethodName := ⟨RX5, "steepAt", "(I)I"⟩
abbrev cX5_putSteep : ByteArray := prog_7_method_6_code
def yX5_putSteep : MethodName := ⟨RX5, "putSteep", "(II)V"⟩
abbrev cX5_spotAt : ByteArray := prog_7_method_7_code
def yX5_spotAt : MethodName := ⟨RX5, "spotAt", "(I)I"⟩
abbrev cX5_putSpot : ByteArray := prog_7_method_8_code
def yX5_putSpot : MethodName := ⟨RX5, "putSpot", "(II)V"⟩
abbrev cX5_spotsHeld : ByteArray := prog_7_method_9_code
def yX5_spotsHeld : MethodName := ⟨RX5, "spotsHeld", "()I"⟩
abbrev cX5_between : ByteArray := prog_7_method_10_code
def yX5_between : MethodName := ⟨RX5, "between", "(II)I"⟩
abbrev cX5_go : ByteArray := prog_7_method_11_code
def yX5_go : MethodName := ⟨RX5, "go", "(I)I"⟩
abbrev cX5_pass : ByteArray := prog_7_method_12_code
def yX5_pass : MethodName := ⟨RX5, "pass", "(I)V"⟩
abbrev cX5_passOne : ByteArray := prog_7_method_13_code
def yX5_passOne : MethodName := ⟨RX5, "passOne", "()V"⟩
abbrev cX5_stoveHouse : ByteArray := prog_7_method_14_code
def yX5_stoveHouse : MethodName := ⟨RX5, "stoveHouse", "()LSledgeStove$House;"⟩
abbrev cX5_burnAt : ByteArray := prog_7_method_15_code
def yX5_burnAt : MethodName := ⟨RX5, "burnAt", "(LSledgeStove$House;)V"⟩
abbrev cX5_isCold : ByteArray := prog_7_method_16_code
def yX5_isCold : MethodName := ⟨RX5, "isCold", "(I)Z"⟩
abbrev cX5_coldSet : ByteArray := prog_7_method_17_code
def yX5_coldSet : MethodName := ⟨RX5, "coldSet", "()I"⟩
abbrev cX5_leastWarmth : ByteArray := prog_7_method_18_code
def yX5_leastWarmth : MethodName := ⟨RX5, "leastWarmth", "()I"⟩
abbrev cX5_sum : ByteArray := prog_7_method_19_code
def yX5_sum : MethodName := ⟨RX5, "sum", "(I)I"⟩
abbrev cX5_beginRound : ByteArray := prog_7_method_20_code
def yX5_beginRound : MethodName := ⟨RX5, "beginRound", "(LSledgeStove$Village;)V"⟩
abbrev cX5_leg : ByteArray := prog_7_method_21_code
def yX5_leg : MethodName := ⟨RX5, "leg", "(II)V"⟩
abbrev cX5_watch : ByteArray := prog_7_method_22_code
def yX5_watch : MethodName := ⟨RX5, "watch", "()V"⟩
abbrev cX5_draw : ByteArray := prog_7_method_23_code
def yX5_draw : MethodName := ⟨RX5, "draw", "()I"⟩
def RX6 : String := "SledgeStove$Warmest"
def TX6 : u_T := fun k => match k with
  | 0 => ("SledgeStove$Warmest", "least", "I", false)
  | _ => ("SledgeStove$Warmest", "code", "I", false)
def tyX6 : Nat → FieldType := fun k => match k with
  | 0 => .int
  | _ => .int
abbrev wsX60 : List Cond := u_ws RX6 TX6 2
theorem nmX6 : ∀ a, a < 2 → ∀ b, b < 2 → a ≠ b → (TX6 a).2.1 ≠ (TX6 b).2.1 := by decide +kernel
theorem tyX6_ok : ∀ k, k < 2 → parseFieldDescriptor (TX6 k).2.2.1 = some (tyX6 k) := by decide +kernel
abbrev cX6_init : ByteArray := prog_8_method_1_code
def yX6_init : MethodName := ⟨RX6, "<init>", "()V"⟩
abbrev cX6_givesUp : ByteArray := prog_8_method_2_code
def yX6_givesUp : MethodName := ⟨RX6, "givesUp", "(LSledgeStove$Village;)Z"⟩
abbrev cX6_look : ByteArray := prog_8_method_3_code
def yX6_look : MethodName := ⟨RX6, "look", "(LSledgeStove$Village;I)V"⟩
def RX7 : String := "SledgeStove$Wish"
def TX7 : u_T := fun k => match k with
  | _ => ("", "", "", false)
def tyX7 : Nat → FieldType := fun k => match k with
  | _ => .int
abbrev wsX70 : List Cond := u_ws RX7 TX7 0
theorem nmX7 : ∀ a, a < 0 → ∀ b, b < 0 → a ≠ b → (TX7 a).2.1 ≠ (TX7 b).2.1 := by decide +kernel
theorem tyX7_ok : ∀ k, k < 0 → parseFieldDescriptor (TX7 k).2.2.1 = some (tyX7 k) := by decide +kernel
abbrev cX7_init : ByteArray := prog_9_method_1_code
def yX7_init : MethodName := ⟨RX7, "<init>", "()V"⟩
def RX8 : String := "SledgeStove"
def TX8 : u_T := fun k => match k with
  | 0 => ("SledgeStove", "live", "LSledgeStove$Village;", true)
  | 1 => ("SledgeStove", "kept", "LSledgeStove$Village;", true)
  | 2 => ("SledgeStove", "first", "LSledgeStove$Village;", true)
  | 3 => ("SledgeStove", "second", "LSledgeStove$Village;", true)
  | 4 => ("SledgeStove", "third", "LSledgeStove$Village;", true)
  | 5 => ("SledgeStove", "sheets", "[LSledgeStove$Sheet;", true)
  | 6 => ("SledgeStove", "told", "[I", true)
  | 7 => ("SledgeStove", "tape", "[I", true)
  | 8 => ("SledgeStove", "reader", "LSledgeStove$Reader;", true)
  | 9 => ("SledgeStove", "tapeLength", "I", false)
  | _ => ("SledgeStove", "isKept", "Z", false)
def tyX8 : Nat → FieldType := fun k => match k with
  | 0 => .object "SledgeStove$Village"
  | 1 => .object "SledgeStove$Village"
  | 2 => .object "SledgeStove$Village"
  | 3 => .object "SledgeStove$Village"
  | 4 => .object "SledgeStove$Village"
  | 5 => .array (.object "SledgeStove$Sheet")
  | 6 => .array .int
  | 7 => .array .int
  | 8 => .object "SledgeStove$Reader"
  | 9 => .int
  | _ => .boolean
abbrev wsX80 : List Cond := u_ws RX8 TX8 11
theorem nmX8 : ∀ a, a < 11 → ∀ b, b < 11 → a ≠ b → (TX8 a).2.1 ≠ (TX8 b).2.1 := by decide +kernel
theorem tyX8_ok : ∀ k, k < 11 → parseFieldDescriptor (TX8 k).2.2.1 = some (tyX8 k) := by decide +kernel
abbrev cX8_init : ByteArray := prog_1_method_1_code
def yX8_init : MethodName := ⟨RX8, "<init>", "()V"⟩
abbrev cX8_house : ByteArray := prog_1_method_2_code
def yX8_house : MethodName := ⟨RX8, "house", "(I)I"⟩
abbrev cX8_of : ByteArray := prog_1_method_3_code
def yX8_of : MethodName := ⟨RX8, "of", "(II)I"⟩
abbrev cX8_change : ByteArray := prog_1_method_4_code
def yX8_change : MethodName := ⟨RX8, "change", "(III)I"⟩
abbrev cX8_steep : ByteArray := prog_1_method_5_code
def yX8_steep : MethodName := ⟨RX8, "steep", "(II)I"⟩
abbrev cX8_weather : ByteArray := prog_1_method_6_code
def yX8_weather : MethodName := ⟨RX8, "weather", "(II)I"⟩
abbrev cX8_lend : ByteArray := prog_1_method_7_code
def yX8_lend : MethodName := ⟨RX8, "lend", "(III)I"⟩
abbrev cX8_way : ByteArray := prog_1_method_8_code
def yX8_way : MethodName := ⟨RX8, "way", "(II)I"⟩
abbrev cX8_send : ByteArray := prog_1_method_9_code
def yX8_send : MethodName := ⟨RX8, "send", "(I)I"⟩
abbrev cX8_quarters : ByteArray := prog_1_method_10_code
def yX8_quarters : MethodName := ⟨RX8, "quarters", "(I)I"⟩
abbrev cX8_now : ByteArray := prog_1_method_11_code
def yX8_now : MethodName := ⟨RX8, "now", "(I)I"⟩
abbrev cX8_ahead : ByteArray := prog_1_method_12_code
def yX8_ahead : MethodName := ⟨RX8, "ahead", "(II)I"⟩
abbrev cX8_cold : ByteArray := prog_1_method_13_code
def yX8_cold : MethodName := ⟨RX8, "cold", "(I)I"⟩
abbrev cX8_bake : ByteArray := prog_1_method_14_code
def yX8_bake : MethodName := ⟨RX8, "bake", "(I)I"⟩
abbrev cX8_best : ByteArray := prog_1_method_15_code
def yX8_best : MethodName := ⟨RX8, "best", "(I)I"⟩
abbrev cX8_lost : ByteArray := prog_1_method_16_code
def yX8_lost : MethodName := ⟨RX8, "lost", "(I)I"⟩
abbrev cX8_stay : ByteArray := prog_1_method_17_code
def yX8_stay : MethodName := ⟨RX8, "stay", "(II)I"⟩
abbrev cX8_logs : ByteArray := prog_1_method_18_code
def yX8_logs : MethodName := ⟨RX8, "logs", "(II)I"⟩
abbrev cX8_wall : ByteArray := prog_1_method_19_code
def yX8_wall : MethodName := ⟨RX8, "wall", "(II)I"⟩
abbrev cX8_straw : ByteArray := prog_1_method_20_code
def yX8_straw : MethodName := ⟨RX8, "straw", "(I)I"⟩
abbrev cX8_kindFor : ByteArray := prog_1_method_21_code
def yX8_kindFor : MethodName := ⟨RX8, "kindFor", "(II)I"⟩
abbrev cX8_round : ByteArray := prog_1_method_22_code
def yX8_round : MethodName := ⟨RX8, "round", "(I)I"⟩
abbrev cX8_takes : ByteArray := prog_1_method_23_code
def yX8_takes : MethodName := ⟨RX8, "takes", "(I)I"⟩
abbrev cX8_three : ByteArray := prog_1_method_24_code
def yX8_three : MethodName := ⟨RX8, "three", "(I)I"⟩
abbrev cX8_least : ByteArray := prog_1_method_25_code
def yX8_least : MethodName := ⟨RX8, "least", "(I)I"⟩
abbrev cX8_pace : ByteArray := prog_1_method_26_code
def yX8_pace : MethodName := ⟨RX8, "pace", "()I"⟩
abbrev cX8_thrift : ByteArray := prog_1_method_27_code
def yX8_thrift : MethodName := ⟨RX8, "thrift", "(I)I"⟩
abbrev cX8_middle : ByteArray := prog_1_method_28_code
def yX8_middle : MethodName := ⟨RX8, "middle", "()I"⟩
abbrev cX8_calls : ByteArray := prog_1_method_29_code
def yX8_calls : MethodName := ⟨RX8, "calls", "(I)I"⟩
abbrev cX8_seed : ByteArray := prog_1_method_30_code
def yX8_seed : MethodName := ⟨RX8, "seed", "(I)I"⟩
abbrev cX8_feed : ByteArray := prog_1_method_31_code
def yX8_feed : MethodName := ⟨RX8, "feed", "(II)I"⟩
abbrev cX8_wipe : ByteArray := prog_1_method_32_code
def yX8_wipe : MethodName := ⟨RX8, "wipe", "()I"⟩
abbrev cX8_text : ByteArray := prog_1_method_33_code
def yX8_text : MethodName := ⟨RX8, "text", "()I"⟩
abbrev cX8_hold : ByteArray := prog_1_method_34_code
def yX8_hold : MethodName := ⟨RX8, "hold", "(II)I"⟩
abbrev cX8_as : ByteArray := prog_1_method_35_code
def yX8_as : MethodName := ⟨RX8, "as", "(II)I"⟩
abbrev cX8_sheet : ByteArray := prog_1_method_36_code
def yX8_sheet : MethodName := ⟨RX8, "sheet", "(III)I"⟩
abbrev cX8_write : ByteArray := prog_1_method_37_code
def yX8_write : MethodName := ⟨RX8, "write", "(III)I"⟩
abbrev cX8_copy : ByteArray := prog_1_method_38_code
def yX8_copy : MethodName := ⟨RX8, "copy", "(IIIII)I"⟩
abbrev cX8_load : ByteArray := prog_1_method_39_code
def yX8_load : MethodName := ⟨RX8, "load", "(I)I"⟩
abbrev cX8_rounds : ByteArray := prog_1_method_40_code
def yX8_rounds : MethodName := ⟨RX8, "rounds", "(II)I"⟩
abbrev cX8_diary : ByteArray := prog_1_method_41_code
def yX8_diary : MethodName := ⟨RX8, "diary", "(II)I"⟩
abbrev cX8_judge : ByteArray := prog_1_method_42_code
def yX8_judge : MethodName := ⟨RX8, "judge", "(II)I"⟩
abbrev cX8_image : ByteArray := prog_1_method_43_code
def yX8_image : MethodName := ⟨RX8, "image", "()I"⟩
abbrev cX8_undo : ByteArray := prog_1_method_44_code
def yX8_undo : MethodName := ⟨RX8, "undo", "()I"⟩
abbrev cX8_tear : ByteArray := prog_1_method_45_code
def yX8_tear : MethodName := ⟨RX8, "tear", "()I"⟩
abbrev cX8_count : ByteArray := prog_1_method_46_code
def yX8_count : MethodName := ⟨RX8, "count", "(I)I"⟩
abbrev cX8_status : ByteArray := prog_1_method_47_code
def yX8_status : MethodName := ⟨RX8, "status", "(I)I"⟩
abbrev cX8_within : ByteArray := prog_1_method_48_code
def yX8_within : MethodName := ⟨RX8, "within", "(III)Z"⟩
abbrev cX8_lowest : ByteArray := prog_1_method_49_code
def yX8_lowest : MethodName := ⟨RX8, "lowest", "(I)I"⟩
abbrev cX8_highest : ByteArray := prog_1_method_50_code
def yX8_highest : MethodName := ⟨RX8, "highest", "(I)I"⟩
abbrev cX8_fail : ByteArray := prog_1_method_51_code
def yX8_fail : MethodName := ⟨RX8, "fail", "(I)I"⟩
abbrev cX8_endsTooLate : ByteArray := prog_1_method_52_code
def yX8_endsTooLate : MethodName := ⟨RX8, "endsTooLate", "(I)Z"⟩
abbrev cX8_cannotStart : ByteArray := prog_1_method_53_code
def yX8_cannotStart : MethodName := ⟨RX8, "cannotStart", "(I)Z"⟩
abbrev cX8_roundFinding : ByteArray := prog_1_method_54_code
def yX8_roundFinding : MethodName := ⟨RX8, "roundFinding", "(I)I"⟩
abbrev cX8_trial : ByteArray := prog_1_method_55_code
def yX8_trial : MethodName := ⟨RX8, "trial", "()LSledgeStove$Village;"⟩
abbrev cX8_sentTo : ByteArray := prog_1_method_56_code
def yX8_sentTo : MethodName := ⟨RX8, "sentTo", "(II)LSledgeStove$Village;"⟩
abbrev cX8_changed : ByteArray := prog_1_method_57_code
def yX8_changed : MethodName := ⟨RX8, "changed", "(IIII)LSledgeStove$House;"⟩
abbrev cX8_leastValue : ByteArray := prog_1_method_58_code
def yX8_leastValue : MethodName := ⟨RX8, "leastValue", "(III)I"⟩
abbrev cX8_wholeRound : ByteArray := prog_1_method_59_code
def yX8_wholeRound : MethodName := ⟨RX8, "wholeRound", "(I)LSledgeStove$Village;"⟩
abbrev cX8_tryThrees : ByteArray := prog_1_method_60_code
def yX8_tryThrees : MethodName := ⟨RX8, "tryThrees", "(ILSledgeStove$Wish;)V"⟩
abbrev cX8_sheetAt : ByteArray := prog_1_method_61_code
def yX8_sheetAt : MethodName := ⟨RX8, "sheetAt", "(I)LSledgeStove$Sheet;"⟩
abbrev cX8_tellsHouses : ByteArray := prog_1_method_62_code
def yX8_tellsHouses : MethodName := ⟨RX8, "tellsHouses", "(LSledgeStove$Sheet;)Z"⟩
def RX9 : String := "SledgeStoveModel"
def TX9 : u_T := fun k => match k with
  | 0 => ("SledgeStoveModel", "s", "[I", true)
  | 1 => ("SledgeStoveModel", "keptS", "[I", true)
  | 2 => ("SledgeStoveModel", "other", "[I", true)
  | 3 => ("SledgeStoveModel", "statuses", "[I", true)
  | 4 => ("SledgeStoveModel", "isKept", "Z", false)
  | 5 => ("SledgeStoveModel", "isAway", "Z", false)
  | 6 => ("SledgeStoveModel", "leastSeen", "I", false)
  | 7 => ("SledgeStoveModel", "isColdSeen", "Z", false)
  | 8 => ("SledgeStoveModel", "floor", "I", false)
  | 9 => ("SledgeStoveModel", "isWarmAsked", "Z", false)
  | 10 => ("SledgeStoveModel", "stood", "[I", true)
  | 11 => ("SledgeStoveModel", "leastStood", "[I", true)
  | 12 => ("SledgeStoveModel", "bestTold", "I", false)
  | 13 => ("SledgeStoveModel", "bestLeast", "I", false)
  | 14 => ("SledgeStoveModel", "fewestBurnt", "I", false)
  | 15 => ("SledgeStoveModel", "manyTold", "I", false)
  | 16 => ("SledgeStoveModel", "tape", "[I", true)
  | 17 => ("SledgeStoveModel", "taped", "I", false)
  | 18 => ("SledgeStoveModel", "from", "I", false)
  | 19 => ("SledgeStoveModel", "to", "I", false)
  | 20 => ("SledgeStoveModel", "value", "I", false)
  | 21 => ("SledgeStoveModel", "isWrong", "Z", false)
  | 22 => ("SledgeStoveModel", "bitsOf", "[I", true)
  | 23 => ("SledgeStoveModel", "sizeOf", "[I", true)
  | 24 => ("SledgeStoveModel", "number", "[I", true)
  | _ => ("SledgeStoveModel", "moved", "[I", true)
def tyX9 : Nat → FieldType := fun k => match k with
  | 0 => .array .int
  | 1 => .array .int
  | 2 => .array .int
  | 3 => .array .int
  | 4 => .boolean
  | 5 => .boolean
  | 6 => .int
  | 7 => .boolean
  | 8 => .int
  | 9 => .boolean
  | 10 => .array .int
  | 11 => .array .int
  | 12 => .int
  | 13 => .int
  | 14 => .int
  | 15 => .int
  | 16 => .array .int
  | 17 => .int
  | 18 => .int
  | 19 => .int
  | 20 => .int
  | 21 => .boolean
  | 22 => .array .int
  | 23 => .array .int
  | 24 => .array .int
  | _ => .array .int
abbrev wsX90 : List Cond := u_ws RX9 TX9 26
theorem nmX9 : ∀ a, a < 26 → ∀ b, b < 26 → a ≠ b → (TX9 a).2.1 ≠ (TX9 b).2.1 := by decide +kernel
theorem tyX9_ok : ∀ k, k < 26 → parseFieldDescriptor (TX9 k).2.2.1 = some (tyX9 k) := by decide +kernel
abbrev cX9_init : ByteArray := prog_11_method_1_code
def yX9_init : MethodName := ⟨RX9, "<init>", "()V"⟩
abbrev cX9_in : ByteArray := prog_11_method_2_code
def yX9_in : MethodName := ⟨RX9, "in", "(JJJ)Z"⟩
abbrev cX9_finds : ByteArray := prog_11_method_3_code
def yX9_finds : MethodName := ⟨RX9, "finds", "(I)I"⟩
abbrev cX9_isHouse : ByteArray := prog_11_method_4_code
def yX9_isHouse : MethodName := ⟨RX9, "isHouse", "(I)Z"⟩
abbrev cX9_draw : ByteArray := prog_11_method_5_code
def yX9_draw : MethodName := ⟨RX9, "draw", "()I"⟩
abbrev cX9_saves : ByteArray := prog_11_method_6_code
def yX9_saves : MethodName := ⟨RX9, "saves", "()V"⟩
abbrev cX9_putsBack : ByteArray := prog_11_method_7_code
def yX9_putsBack : MethodName := ⟨RX9, "putsBack", "()V"⟩
abbrev cX9_at : ByteArray := prog_11_method_8_code
def yX9_at : MethodName := ⟨RX9, "at", "(II)I"⟩
abbrev cX9_its : ByteArray := prog_11_method_9_code
def yX9_its : MethodName := ⟨RX9, "its", "(II)I"⟩
abbrev cX9_newHouse : ByteArray := prog_11_method_10_code
def yX9_newHouse : MethodName := ⟨RX9, "newHouse", "(IIIII)I"⟩
abbrev cX9_house : ByteArray := prog_11_method_11_code
def yX9_house : MethodName := ⟨RX9, "house", "(I)I"⟩
abbrev cX9_heats : ByteArray := prog_11_method_12_code
def yX9_heats : MethodName := ⟨RX9, "heats", "(I)I"⟩
abbrev cX9_loses : ByteArray := prog_11_method_13_code
def yX9_loses : MethodName := ⟨RX9, "loses", "(I)I"⟩
abbrev cX9_burns : ByteArray := prog_11_method_14_code
def yX9_burns : MethodName := ⟨RX9, "burns", "(I)I"⟩
abbrev cX9_of : ByteArray := prog_11_method_15_code
def yX9_of : MethodName := ⟨RX9, "of", "(II)I"⟩
abbrev cX9_isPart : ByteArray := prog_11_method_16_code
def yX9_isPart : MethodName := ⟨RX9, "isPart", "(II)Z"⟩
abbrev cX9_change : ByteArray := prog_11_method_17_code
def yX9_change : MethodName := ⟨RX9, "change", "(III)I"⟩
abbrev cX9_steep : ByteArray := prog_11_method_18_code
def yX9_steep : MethodName := ⟨RX9, "steep", "(II)I"⟩
abbrev cX9_weather : ByteArray := prog_11_method_19_code
def yX9_weather : MethodName := ⟨RX9, "weather", "(II)I"⟩
abbrev cX9_lend : ByteArray := prog_11_method_20_code
def yX9_lend : MethodName := ⟨RX9, "lend", "(III)I"⟩
abbrev cX9_wayOf : ByteArray := prog_11_method_21_code
def yX9_wayOf : MethodName := ⟨RX9, "wayOf", "(II)I"⟩
abbrev cX9_way : ByteArray := prog_11_method_22_code
def yX9_way : MethodName := ⟨RX9, "way", "(II)I"⟩
abbrev cX9_sends : ByteArray := prog_11_method_23_code
def yX9_sends : MethodName := ⟨RX9, "sends", "(I)V"⟩
abbrev cX9_isGoing : ByteArray := prog_11_method_24_code
def yX9_isGoing : MethodName := ⟨RX9, "isGoing", "()Z"⟩
abbrev cX9_send : ByteArray := prog_11_method_25_code
def yX9_send : MethodName := ⟨RX9, "send", "(I)I"⟩
abbrev cX9_warms : ByteArray := prog_11_method_26_code
def yX9_warms : MethodName := ⟨RX9, "warms", "(II)V"⟩
abbrev cX9_getsOf : ByteArray := prog_11_method_27_code
def yX9_getsOf : MethodName := ⟨RX9, "getsOf", "(II)V"⟩
abbrev cX9_quarter : ByteArray := prog_11_method_28_code
def yX9_quarter : MethodName := ⟨RX9, "quarter", "()V"⟩
abbrev cX9_quartersGo : ByteArray := prog_11_method_29_code
def yX9_quartersGo : MethodName := ⟨RX9, "quartersGo", "(I)V"⟩
abbrev cX9_isAbove : ByteArray := prog_11_method_30_code
def yX9_isAbove : MethodName := ⟨RX9, "isAbove", "(I)Z"⟩
abbrev cX9_isTooLate : ByteArray := prog_11_method_31_code
def yX9_isTooLate : MethodName := ⟨RX9, "isTooLate", "(I)Z"⟩
abbrev cX9_sumOf : ByteArray := prog_11_method_32_code
def yX9_sumOf : MethodName := ⟨RX9, "sumOf", "(I)I"⟩
abbrev cX9_quarters : ByteArray := prog_11_method_33_code
def yX9_quarters : MethodName := ⟨RX9, "quarters", "(I)I"⟩
abbrev cX9_isCold : ByteArray := prog_11_method_34_code
def yX9_isCold : MethodName := ⟨RX9, "isCold", "(I)Z"⟩
abbrev cX9_coldSet : ByteArray := prog_11_method_35_code
def yX9_coldSet : MethodName := ⟨RX9, "coldSet", "()I"⟩
abbrev cX9_now : ByteArray := prog_11_method_36_code
def yX9_now : MethodName := ⟨RX9, "now", "(I)I"⟩
abbrev cX9_leastWarmth : ByteArray := prog_11_method_37_code
def yX9_leastWarmth : MethodName := ⟨RX9, "leastWarmth", "()I"⟩
abbrev cX9_ahead : ByteArray := prog_11_method_38_code
def yX9_ahead : MethodName := ⟨RX9, "ahead", "(II)I"⟩
abbrev cX9_cold : ByteArray := prog_11_method_39_code
def yX9_cold : MethodName := ⟨RX9, "cold", "(I)I"⟩
abbrev cX9_bake : ByteArray := prog_11_method_40_code
def yX9_bake : MethodName := ⟨RX9, "bake", "(I)I"⟩
abbrev cX9_isSpan : ByteArray := prog_11_method_41_code
def yX9_isSpan : MethodName := ⟨RX9, "isSpan", "(I)Z"⟩
abbrev cX9_isFixed : ByteArray := prog_11_method_42_code
def yX9_isFixed : MethodName := ⟨RX9, "isFixed", "(I)Z"⟩
abbrev cX9_best : ByteArray := prog_11_method_43_code
def yX9_best : MethodName := ⟨RX9, "best", "(I)I"⟩
abbrev cX9_lost : ByteArray := prog_11_method_44_code
def yX9_lost : MethodName := ⟨RX9, "lost", "(I)I"⟩
abbrev cX9_stay : ByteArray := prog_11_method_45_code
def yX9_stay : MethodName := ⟨RX9, "stay", "(II)I"⟩
abbrev cX9_leastPart : ByteArray := prog_11_method_46_code
def yX9_leastPart : MethodName := ⟨RX9, "leastPart", "(IIIII)I"⟩
abbrev cX9_logs : ByteArray := prog_11_method_47_code
def yX9_logs : MethodName := ⟨RX9, "logs", "(II)I"⟩
abbrev cX9_wall : ByteArray := prog_11_method_48_code
def yX9_wall : MethodName := ⟨RX9, "wall", "(II)I"⟩
abbrev cX9_straw : ByteArray := prog_11_method_49_code
def yX9_straw : MethodName := ⟨RX9, "straw", "(I)I"⟩
abbrev cX9_kindFor : ByteArray := prog_11_method_50_code
def yX9_kindFor : MethodName := ⟨RX9, "kindFor", "(II)I"⟩
abbrev cX9_begins : ByteArray := prog_11_method_51_code
def yX9_begins : MethodName := ⟨RX9, "begins", "()V"⟩
abbrev cX9_isDone : ByteArray := prog_11_method_52_code
def yX9_isDone : MethodName := ⟨RX9, "isDone", "()Z"⟩
abbrev cX9_watches : ByteArray := prog_11_method_53_code
def yX9_watches : MethodName := ⟨RX9, "watches", "(I)V"⟩
abbrev cX9_stands : ByteArray := prog_11_method_54_code
def yX9_stands : MethodName := ⟨RX9, "stands", "(I)V"⟩
abbrev cX9_standsAgain : ByteArray := prog_11_method_55_code
def yX9_standsAgain : MethodName := ⟨RX9, "standsAgain", "(I)V"⟩
abbrev cX9_visits : ByteArray := prog_11_method_56_code
def yX9_visits : MethodName := ⟨RX9, "visits", "(II)V"⟩
abbrev cX9_goesRound : ByteArray := prog_11_method_57_code
def yX9_goesRound : MethodName := ⟨RX9, "goesRound", "(I)V"⟩
abbrev cX9_ended : ByteArray := prog_11_method_58_code
def yX9_ended : MethodName := ⟨RX9, "ended", "(III)V"⟩
abbrev cX9_thirds : ByteArray := prog_11_method_59_code
def yX9_thirds : MethodName := ⟨RX9, "thirds", "(IIII)V"⟩
abbrev cX9_seconds : ByteArray := prog_11_method_60_code
def yX9_seconds : MethodName := ⟨RX9, "seconds", "(IIII)V"⟩
abbrev cX9_threes : ByteArray := prog_11_method_61_code
def yX9_threes : MethodName := ⟨RX9, "threes", "(III)V"⟩
abbrev cX9_isStay : ByteArray := prog_11_method_62_code
def yX9_isStay : MethodName := ⟨RX9, "isStay", "(I)Z"⟩
abbrev cX9_isBarred : ByteArray := prog_11_method_63_code
def yX9_isBarred : MethodName := ⟨RX9, "isBarred", "()Z"⟩
abbrev cX9_leastRound : ByteArray := prog_11_method_64_code
def yX9_leastRound : MethodName := ⟨RX9, "leastRound", "(I)I"⟩
abbrev cX9_round : ByteArray := prog_11_method_65_code
def yX9_round : MethodName := ⟨RX9, "round", "(I)I"⟩
abbrev cX9_takes : ByteArray := prog_11_method_66_code
def yX9_takes : MethodName := ⟨RX9, "takes", "(I)I"⟩
abbrev cX9_three : ByteArray := prog_11_method_67_code
def yX9_three : MethodName := ⟨RX9, "three", "(I)I"⟩
abbrev cX9_least : ByteArray := prog_11_method_68_code
def yX9_least : MethodName := ⟨RX9, "least", "(I)I"⟩
abbrev cX9_pace : ByteArray := prog_11_method_69_code
def yX9_pace : MethodName := ⟨RX9, "pace", "()I"⟩
abbrev cX9_thrift : ByteArray := prog_11_method_70_code
def yX9_thrift : MethodName := ⟨RX9, "thrift", "(I)I"⟩
abbrev cX9_middle : ByteArray := prog_11_method_71_code
def yX9_middle : MethodName := ⟨RX9, "middle", "()I"⟩
abbrev cX9_ones : ByteArray := prog_11_method_72_code
def yX9_ones : MethodName := ⟨RX9, "ones", "(I)I"⟩
abbrev cX9_calls : ByteArray := prog_11_method_73_code
def yX9_calls : MethodName := ⟨RX9, "calls", "(I)I"⟩
abbrev cX9_seed : ByteArray := prog_11_method_74_code
def yX9_seed : MethodName := ⟨RX9, "seed", "(I)I"⟩
abbrev cX9_feed : ByteArray := prog_11_method_75_code
def yX9_feed : MethodName := ⟨RX9, "feed", "(II)I"⟩
abbrev cX9_wipe : ByteArray := prog_11_method_76_code
def yX9_wipe : MethodName := ⟨RX9, "wipe", "()I"⟩
abbrev cX9_byteAt : ByteArray := prog_11_method_77_code
def yX9_byteAt : MethodName := ⟨RX9, "byteAt", "(I)I"⟩
abbrev cX9_isLetter : ByteArray := prog_11_method_78_code
def yX9_isLetter : MethodName := ⟨RX9, "isLetter", "(I)Z"⟩
abbrev cX9_isDigit : ByteArray := prog_11_method_79_code
def yX9_isDigit : MethodName := ⟨RX9, "isDigit", "(I)Z"⟩
abbrev cX9_token : ByteArray := prog_11_method_80_code
def yX9_token : MethodName := ⟨RX9, "token", "()V"⟩
abbrev cX9_needs : ByteArray := prog_11_method_81_code
def yX9_needs : MethodName := ⟨RX9, "needs", "(Z)V"⟩
abbrev cX9_word : ByteArray := prog_11_method_82_code
def yX9_word : MethodName := ⟨RX9, "word", "()J"⟩
abbrev cX9_number : ByteArray := prog_11_method_83_code
def yX9_number : MethodName := ⟨RX9, "number", "(II)V"⟩
abbrev cX9_kindHere : ByteArray := prog_11_method_84_code
def yX9_kindHere : MethodName := ⟨RX9, "kindHere", "()I"⟩
abbrev cX9_perhaps : ByteArray := prog_11_method_85_code
def yX9_perhaps : MethodName := ⟨RX9, "perhaps", "(ZIII)I"⟩
abbrev cX9_houseItem : ByteArray := prog_11_method_86_code
def yX9_houseItem : MethodName := ⟨RX9, "houseItem", "(I)V"⟩
abbrev cX9_steepItem : ByteArray := prog_11_method_87_code
def yX9_steepItem : MethodName := ⟨RX9, "steepItem", "()V"⟩
abbrev cX9_item : ByteArray := prog_11_method_88_code
def yX9_item : MethodName := ⟨RX9, "item", "()V"⟩
abbrev cX9_text : ByteArray := prog_11_method_89_code
def yX9_text : MethodName := ⟨RX9, "text", "()I"⟩
abbrev cX9_hold : ByteArray := prog_11_method_90_code
def yX9_hold : MethodName := ⟨RX9, "hold", "(II)I"⟩
abbrev cX9_as : ByteArray := prog_11_method_91_code
def yX9_as : MethodName := ⟨RX9, "as", "(II)I"⟩
abbrev cX9_isOne : ByteArray := prog_11_method_92_code
def yX9_isOne : MethodName := ⟨RX9, "isOne", "(I)Z"⟩
abbrev cX9_sheet : ByteArray := prog_11_method_93_code
def yX9_sheet : MethodName := ⟨RX9, "sheet", "(III)I"⟩
abbrev cX9_narrowed : ByteArray := prog_11_method_94_code
def yX9_narrowed : MethodName := ⟨RX9, "narrowed", "(II)I"⟩
abbrev cX9_wrong : ByteArray := prog_11_method_95_code
def yX9_wrong : MethodName := ⟨RX9, "wrong", "(I)I"⟩
abbrev cX9_write : ByteArray := prog_11_method_96_code
def yX9_write : MethodName := ⟨RX9, "write", "(III)I"⟩
abbrev cX9_copy : ByteArray := prog_11_method_97_code
def yX9_copy : MethodName := ⟨RX9, "copy", "(IIIII)I"⟩
abbrev cX9_load : ByteArray := prog_11_method_98_code
def yX9_load : MethodName := ⟨RX9, "load", "(I)I"⟩
abbrev cX9_rounds : ByteArray := prog_11_method_99_code
def yX9_rounds : MethodName := ⟨RX9, "rounds", "(II)I"⟩
abbrev cX9_diary : ByteArray := prog_11_method_100_code
def yX9_diary : MethodName := ⟨RX9, "diary", "(II)I"⟩
abbrev cX9_judge : ByteArray := prog_11_method_101_code
def yX9_judge : MethodName := ⟨RX9, "judge", "(II)I"⟩
abbrev cX9_image : ByteArray := prog_11_method_102_code
def yX9_image : MethodName := ⟨RX9, "image", "()I"⟩
abbrev cX9_undo : ByteArray := prog_11_method_103_code
def yX9_undo : MethodName := ⟨RX9, "undo", "()I"⟩
abbrev cX9_tear : ByteArray := prog_11_method_104_code
def yX9_tear : MethodName := ⟨RX9, "tear", "()I"⟩
abbrev cX9_held : ByteArray := prog_11_method_105_code
def yX9_held : MethodName := ⟨RX9, "held", "()I"⟩
abbrev cX9_count : ByteArray := prog_11_method_106_code
def yX9_count : MethodName := ⟨RX9, "count", "(I)I"⟩
abbrev cX9_status : ByteArray := prog_11_method_107_code
def yX9_status : MethodName := ⟨RX9, "status", "(I)I"⟩
def RJ6 : String := "java/lang/Integer"
abbrev cJ6_bitCount_0f7a4 : ByteArray := prog_12_method_49_code
def yJ6_bitCount_0f7a4 : MethodName := ⟨RJ6, "bitCount", "(I)I"⟩
def RJ9 : String := "java/lang/Math"
abbrev cJ9_max_7cf53 : ByteArray := prog_13_method_65_code
def yJ9_max_7cf53 : MethodName := ⟨RJ9, "max", "(II)I"⟩
abbrev cJ9_min_7cf53 : ByteArray := prog_13_method_69_code
def yJ9_min_7cf53 : MethodName := ⟨RJ9, "min", "(II)I"⟩
def RJ0 : String := "java/lang/String"
abbrev cJ0_length_8abf5 : ByteArray := prog_14_method_54_code
def yJ0_length_8abf5 : MethodName := ⟨RJ0, "length", "()I"⟩
abbrev cJ0_charAt_5068e : ByteArray := prog_14_method_56_code
def yJ0_charAt_5068e : MethodName := ⟨RJ0, "charAt", "(I)C"⟩
abbrev cJ0_coder_7d493 : ByteArray := prog_14_method_152_code
def yJ0_coder_7d493 : MethodName := ⟨RJ0, "coder", "()B"⟩
abbrev cJ0_isLatin1_aae02 : ByteArray := prog_14_method_154_code
def yJ0_isLatin1_aae02 : MethodName := ⟨RJ0, "isLatin1", "()Z"⟩
abbrev cJ0_checkIndex_df160 : ByteArray := prog_14_method_155_code
def yJ0_checkIndex_df160 : MethodName := ⟨RJ0, "checkIndex", "(II)V"⟩
def RJ1 : String := "java/lang/StringLatin1"
abbrev cJ1_charAt_3b067 : ByteArray := prog_15_method_2_code
def yJ1_charAt_3b067 : MethodName := ⟨RJ1, "charAt", "([BI)C"⟩
def RJ2 : String := "java/lang/StringUTF16"
abbrev cJ2_getChar_3b067 : ByteArray := prog_16_method_5_code
def yJ2_getChar_3b067 : MethodName := ⟨RJ2, "getChar", "([BI)C"⟩
abbrev cJ2_length_9d52b : ByteArray := prog_16_method_6_code
def yJ2_length_9d52b : MethodName := ⟨RJ2, "length", "([B)I"⟩
abbrev cJ2_charAt_3b067 : ByteArray := prog_16_method_83_code
def yJ2_charAt_3b067 : MethodName := ⟨RJ2, "charAt", "([BI)C"⟩
abbrev cJ2_checkIndex_2214a : ByteArray := prog_16_method_91_code
def yJ2_checkIndex_2214a : MethodName := ⟨RJ2, "checkIndex", "(I[B)V"⟩
def RJ10 : String := "java/lang/System"
def RJ3 : String := "jdk/internal/util/Preconditions"
abbrev cJ3_checkIndex_8e157 : ByteArray := prog_18_method_11_code
def yJ3_checkIndex_8e157 : MethodName := ⟨RJ3, "checkIndex", "(IILjava/util/function/BiFunction;)I"⟩
def RL : String := "SledgeStoveLaw"
/-- an instruction at its place, and the next place -/
def D1 (cc : ByteArray) (pc : Nat) (i : Instr) (n pc' : Nat) : Prop := decode cc pc = .ok (i, n) ∧ pc + n = pc'
/-- a jump at its place, the next place and the target -/
def DJ (cc : ByteArray) (pc : Nat) (i : Int → Instr) (pc' tgt : Nat) : Prop := ∃ off : Int, decode cc pc = .ok (i off, 3) ∧ pc + 3 = pc' ∧ (pc : Int) + off = (tgt : Int)
/-- the words that every method takes with it -/
def lw_gd : List Cond := lw_tbl.filter goodWord
theorem lw_gd_ok : GoodIn lw_gd lw_gd := fun w hw => ⟨hw, good_of_word (List.mem_filter.mp hw).2⟩
theorem lw_gd_sub : ∀ w ∈ lw_gd, w ∈ lw_tbl := fun w hw => (List.mem_filter.mp hw).1
theorem gd {w : Cond} (i : Nat) (h : (match lw_tbl[i]? with | some v => decide (v = w) | none => false) = true) (g : goodWord w = true) : w ∈ lw_gd := by
  refine List.mem_filter.mpr ⟨List.mem_of_getElem? (i := i) ?_, g⟩
  cases e : lw_tbl[i]? with
  | none => rw [e] at h; cases h
  | some v => rw [e] at h; rw [of_decide_eq_true h]
/-- the words on private members of a nest mate -/
def isNest : Cond → Bool
  | .fieldLinkNest .. => true
  | .methodLinkNest .. => true
  | _ => false
def lw_nw : List Cond := lw_tbl.filter isNest
theorem gdn {w : Cond} (i : Nat) (h : (match lw_tbl[i]? with | some v => decide (v = w) | none => false) = true) (g : isNest w = true) : w ∈ lw_nw := by
  refine List.mem_filter.mpr ⟨List.mem_of_getElem? (i := i) ?_, g⟩
  cases e : lw_tbl[i]? with
  | none => rw [e] at h; cases h
  | some v => rw [e] at h; rw [of_decide_eq_true h]
